def f_X11_image (q : SS)  : Option (Int32 × SS) :=
  (f_X1_keepImage q).bind fun r1 =>
  (f_X1_noted r1 (0 : Int32)).bind fun r2 =>
  some (r2, r1)
theorem e_X11_image {E : EE} (hE : GE E) (q : SS)  : R E (κI E) 4 174 0 [(0, .ref 0)] [] q (f_X11_image q) := by
  unfold f_X11_image
  refine r_aload_n (x := 0) dX11_image_0 rfl ?_
  refine r_getA dX11_image_1 (fa_11_76_0 hE) ?_
  refine r_callV (k := 0) (idx := 314) (y := 11) (as := [.ref 47]) (rest := []) (L0 := [(0, .ref 47)]) dX11_image_4 rfl rfl rfl rfl rfl (vok_v (ob_47 hE) rfl) rfl (r_dep (by decide) (e_X1_keepImage hE q)) (fun r1 => ?_)
  refine r_aload_n (x := 0) dX11_image_7 rfl ?_
  refine r_getA dX11_image_8 (fa_11_76_0 hE) ?_
  refine r_iconst (v := (0 : Int32)) dX11_image_11 rfl ?_
  refine r_calli (k := 0) (idx := 311) (y := 9) (as := [.ref 47, .int (0 : Int32)]) (rest := []) (L0 := [(0, .ref 47), (1, .int (0 : Int32))]) dX11_image_12 rfl rfl rfl rfl rfl (vok_v (ob_47 hE) rfl) rfl (r_dep (by decide) (e_X1_noted hE r1 (0 : Int32))) (fun r2 => ?_)
  exact r_ireturn dX11_image_15 rfl rfl
def b_X12_image_65 : SS → Int32 → Option (Int32 × SS) :=
  fx2 (fun (rec_65 : SS → Int32 → Option (Int32 × SS)) (q : SS) (l1 : Int32) =>
  if (4 : Int32) ≤ l1 then
  (if vin (0 : Int32) 4 then
  some ((q.1 83 (0 : Int32).toNatClampNeg), q)
  else none)
  else
  (if vin l1 4 then
  if vin l1 4 then
  nm (sI q 86 l1.toNatClampNeg (q.1 83 l1.toNatClampNeg)) fun q4 =>
  rec_65 q4 (l1 + (1 : Int32))
  else none
  else none)) FU
theorem rb_X12_image_65 {E : EE} (hE : GE E) (q : SS) (l1 : Int32) : R E (κI E) 0 268 65 [(0, .ref 60), (1, .int l1)] [] q (b_X12_image_65 q l1) := by
  unfold b_X12_image_65
  refine fx2_ok (P := fun q l1 o => R E (κI E) 0 268 65 [(0, .ref 60), (1, .int l1)] [] q o) (fun _ _ => r_no) (fun rec_65 hrec_65 q l1 => ?_) _ _ _
  refine r_iload_n (x := l1) dX12_image_65 rfl ?_
  refine r_iconst (v := (4 : Int32)) dX12_image_66 rfl ?_
  refine r_icmp_ge (t := 88) dX12_image_67 rfl (fun h5 => ?_) (fun h5 => ?_)
  · refine r_aload_n (x := 60) dX12_image_88 rfl ?_
    refine r_getA dX12_image_89 (fa_12_80_60 hE) ?_
    refine r_iconst (v := (0 : Int32)) dX12_image_92 rfl ?_
    refine r_iaload dX12_image_93 (ar_83 hE) ?_
    exact r_ireturn dX12_image_94 rfl rfl
  · refine r_aload_n (x := 60) dX12_image_70 rfl ?_
    refine r_getA dX12_image_71 (fa_12_89_60 hE) ?_
    refine r_iload_n (x := l1) dX12_image_74 rfl ?_
    refine r_aload_n (x := 60) dX12_image_75 rfl ?_
    refine r_getA dX12_image_76 (fa_12_80_60 hE) ?_
    refine r_iload_n (x := l1) dX12_image_79 rfl ?_
    refine r_iaload dX12_image_80 (ar_83 hE) ?_
    refine r_iastore dX12_image_81 (ar_86 hE) ?_
    refine r_nmS fun q4 _ => ?_
    refine r_iinc (x := l1) (v := (l1 + (1 : Int32))) (L2 := [(0, .ref 60), (1, .int (l1 + (1 : Int32)))]) dX12_image_82 rfl rfl rfl rfl ?_
    refine r_goto (t := 65) dX12_image_85 rfl ?_
    exact r_sub (L' := [(0, .ref 60), (1, .int (l1 + (1 : Int32)))]) (sub_c rfl (sub_c rfl sub_n)) (hrec_65 q4 (l1 + (1 : Int32)))
def b_X12_image_25 : SS → Int32 → Option (Int32 × SS) :=
  fx2 (fun (rec_25 : SS → Int32 → Option (Int32 × SS)) (q : SS) (l1 : Int32) =>
  if (q.1 60 6) ≤ l1 then
  (b_X12_image_65 q (0 : Int32))
  else
  (if vin l1 12 then
  if vin l1 12 then
  nm (sI q 84 l1.toNatClampNeg (q.1 65 l1.toNatClampNeg)) fun q6 =>
  if vin l1 12 then
  if vin l1 12 then
  nm (sI q6 85 l1.toNatClampNeg (q6.1 67 l1.toNatClampNeg)) fun q7 =>
  rec_25 q7 (l1 + (1 : Int32))
  else none
  else none
  else none
  else none)) FU
theorem rb_X12_image_25 {E : EE} (hE : GE E) (q : SS) (l1 : Int32) : R E (κI E) 0 268 25 [(0, .ref 60), (1, .int l1)] [] q (b_X12_image_25 q l1) := by
  unfold b_X12_image_25
  refine fx2_ok (P := fun q l1 o => R E (κI E) 0 268 25 [(0, .ref 60), (1, .int l1)] [] q o) (fun _ _ => r_no) (fun rec_25 hrec_25 q l1 => ?_) _ _ _
  refine r_iload_n (x := l1) dX12_image_25 rfl ?_
  refine r_aload_n (x := 60) dX12_image_26 rfl ?_
  refine r_getI dX12_image_27 (ff_12_122_60 hE) (by decide) ?_
  refine r_icmp_ge (t := 63) dX12_image_30 rfl (fun h8 => ?_) (fun h8 => ?_)
  · refine r_iconst (v := (0 : Int32)) dX12_image_63 rfl ?_
    refine r_istore_n (L2 := [(0, .ref 60), (1, .int (0 : Int32))]) dX12_image_64 rfl rfl ?_
    exact r_sub (L' := [(0, .ref 60), (1, .int (0 : Int32))]) (sub_c rfl (sub_c rfl sub_n)) (rb_X12_image_65 hE q (0 : Int32))
  · refine r_aload_n (x := 60) dX12_image_33 rfl ?_
    refine r_getA dX12_image_34 (fa_12_83_60 hE) ?_
    refine r_iload_n (x := l1) dX12_image_37 rfl ?_
    refine r_aload_n (x := 60) dX12_image_38 rfl ?_
    refine r_getA dX12_image_39 (fa_12_24_60 hE) ?_
    refine r_iload_n (x := l1) dX12_image_42 rfl ?_
    refine r_iaload dX12_image_43 (ar_65 hE) ?_
    refine r_iastore dX12_image_44 (ar_84 hE) ?_
    refine r_nmS fun q6 _ => ?_
    refine r_aload_n (x := 60) dX12_image_45 rfl ?_
    refine r_getA dX12_image_46 (fa_12_86_60 hE) ?_
    refine r_iload_n (x := l1) dX12_image_49 rfl ?_
    refine r_aload_n (x := 60) dX12_image_50 rfl ?_
    refine r_getA dX12_image_51 (fa_12_30_60 hE) ?_
    refine r_iload_n (x := l1) dX12_image_54 rfl ?_
    refine r_iaload dX12_image_55 (ar_67 hE) ?_
    refine r_iastore dX12_image_56 (ar_85 hE) ?_
    refine r_nmS fun q7 _ => ?_
    refine r_iinc (x := l1) (v := (l1 + (1 : Int32))) (L2 := [(0, .ref 60), (1, .int (l1 + (1 : Int32)))]) dX12_image_57 rfl rfl rfl rfl ?_
    refine r_goto (t := 25) dX12_image_60 rfl ?_
    exact r_sub (L' := [(0, .ref 60), (1, .int (l1 + (1 : Int32)))]) (sub_c rfl (sub_c rfl sub_n)) (hrec_25 q7 (l1 + (1 : Int32)))
def f_X12_image (q : SS)  : Option (Int32 × SS) :=
  nm (sI q 60 46 (1 : Int32)) fun q1 =>
  nm (sI q1 60 47 (q1.1 60 6)) fun q2 =>
  if vin (0 : Int32) 2 then
  nm (sI q2 60 48 (q2.1 68 (0 : Int32).toNatClampNeg)) fun q3 =>
  b_X12_image_25 q3 (0 : Int32)
  else none
theorem e_X12_image {E : EE} (hE : GE E) (q : SS)  : R E (κI E) 0 268 0 [(0, .ref 60)] [] q (f_X12_image q) := by
  unfold f_X12_image
  refine r_aload_n (x := 60) dX12_image_0 rfl ?_
  refine r_iconst (v := (1 : Int32)) dX12_image_1 rfl ?_
  refine r_putZC dX12_image_2 (ff_12_356_60 hE) (by decide) ?_
  refine r_nmS fun q1 _ => ?_
  refine r_aload_n (x := 60) dX12_image_5 rfl ?_
  refine r_aload_n (x := 60) dX12_image_6 rfl ?_
  refine r_getI dX12_image_7 (ff_12_122_60 hE) (by decide) ?_
  refine r_putI dX12_image_10 (ff_12_359_60 hE) ?_
  refine r_nmS fun q2 _ => ?_
  refine r_aload_n (x := 60) dX12_image_13 rfl ?_
  refine r_aload_n (x := 60) dX12_image_14 rfl ?_
  refine r_getA dX12_image_15 (fa_12_33_60 hE) ?_
  refine r_iconst (v := (0 : Int32)) dX12_image_18 rfl ?_
  refine r_iaload dX12_image_19 (ar_68 hE) ?_
  refine r_putI dX12_image_20 (ff_12_362_60 hE) ?_
  refine r_nmS fun q3 _ => ?_
  refine r_iconst (v := (0 : Int32)) dX12_image_23 rfl ?_
  refine r_istore_n (L2 := [(0, .ref 60), (1, .int (0 : Int32))]) dX12_image_24 rfl rfl ?_
  exact r_sub (L' := [(0, .ref 60), (1, .int (0 : Int32))]) (sub_c rfl (sub_c rfl sub_n)) (rb_X12_image_25 hE q3 (0 : Int32))
def b_X11_led_9 (q : SS)  : Option Int32 :=
  some (-1 : Int32)
theorem rb_X11_led_9 {E : EE} (hE : GE E) (q : SS)  : R E (κi E q) 1 173 9 [] [] q (b_X11_led_9 q) := by
  unfold b_X11_led_9
  refine r_iconst (v := (-1 : Int32)) dX11_led_9 rfl ?_
  refine r_goto (t := 21) dX11_led_10 rfl ?_
  exact r_ireturn dX11_led_21 rfl rfl
def f_X11_led (q : SS) (a1 : Int32) : Option Int32 :=
  if a1 < 0 then
  (b_X11_led_9 q)
  else
  (if a1 < (4 : Int32) then
  ((f_X1_noted q a1).bind fun r1 =>
  some r1)
  else
  (b_X11_led_9 q))
theorem e_X11_led {E : EE} (hE : GE E) (q : SS) (a1 : Int32) : R E (κi E q) 1 173 0 [(0, .ref 0), (1, .int a1)] [] q (f_X11_led q a1) := by
  unfold f_X11_led
  refine r_iload_n (x := a1) dX11_led_0 rfl ?_
  refine r_if_lt (t := 9) dX11_led_1 rfl (fun h3 => ?_) (fun h3 => ?_)
  · exact r_sub (L' := []) sub_n (rb_X11_led_9 hE q)
  · refine r_iload_n (x := a1) dX11_led_4 rfl ?_
    refine r_iconst (v := (4 : Int32)) dX11_led_5 rfl ?_
    refine r_icmp_lt (t := 13) dX11_led_6 rfl (fun h2 => ?_) (fun h2 => ?_)
    · refine r_aload_n (x := 0) dX11_led_13 rfl ?_
      refine r_getA dX11_led_14 (fa_11_76_0 hE) ?_
      refine r_iload_n (x := a1) dX11_led_17 rfl ?_
      refine r_calli (k := 0) (idx := 311) (y := 9) (as := [.ref 47, .int a1]) (rest := []) (L0 := [(0, .ref 47), (1, .int a1)]) dX11_led_18 rfl rfl rfl rfl rfl (vok_v (ob_47 hE) rfl) rfl (r_dep (by decide) (e_X1_noted hE q a1)) (fun r1 => ?_)
      exact r_ireturn dX11_led_21 rfl rfl
    · exact r_sub (L' := []) sub_n (rb_X11_led_9 hE q)
def f_X12_led (q : SS) (a1 : Int32) : Option Int32 :=
  (f_X12_in q a1 (0 : Int32) (3 : Int32)).bind fun r1 =>
  if r1 = 0 then
  (some (-1 : Int32))
  else
  (if vin a1 4 then
  some (q.1 83 a1.toNatClampNeg)
  else none)
theorem e_X12_led {E : EE} (hE : GE E) (q : SS) (a1 : Int32) : R E (κi E q) 1 267 0 [(0, .ref 60), (1, .int a1)] [] q (f_X12_led q a1) := by
  unfold f_X12_led
  refine r_iload_n (x := a1) dX12_led_0 rfl ?_
  refine r_iconst (v := (0 : Int32)) dX12_led_1 rfl ?_
  refine r_iconst (v := (3 : Int32)) dX12_led_2 rfl ?_
  refine r_calli (k := 2) (idx := 118) (y := 189) (as := [.int a1, .int (0 : Int32), .int (3 : Int32)]) (rest := []) (L0 := [(0, .int a1), (1, .int (0 : Int32)), (2, .int (3 : Int32))]) dX12_led_3 rfl rfl rfl rfl rfl vok_s rfl (r_dep (by decide) (e_X12_in hE q a1 (0 : Int32) (3 : Int32))) (fun r1 => ?_)
  refine r_if_eq (t := 18) dX12_led_6 rfl (fun h2 => ?_) (fun h2 => ?_)
  · refine r_iconst (v := (-1 : Int32)) dX12_led_18 rfl ?_
    exact r_ireturn dX12_led_19 rfl rfl
  · refine r_aload_n (x := 60) dX12_led_9 rfl ?_
    refine r_getA dX12_led_10 (fa_12_80_60 hE) ?_
    refine r_iload_n (x := a1) dX12_led_13 rfl ?_
    refine r_iaload dX12_led_14 (ar_83 hE) ?_
    refine r_goto (t := 19) dX12_led_15 rfl ?_
    exact r_ireturn dX12_led_19 rfl rfl
def f_X1_note (q : SS) (a1 : Int32) : Option SS :=
  if a1 < 0 then
  (some q)
  else
  (if (4 : Int32) ≤ a1 then
  (some q)
  else
  (if vin a1 4 then
  if vin a1 4 then
  nm (sI q 48 a1.toNatClampNeg ((q.1 48 a1.toNatClampNeg) + (1 : Int32))) fun q1 =>
  some q1
  else none
  else none))
theorem e_X1_note {E : EE} (hE : GE E) (q : SS) (a1 : Int32) : R E (κV E) 0 8 0 [(0, .ref 47), (1, .int a1)] [] q (f_X1_note q a1) := by
  unfold f_X1_note
  refine r_iload_n (x := a1) dX1_note_0 rfl ?_
  refine r_if_lt (t := 19) dX1_note_1 rfl (fun h3 => ?_) (fun h3 => ?_)
  · exact r_return dX1_note_19 rfl rfl
  · refine r_iload_n (x := a1) dX1_note_4 rfl ?_
    refine r_iconst (v := (4 : Int32)) dX1_note_5 rfl ?_
    refine r_icmp_ge (t := 19) dX1_note_6 rfl (fun h2 => ?_) (fun h2 => ?_)
    · exact r_return dX1_note_19 rfl rfl
    · refine r_aload_n (x := 47) dX1_note_9 rfl ?_
      refine r_getA dX1_note_10 (fa_1_15_47 hE) ?_
      refine r_iload_n (x := a1) dX1_note_13 rfl ?_
      refine r_dup2 dX1_note_14 ⟨rfl, rfl⟩ ?_
      refine r_iaload dX1_note_15 (ar_48 hE) ?_
      refine r_iconst (v := (1 : Int32)) dX1_note_16 rfl ?_
      refine r_iadd dX1_note_17 ?_
      refine r_iastore dX1_note_18 (ar_48 hE) ?_
      refine r_nmS fun q1 _ => ?_
      exact r_return dX1_note_19 rfl rfl
def b_X11_hour_25 (q : SS) (s0 : Int32) : Option (Int32 × SS) :=
  (f_X1_note q (3 : Int32)).bind fun r3 =>
  (f_X10_set r3 (7 : Int32) (0 : Int32) s0).bind fun r4 =>
  some (s0, r4)
theorem rb_X11_hour_25 {E : EE} (hE : GE E) (q : SS) (s0 : Int32) : R E (κI E) 3 172 25 [(0, .ref 0)] [.int s0] q (b_X11_hour_25 q s0) := by
  unfold b_X11_hour_25
  refine r_istore_n (L2 := [(0, .ref 0), (1, .int s0)]) dX11_hour_25 rfl rfl ?_
  refine r_aload_n (x := 0) dX11_hour_26 rfl ?_
  refine r_getA dX11_hour_27 (fa_11_76_0 hE) ?_
  refine r_iconst (v := (3 : Int32)) dX11_hour_30 rfl ?_
  refine r_callV (k := 0) (idx := 305) (y := 8) (as := [.ref 47, .int (3 : Int32)]) (rest := []) (L0 := [(0, .ref 47), (1, .int (3 : Int32))]) dX11_hour_31 rfl rfl rfl rfl rfl (vok_v (ob_47 hE) rfl) rfl (r_dep (by decide) (e_X1_note hE q (3 : Int32))) (fun r3 => ?_)
  refine r_aload_n (x := 0) dX11_hour_34 rfl ?_
  refine r_getA dX11_hour_35 (fa_11_10_0 hE) ?_
  refine r_bipush (v := (7 : Int32)) dX11_hour_38 rfl ?_
  refine r_iconst (v := (0 : Int32)) dX11_hour_40 rfl ?_
  refine r_iload_n (x := s0) dX11_hour_41 rfl ?_
  refine r_callV (k := 0) (idx := 136) (y := 135) (as := [.ref 1, .int (7 : Int32), .int (0 : Int32), .int s0]) (rest := []) (L0 := [(0, .ref 1), (1, .int (7 : Int32)), (2, .int (0 : Int32)), (3, .int s0)]) dX11_hour_42 rfl rfl rfl rfl rfl (vok_v (ob_1 hE) rfl) rfl (r_dep (by decide) (e_X10_set hE r3 (7 : Int32) (0 : Int32) s0)) (fun r4 => ?_)
  refine r_iload_n (x := s0) dX11_hour_45 rfl ?_
  exact r_ireturn dX11_hour_46 rfl rfl
def f_X11_hour (q : SS)  : Option (Int32 × SS) :=
  (f_X10_hourNow q).bind fun r1 =>
  if r1 < (11 : Int32) then
  ((f_X10_hourNow q).bind fun r2 =>
  b_X11_hour_25 q (r2 + (1 : Int32)))
  else
  (b_X11_hour_25 q (0 : Int32))
theorem e_X11_hour {E : EE} (hE : GE E) (q : SS)  : R E (κI E) 3 172 0 [(0, .ref 0)] [] q (f_X11_hour q) := by
  unfold f_X11_hour
  refine r_aload_n (x := 0) dX11_hour_0 rfl ?_
  refine r_getA dX11_hour_1 (fa_11_10_0 hE) ?_
  refine r_calli (k := 0) (idx := 308) (y := 127) (as := [.ref 1]) (rest := []) (L0 := [(0, .ref 1)]) dX11_hour_4 rfl rfl rfl rfl rfl (vok_v (ob_1 hE) rfl) rfl (r_dep (by decide) (e_X10_hourNow hE q)) (fun r1 => ?_)
  refine r_bipush (v := (11 : Int32)) dX11_hour_7 rfl ?_
  refine r_icmp_lt (t := 16) dX11_hour_9 rfl (fun h5 => ?_) (fun h5 => ?_)
  · refine r_aload_n (x := 0) dX11_hour_16 rfl ?_
    refine r_getA dX11_hour_17 (fa_11_10_0 hE) ?_
    refine r_calli (k := 0) (idx := 308) (y := 127) (as := [.ref 1]) (rest := []) (L0 := [(0, .ref 1)]) dX11_hour_20 rfl rfl rfl rfl rfl (vok_v (ob_1 hE) rfl) rfl (r_dep (by decide) (e_X10_hourNow hE q)) (fun r2 => ?_)
    refine r_iconst (v := (1 : Int32)) dX11_hour_23 rfl ?_
    refine r_iadd dX11_hour_24 ?_
    exact r_sub (L' := [(0, .ref 0)]) (sub_c rfl sub_n) (rb_X11_hour_25 hE q (r2 + (1 : Int32)))
  · refine r_iconst (v := (0 : Int32)) dX11_hour_12 rfl ?_
    refine r_goto (t := 25) dX11_hour_13 rfl ?_
    exact r_sub (L' := [(0, .ref 0)]) (sub_c rfl sub_n) (rb_X11_hour_25 hE q (0 : Int32))
def b_X12_hour_28 (q : SS) (s0 : Int32) (s1 : Int32) : Option (Int32 × SS) :=
  if vin s1 2 then
  nm (sI q 68 s1.toNatClampNeg s0) fun q1 =>
  if vin (3 : Int32) 4 then
  if vin (3 : Int32) 4 then
  nm (sI q1 83 (3 : Int32).toNatClampNeg ((q1.1 83 (3 : Int32).toNatClampNeg) + (1 : Int32))) fun q2 =>
  if vin (0 : Int32) 2 then
  some ((q2.1 68 (0 : Int32).toNatClampNeg), q2)
  else none
  else none
  else none
  else none
theorem rb_X12_hour_28 {E : EE} (hE : GE E) (q : SS) (s0 : Int32) (s1 : Int32) : R E (κI E) 0 266 28 [(0, .ref 60)] [.int s0, .int s1, .ref 68] q (b_X12_hour_28 q s0 s1) := by
  unfold b_X12_hour_28
  refine r_iastore dX12_hour_28 (ar_68 hE) ?_
  refine r_nmS fun q1 _ => ?_
  refine r_aload_n (x := 60) dX12_hour_29 rfl ?_
  refine r_getA dX12_hour_30 (fa_12_80_60 hE) ?_
  refine r_iconst (v := (3 : Int32)) dX12_hour_33 rfl ?_
  refine r_dup2 dX12_hour_34 ⟨rfl, rfl⟩ ?_
  refine r_iaload dX12_hour_35 (ar_83 hE) ?_
  refine r_iconst (v := (1 : Int32)) dX12_hour_36 rfl ?_
  refine r_iadd dX12_hour_37 ?_
  refine r_iastore dX12_hour_38 (ar_83 hE) ?_
  refine r_nmS fun q2 _ => ?_
  refine r_aload_n (x := 60) dX12_hour_39 rfl ?_
  refine r_getA dX12_hour_40 (fa_12_33_60 hE) ?_
  refine r_iconst (v := (0 : Int32)) dX12_hour_43 rfl ?_
  refine r_iaload dX12_hour_44 (ar_68 hE) ?_
  exact r_ireturn dX12_hour_45 rfl rfl
def f_X12_hour (q : SS)  : Option (Int32 × SS) :=
  if vin (0 : Int32) 2 then
  if (q.1 68 (0 : Int32).toNatClampNeg) = (11 : Int32) then
  (b_X12_hour_28 q (0 : Int32) (0 : Int32))
  else
  (if vin (0 : Int32) 2 then
  b_X12_hour_28 q ((q.1 68 (0 : Int32).toNatClampNeg) + (1 : Int32)) (0 : Int32)
  else none)
  else none
theorem e_X12_hour {E : EE} (hE : GE E) (q : SS)  : R E (κI E) 0 266 0 [(0, .ref 60)] [] q (f_X12_hour q) := by
  unfold f_X12_hour
  refine r_aload_n (x := 60) dX12_hour_0 rfl ?_
  refine r_getA dX12_hour_1 (fa_12_33_60 hE) ?_
  refine r_iconst (v := (0 : Int32)) dX12_hour_4 rfl ?_
  refine r_aload_n (x := 60) dX12_hour_5 rfl ?_
  refine r_getA dX12_hour_6 (fa_12_33_60 hE) ?_
  refine r_iconst (v := (0 : Int32)) dX12_hour_9 rfl ?_
  refine r_iaload dX12_hour_10 (ar_68 hE) ?_
  refine r_bipush (v := (11 : Int32)) dX12_hour_11 rfl ?_
  refine r_icmp_ne (t := 20) dX12_hour_13 rfl (fun h3 => ?_) (fun h3 => ?_)
  · refine r_iconst (v := (0 : Int32)) dX12_hour_16 rfl ?_
    refine r_goto (t := 28) dX12_hour_17 rfl ?_
    exact r_sub (L' := [(0, .ref 60)]) (sub_c rfl sub_n) (rb_X12_hour_28 hE q (0 : Int32) (0 : Int32))
  · refine r_aload_n (x := 60) dX12_hour_20 rfl ?_
    refine r_getA dX12_hour_21 (fa_12_33_60 hE) ?_
    refine r_iconst (v := (0 : Int32)) dX12_hour_24 rfl ?_
    refine r_iaload dX12_hour_25 (ar_68 hE) ?_
    refine r_iconst (v := (1 : Int32)) dX12_hour_26 rfl ?_
    refine r_iadd dX12_hour_27 ?_
    exact r_sub (L' := [(0, .ref 60)]) (sub_c rfl sub_n) (rb_X12_hour_28 hE q ((q.1 68 (0 : Int32).toNatClampNeg) + (1 : Int32)) (0 : Int32))
def f_X10_isTicket (q : SS) (a1 : Int32) : Option Int32 :=
  if a1 < 0 then
  (some (0 : Int32))
  else
  (if (q.1 1 2) ≤ a1 then
  (some (0 : Int32))
  else
  (some (1 : Int32)))
theorem e_X10_isTicket {E : EE} (hE : GE E) (q : SS) (a1 : Int32) : R E (κi E q) 0 129 0 [(0, .ref 1), (1, .int a1)] [] q (f_X10_isTicket q a1) := by
  unfold f_X10_isTicket
  refine r_iload_n (x := a1) dX10_isTicket_0 rfl ?_
  refine r_if_lt (t := 16) dX10_isTicket_1 rfl (fun h2 => ?_) (fun h2 => ?_)
  · refine r_iconst (v := (0 : Int32)) dX10_isTicket_16 rfl ?_
    exact r_ireturn dX10_isTicket_17 rfl rfl
  · refine r_iload_n (x := a1) dX10_isTicket_4 rfl ?_
    refine r_aload_n (x := 1) dX10_isTicket_5 rfl ?_
    refine r_getI dX10_isTicket_6 (ff_10_20_1 hE) (by decide) ?_
    refine r_icmp_ge (t := 16) dX10_isTicket_9 rfl (fun h1 => ?_) (fun h1 => ?_)
    · refine r_iconst (v := (0 : Int32)) dX10_isTicket_16 rfl ?_
      exact r_ireturn dX10_isTicket_17 rfl rfl
    · refine r_iconst (v := (1 : Int32)) dX10_isTicket_12 rfl ?_
      refine r_goto (t := 17) dX10_isTicket_13 rfl ?_
      exact r_ireturn dX10_isTicket_17 rfl rfl
def f_X11_fold (q : SS) (a1 : Int32) : Option (Int32 × SS) :=
  (f_X10_isTicket q a1).bind fun r1 =>
  if r1 = 0 then
  (some ((-1 : Int32), q))
  else
  ((f_X10_get q (6 : Int32) a1).bind fun r2 =>
  if r2 < (4 : Int32) then
  ((f_X1_note q (2 : Int32)).bind fun r3 =>
  (f_X10_set r3 (6 : Int32) a1 (r2 + (1 : Int32))).bind fun r4 =>
  some ((r2 + (1 : Int32)), r4))
  else
  (some ((-5 : Int32), q)))
theorem e_X11_fold {E : EE} (hE : GE E) (q : SS) (a1 : Int32) : R E (κI E) 2 171 0 [(0, .ref 0), (1, .int a1)] [] q (f_X11_fold q a1) := by
  unfold f_X11_fold
  refine r_aload_n (x := 0) dX11_fold_0 rfl ?_
  refine r_getA dX11_fold_1 (fa_11_10_0 hE) ?_
  refine r_iload_n (x := a1) dX11_fold_4 rfl ?_
  refine r_calli (k := 0) (idx := 180) (y := 129) (as := [.ref 1, .int a1]) (rest := []) (L0 := [(0, .ref 1), (1, .int a1)]) dX11_fold_5 rfl rfl rfl rfl rfl (vok_v (ob_1 hE) rfl) rfl (r_dep (by decide) (e_X10_isTicket hE q a1)) (fun r1 => ?_)
  refine r_if_ne (t := 13) dX11_fold_8 rfl (fun h6 => ?_) (fun h6 => ?_)
  · refine r_iconst (v := (-1 : Int32)) dX11_fold_11 rfl ?_
    exact r_ireturn dX11_fold_12 rfl rfl
  · refine r_aload_n (x := 0) dX11_fold_13 rfl ?_
    refine r_getA dX11_fold_14 (fa_11_10_0 hE) ?_
    refine r_bipush (v := (6 : Int32)) dX11_fold_17 rfl ?_
    refine r_iload_n (x := a1) dX11_fold_19 rfl ?_
    refine r_calli (k := 0) (idx := 129) (y := 134) (as := [.ref 1, .int (6 : Int32), .int a1]) (rest := []) (L0 := [(0, .ref 1), (1, .int (6 : Int32)), (2, .int a1)]) dX11_fold_20 rfl rfl rfl rfl rfl (vok_v (ob_1 hE) rfl) rfl (r_dep (by decide) (e_X10_get hE q (6 : Int32) a1)) (fun r2 => ?_)
    refine r_istore_n (L2 := [(0, .ref 0), (1, .int a1), (2, .int r2)]) dX11_fold_23 rfl rfl ?_
    refine r_iload_n (x := r2) dX11_fold_24 rfl ?_
    refine r_iconst (v := (4 : Int32)) dX11_fold_25 rfl ?_
    refine r_icmp_lt (t := 32) dX11_fold_26 rfl (fun h5 => ?_) (fun h5 => ?_)
    · refine r_aload_n (x := 0) dX11_fold_32 rfl ?_
      refine r_getA dX11_fold_33 (fa_11_76_0 hE) ?_
      refine r_iconst (v := (2 : Int32)) dX11_fold_36 rfl ?_
      refine r_callV (k := 0) (idx := 305) (y := 8) (as := [.ref 47, .int (2 : Int32)]) (rest := []) (L0 := [(0, .ref 47), (1, .int (2 : Int32))]) dX11_fold_37 rfl rfl rfl rfl rfl (vok_v (ob_47 hE) rfl) rfl (r_dep (by decide) (e_X1_note hE q (2 : Int32))) (fun r3 => ?_)
      refine r_aload_n (x := 0) dX11_fold_40 rfl ?_
      refine r_getA dX11_fold_41 (fa_11_10_0 hE) ?_
      refine r_bipush (v := (6 : Int32)) dX11_fold_44 rfl ?_
      refine r_iload_n (x := a1) dX11_fold_46 rfl ?_
      refine r_iload_n (x := r2) dX11_fold_47 rfl ?_
      refine r_iconst (v := (1 : Int32)) dX11_fold_48 rfl ?_
      refine r_iadd dX11_fold_49 ?_
      refine r_callV (k := 0) (idx := 136) (y := 135) (as := [.ref 1, .int (6 : Int32), .int a1, .int (r2 + (1 : Int32))]) (rest := []) (L0 := [(0, .ref 1), (1, .int (6 : Int32)), (2, .int a1), (3, .int (r2 + (1 : Int32)))]) dX11_fold_50 rfl rfl rfl rfl rfl (vok_v (ob_1 hE) rfl) rfl (r_dep (by decide) (e_X10_set hE r3 (6 : Int32) a1 (r2 + (1 : Int32)))) (fun r4 => ?_)
      refine r_iload_n (x := r2) dX11_fold_53 rfl ?_
      refine r_iconst (v := (1 : Int32)) dX11_fold_54 rfl ?_
      refine r_iadd dX11_fold_55 ?_
      exact r_ireturn dX11_fold_56 rfl rfl
    · refine r_bipush (v := (-5 : Int32)) dX11_fold_29 rfl ?_
      exact r_ireturn dX11_fold_31 rfl rfl
def f_X12_isTicket (q : SS) (a1 : Int32) : Option Int32 :=
  (f_X12_in q a1 (0 : Int32) ((q.1 60 6) - (1 : Int32))).bind fun r1 =>
  if r1 = 0 ∨ r1 = 1 then some r1 else none
theorem e_X12_isTicket {E : EE} (hE : GE E) (q : SS) (a1 : Int32) : R E (κi E q) 1 192 0 [(0, .ref 60), (1, .int a1)] [] q (f_X12_isTicket q a1) := by
  unfold f_X12_isTicket
  refine r_iload_n (x := a1) dX12_isTicket_0 rfl ?_
  refine r_iconst (v := (0 : Int32)) dX12_isTicket_1 rfl ?_
  refine r_aload_n (x := 60) dX12_isTicket_2 rfl ?_
  refine r_getI dX12_isTicket_3 (ff_12_122_60 hE) (by decide) ?_
  refine r_iconst (v := (1 : Int32)) dX12_isTicket_6 rfl ?_
  refine r_isub dX12_isTicket_7 ?_
  refine r_calli (k := 2) (idx := 118) (y := 189) (as := [.int a1, .int (0 : Int32), .int ((q.1 60 6) - (1 : Int32))]) (rest := []) (L0 := [(0, .int a1), (1, .int (0 : Int32)), (2, .int ((q.1 60 6) - (1 : Int32)))]) dX12_isTicket_8 rfl rfl rfl rfl rfl vok_s rfl (r_dep (by decide) (e_X12_in hE q a1 (0 : Int32) ((q.1 60 6) - (1 : Int32)))) (fun r1 => ?_)
  exact r_zreturn dX12_isTicket_11 rfl rfl
def f_X12_fold (q : SS) (a1 : Int32) : Option (Int32 × SS) :=
  (f_X12_isTicket q a1).bind fun r1 =>
  if r1 = 0 then
  (some ((-1 : Int32), q))
  else
  (if vin a1 12 then
  if (q.1 67 a1.toNatClampNeg) = (4 : Int32) then
  (some ((-5 : Int32), q))
  else
  (if vin a1 12 then
  if vin a1 12 then
  nm (sI q 67 a1.toNatClampNeg ((q.1 67 a1.toNatClampNeg) + (1 : Int32))) fun q2 =>
  if vin (2 : Int32) 4 then
  if vin (2 : Int32) 4 then
  nm (sI q2 83 (2 : Int32).toNatClampNeg ((q2.1 83 (2 : Int32).toNatClampNeg) + (1 : Int32))) fun q3 =>
  if vin a1 12 then
  some ((q3.1 67 a1.toNatClampNeg), q3)
  else none
  else none
  else none
  else none
  else none)
  else none)
theorem e_X12_fold {E : EE} (hE : GE E) (q : SS) (a1 : Int32) : R E (κI E) 2 265 0 [(0, .ref 60), (1, .int a1)] [] q (f_X12_fold q a1) := by
  unfold f_X12_fold
  refine r_aload_n (x := 60) dX12_fold_0 rfl ?_
  refine r_iload_n (x := a1) dX12_fold_1 rfl ?_
  refine r_calli (k := 0) (idx := 156) (y := 192) (as := [.ref 60, .int a1]) (rest := []) (L0 := [(0, .ref 60), (1, .int a1)]) dX12_fold_2 rfl rfl rfl rfl rfl (vok_v (ob_60 hE) rfl) rfl (r_dep (by decide) (e_X12_isTicket hE q a1)) (fun r1 => ?_)
  refine r_if_ne (t := 10) dX12_fold_5 rfl (fun h5 => ?_) (fun h5 => ?_)
  · refine r_iconst (v := (-1 : Int32)) dX12_fold_8 rfl ?_
    exact r_ireturn dX12_fold_9 rfl rfl
  · refine r_aload_n (x := 60) dX12_fold_10 rfl ?_
    refine r_getA dX12_fold_11 (fa_12_30_60 hE) ?_
    refine r_iload_n (x := a1) dX12_fold_14 rfl ?_
    refine r_iaload dX12_fold_15 (ar_67 hE) ?_
    refine r_iconst (v := (4 : Int32)) dX12_fold_16 rfl ?_
    refine r_icmp_ne (t := 23) dX12_fold_17 rfl (fun h4 => ?_) (fun h4 => ?_)
    · refine r_bipush (v := (-5 : Int32)) dX12_fold_20 rfl ?_
      exact r_ireturn dX12_fold_22 rfl rfl
    · refine r_aload_n (x := 60) dX12_fold_23 rfl ?_
      refine r_getA dX12_fold_24 (fa_12_30_60 hE) ?_
      refine r_iload_n (x := a1) dX12_fold_27 rfl ?_
      refine r_dup2 dX12_fold_28 ⟨rfl, rfl⟩ ?_
      refine r_iaload dX12_fold_29 (ar_67 hE) ?_
      refine r_iconst (v := (1 : Int32)) dX12_fold_30 rfl ?_
      refine r_iadd dX12_fold_31 ?_
      refine r_iastore dX12_fold_32 (ar_67 hE) ?_
      refine r_nmS fun q2 _ => ?_
      refine r_aload_n (x := 60) dX12_fold_33 rfl ?_
      refine r_getA dX12_fold_34 (fa_12_80_60 hE) ?_
      refine r_iconst (v := (2 : Int32)) dX12_fold_37 rfl ?_
      refine r_dup2 dX12_fold_38 ⟨rfl, rfl⟩ ?_
      refine r_iaload dX12_fold_39 (ar_83 hE) ?_
      refine r_iconst (v := (1 : Int32)) dX12_fold_40 rfl ?_
      refine r_iadd dX12_fold_41 ?_
      refine r_iastore dX12_fold_42 (ar_83 hE) ?_
      refine r_nmS fun q3 _ => ?_
      refine r_aload_n (x := 60) dX12_fold_43 rfl ?_
      refine r_getA dX12_fold_44 (fa_12_30_60 hE) ?_
      refine r_iload_n (x := a1) dX12_fold_47 rfl ?_
      refine r_iaload dX12_fold_48 (ar_67 hE) ?_
      exact r_ireturn dX12_fold_49 rfl rfl
def f_X10_isPerson (q : SS) (a1 : Int32) : Option Int32 :=
  if a1 < 0 then
  (some (0 : Int32))
  else
  (if (q.1 1 1) ≤ a1 then
  (some (0 : Int32))
  else
  (some (1 : Int32)))
theorem e_X10_isPerson {E : EE} (hE : GE E) (q : SS) (a1 : Int32) : R E (κi E q) 0 128 0 [(0, .ref 1), (1, .int a1)] [] q (f_X10_isPerson q a1) := by
  unfold f_X10_isPerson
  refine r_iload_n (x := a1) dX10_isPerson_0 rfl ?_
  refine r_if_lt (t := 16) dX10_isPerson_1 rfl (fun h2 => ?_) (fun h2 => ?_)
  · refine r_iconst (v := (0 : Int32)) dX10_isPerson_16 rfl ?_
    exact r_ireturn dX10_isPerson_17 rfl rfl
  · refine r_iload_n (x := a1) dX10_isPerson_4 rfl ?_
    refine r_aload_n (x := 1) dX10_isPerson_5 rfl ?_
    refine r_getI dX10_isPerson_6 (ff_10_16_1 hE) (by decide) ?_
    refine r_icmp_ge (t := 16) dX10_isPerson_9 rfl (fun h1 => ?_) (fun h1 => ?_)
    · refine r_iconst (v := (0 : Int32)) dX10_isPerson_16 rfl ?_
      exact r_ireturn dX10_isPerson_17 rfl rfl
    · refine r_iconst (v := (1 : Int32)) dX10_isPerson_12 rfl ?_
      refine r_goto (t := 17) dX10_isPerson_13 rfl ?_
      exact r_ireturn dX10_isPerson_17 rfl rfl
def f_X10_isSlipping (q : SS) (a1 : Int32) : Option Int32 :=
  (f_X10_isTicket q (jshr a1 (3 : Int32))).bind fun r1 =>
  if r1 = 0 then
  (some (0 : Int32))
  else
  ((f_X10_isPerson q (a1 &&& (7 : Int32))).bind fun r2 =>
  if r2 = 0 then
  (some (0 : Int32))
  else
  (some (1 : Int32)))
theorem e_X10_isSlipping {E : EE} (hE : GE E) (q : SS) (a1 : Int32) : R E (κi E q) 1 130 0 [(0, .ref 1), (1, .int a1)] [] q (f_X10_isSlipping q a1) := by
  unfold f_X10_isSlipping
  refine r_aload_n (x := 1) dX10_isSlipping_0 rfl ?_
  refine r_iload_n (x := a1) dX10_isSlipping_1 rfl ?_
  refine r_iconst (v := (3 : Int32)) dX10_isSlipping_2 rfl ?_
  refine r_ishr dX10_isSlipping_3 ?_
  refine r_calli (k := 0) (idx := 27) (y := 129) (as := [.ref 1, .int (jshr a1 (3 : Int32))]) (rest := []) (L0 := [(0, .ref 1), (1, .int (jshr a1 (3 : Int32)))]) dX10_isSlipping_4 rfl rfl rfl rfl rfl (vok_v (ob_1 hE) rfl) rfl (r_dep (by decide) (e_X10_isTicket hE q (jshr a1 (3 : Int32)))) (fun r1 => ?_)
  refine r_if_eq (t := 25) dX10_isSlipping_7 rfl (fun h4 => ?_) (fun h4 => ?_)
  · refine r_iconst (v := (0 : Int32)) dX10_isSlipping_25 rfl ?_
    exact r_ireturn dX10_isSlipping_26 rfl rfl
  · refine r_aload_n (x := 1) dX10_isSlipping_10 rfl ?_
    refine r_iload_n (x := a1) dX10_isSlipping_11 rfl ?_
    refine r_bipush (v := (7 : Int32)) dX10_isSlipping_12 rfl ?_
    refine r_iand dX10_isSlipping_14 ?_
    refine r_calli (k := 0) (idx := 31) (y := 128) (as := [.ref 1, .int (a1 &&& (7 : Int32))]) (rest := []) (L0 := [(0, .ref 1), (1, .int (a1 &&& (7 : Int32)))]) dX10_isSlipping_15 rfl rfl rfl rfl rfl (vok_v (ob_1 hE) rfl) rfl (r_dep (by decide) (e_X10_isPerson hE q (a1 &&& (7 : Int32)))) (fun r2 => ?_)
    refine r_if_eq (t := 25) dX10_isSlipping_18 rfl (fun h3 => ?_) (fun h3 => ?_)
    · refine r_iconst (v := (0 : Int32)) dX10_isSlipping_25 rfl ?_
      exact r_ireturn dX10_isSlipping_26 rfl rfl
    · refine r_iconst (v := (1 : Int32)) dX10_isSlipping_21 rfl ?_
      refine r_goto (t := 26) dX10_isSlipping_22 rfl ?_
      exact r_ireturn dX10_isSlipping_26 rfl rfl
def b_X8_begin_2 : SS → Int32 → Option SS :=
  fx2 (fun (rec_2 : SS → Int32 → Option SS) (q : SS) (l1 : Int32) =>
  if (12 : Int32) ≤ l1 then
  (some q)
  else
  ((f_X10_get q (4 : Int32) l1).bind fun r1 =>
  if vin l1 12 then
  nm (sI q 25 l1.toNatClampNeg r1) fun q2 =>
  rec_2 q2 (l1 + (1 : Int32))
  else none)) FU
theorem rb_X8_begin_2 {E : EE} (hE : GE E) (q : SS) (l1 : Int32) : R E (κV E) 2 97 2 [(0, .ref 24), (1, .int l1)] [] q (b_X8_begin_2 q l1) := by
  unfold b_X8_begin_2
  refine fx2_ok (P := fun q l1 o => R E (κV E) 2 97 2 [(0, .ref 24), (1, .int l1)] [] q o) (fun _ _ => r_no) (fun rec_2 hrec_2 q l1 => ?_) _ _ _
  refine r_iload_n (x := l1) dX8_begin_2 rfl ?_
  refine r_bipush (v := (12 : Int32)) dX8_begin_3 rfl ?_
  refine r_icmp_ge (t := 29) dX8_begin_5 rfl (fun h3 => ?_) (fun h3 => ?_)
  · exact r_return dX8_begin_29 rfl rfl
  · refine r_aload_n (x := 24) dX8_begin_8 rfl ?_
    refine r_getA dX8_begin_9 (fa_8_19_24 hE) ?_
    refine r_iload_n (x := l1) dX8_begin_12 rfl ?_
    refine r_aload_n (x := 24) dX8_begin_13 rfl ?_
    refine r_getA dX8_begin_14 (fa_8_9_24 hE) ?_
    refine r_iconst (v := (4 : Int32)) dX8_begin_17 rfl ?_
    refine r_iload_n (x := l1) dX8_begin_18 rfl ?_
    refine r_calli (k := 0) (idx := 23) (y := 134) (as := [.ref 1, .int (4 : Int32), .int l1]) (rest := [.int l1, .ref 25]) (L0 := [(0, .ref 1), (1, .int (4 : Int32)), (2, .int l1)]) dX8_begin_19 rfl rfl rfl rfl rfl (vok_v (ob_1 hE) rfl) rfl (r_dep (by decide) (e_X10_get hE q (4 : Int32) l1)) (fun r1 => ?_)
    refine r_iastore dX8_begin_22 (ar_25 hE) ?_
    refine r_nmS fun q2 _ => ?_
    refine r_iinc (x := l1) (v := (l1 + (1 : Int32))) (L2 := [(0, .ref 24), (1, .int (l1 + (1 : Int32)))]) dX8_begin_23 rfl rfl rfl rfl ?_
    refine r_goto (t := 2) dX8_begin_26 rfl ?_
    exact r_sub (L' := [(0, .ref 24), (1, .int (l1 + (1 : Int32)))]) (sub_c rfl (sub_c rfl sub_n)) (hrec_2 q2 (l1 + (1 : Int32)))
def f_X8_begin (q : SS)  : Option SS :=
  b_X8_begin_2 q (0 : Int32)
theorem e_X8_begin {E : EE} (hE : GE E) (q : SS)  : R E (κV E) 2 97 0 [(0, .ref 24)] [] q (f_X8_begin q) := by
  unfold f_X8_begin
  refine r_iconst (v := (0 : Int32)) dX8_begin_0 rfl ?_
  refine r_istore_n (L2 := [(0, .ref 24), (1, .int (0 : Int32))]) dX8_begin_1 rfl rfl ?_
  exact r_sub (L' := [(0, .ref 24), (1, .int (0 : Int32))]) (sub_c rfl (sub_c rfl sub_n)) (rb_X8_begin_2 hE q (0 : Int32))
def f_X11_now (q : SS)  : Option SS :=
  (f_X8_begin q).bind fun r1 =>
  some r1
theorem e_X11_now {E : EE} (hE : GE E) (q : SS)  : R E (κA E 24) 3 148 0 [(0, .ref 0)] [] q (f_X11_now q) := by
  unfold f_X11_now
  refine r_aload_n (x := 0) dX11_now_0 rfl ?_
  refine r_getA dX11_now_1 (fa_11_35_0 hE) ?_
  refine r_callV (k := 0) (idx := 177) (y := 97) (as := [.ref 24]) (rest := []) (L0 := [(0, .ref 24)]) dX11_now_4 rfl rfl rfl rfl rfl (vok_v (ob_24 hE) rfl) rfl (r_dep (by decide) (e_X8_begin hE q)) (fun r1 => ?_)
  refine r_aload_n (x := 0) dX11_now_7 rfl ?_
  refine r_getA dX11_now_8 (fa_11_35_0 hE) ?_
  exact r_areturn dX11_now_11 rfl rfl
def f_X8_isLoose (q : SS) (a1 : Int32) : Option Int32 :=
  (f_X10_get q (6 : Int32) a1).bind fun r1 =>
  if (4 : Int32) ≤ r1 then
  (some (0 : Int32))
  else
  (some (1 : Int32))
theorem e_X8_isLoose {E : EE} (hE : GE E) (q : SS) (a1 : Int32) : R E (κi E q) 2 106 0 [(0, .ref 24), (1, .int a1)] [] q (f_X8_isLoose q a1) := by
  unfold f_X8_isLoose
  refine r_aload_n (x := 24) dX8_isLoose_0 rfl ?_
  refine r_getA dX8_isLoose_1 (fa_8_9_24 hE) ?_
  refine r_bipush (v := (6 : Int32)) dX8_isLoose_4 rfl ?_
  refine r_iload_n (x := a1) dX8_isLoose_6 rfl ?_
  refine r_calli (k := 0) (idx := 23) (y := 134) (as := [.ref 1, .int (6 : Int32), .int a1]) (rest := []) (L0 := [(0, .ref 1), (1, .int (6 : Int32)), (2, .int a1)]) dX8_isLoose_7 rfl rfl rfl rfl rfl (vok_v (ob_1 hE) rfl) rfl (r_dep (by decide) (e_X10_get hE q (6 : Int32) a1)) (fun r1 => ?_)
  refine r_iconst (v := (4 : Int32)) dX8_isLoose_10 rfl ?_
  refine r_icmp_ge (t := 18) dX8_isLoose_11 rfl (fun h2 => ?_) (fun h2 => ?_)
  · refine r_iconst (v := (0 : Int32)) dX8_isLoose_18 rfl ?_
    exact r_ireturn dX8_isLoose_19 rfl rfl
  · refine r_iconst (v := (1 : Int32)) dX8_isLoose_14 rfl ?_
    refine r_goto (t := 19) dX8_isLoose_15 rfl ?_
    exact r_ireturn dX8_isLoose_19 rfl rfl
def f_X8_holderOf (q : SS) (a1 : Int32) : Option Int32 :=
  (f_X10_isTicket q a1).bind fun r1 =>
  if r1 = 0 then
  (some (-2 : Int32))
  else
  (if vin a1 12 then
  some (q.1 25 a1.toNatClampNeg)
  else none)
theorem e_X8_holderOf {E : EE} (hE : GE E) (q : SS) (a1 : Int32) : R E (κi E q) 1 98 0 [(0, .ref 24), (1, .int a1)] [] q (f_X8_holderOf q a1) := by
  unfold f_X8_holderOf
  refine r_aload_n (x := 24) dX8_holderOf_0 rfl ?_
  refine r_getA dX8_holderOf_1 (fa_8_9_24 hE) ?_
  refine r_iload_n (x := a1) dX8_holderOf_4 rfl ?_
  refine r_calli (k := 0) (idx := 29) (y := 129) (as := [.ref 1, .int a1]) (rest := []) (L0 := [(0, .ref 1), (1, .int a1)]) dX8_holderOf_5 rfl rfl rfl rfl rfl (vok_v (ob_1 hE) rfl) rfl (r_dep (by decide) (e_X10_isTicket hE q a1)) (fun r1 => ?_)
  refine r_if_eq (t := 20) dX8_holderOf_8 rfl (fun h2 => ?_) (fun h2 => ?_)
  · refine r_bipush (v := (-2 : Int32)) dX8_holderOf_20 rfl ?_
    exact r_ireturn dX8_holderOf_22 rfl rfl
  · refine r_aload_n (x := 24) dX8_holderOf_11 rfl ?_
    refine r_getA dX8_holderOf_12 (fa_8_19_24 hE) ?_
    refine r_iload_n (x := a1) dX8_holderOf_15 rfl ?_
    refine r_iaload dX8_holderOf_16 (ar_25 hE) ?_
    refine r_goto (t := 22) dX8_holderOf_17 rfl ?_
    exact r_ireturn dX8_holderOf_22 rfl rfl
def f_X8_canGive (q : SS) (a1 : Int32) (a2 : Int32) : Option Int32 :=
  if a1 = a2 then
  (some (0 : Int32))
  else
  ((f_X10_isPerson q a2).bind fun r1 =>
  if r1 = 0 then
  (some (0 : Int32))
  else
  ((f_X10_get q (1 : Int32) a2).bind fun r2 =>
  if r2 = 0 then
  (some (1 : Int32))
  else
  (some (0 : Int32))))
theorem e_X8_canGive {E : EE} (hE : GE E) (q : SS) (a1 : Int32) (a2 : Int32) : R E (κi E q) 2 108 0 [(0, .ref 24), (1, .int a1), (2, .int a2)] [] q (f_X8_canGive q a1 a2) := by
  unfold f_X8_canGive
  refine r_iload_n (x := a1) dX8_canGive_0 rfl ?_
  refine r_iload_n (x := a2) dX8_canGive_1 rfl ?_
  refine r_icmp_eq (t := 32) dX8_canGive_2 rfl (fun h5 => ?_) (fun h5 => ?_)
  · refine r_iconst (v := (0 : Int32)) dX8_canGive_32 rfl ?_
    exact r_ireturn dX8_canGive_33 rfl rfl
  · refine r_aload_n (x := 24) dX8_canGive_5 rfl ?_
    refine r_getA dX8_canGive_6 (fa_8_9_24 hE) ?_
    refine r_iload_n (x := a2) dX8_canGive_9 rfl ?_
    refine r_calli (k := 0) (idx := 51) (y := 128) (as := [.ref 1, .int a2]) (rest := []) (L0 := [(0, .ref 1), (1, .int a2)]) dX8_canGive_10 rfl rfl rfl rfl rfl (vok_v (ob_1 hE) rfl) rfl (r_dep (by decide) (e_X10_isPerson hE q a2)) (fun r1 => ?_)
    refine r_if_eq (t := 32) dX8_canGive_13 rfl (fun h4 => ?_) (fun h4 => ?_)
    · refine r_iconst (v := (0 : Int32)) dX8_canGive_32 rfl ?_
      exact r_ireturn dX8_canGive_33 rfl rfl
    · refine r_aload_n (x := 24) dX8_canGive_16 rfl ?_
      refine r_getA dX8_canGive_17 (fa_8_9_24 hE) ?_
      refine r_iconst (v := (1 : Int32)) dX8_canGive_20 rfl ?_
      refine r_iload_n (x := a2) dX8_canGive_21 rfl ?_
      refine r_calli (k := 0) (idx := 23) (y := 134) (as := [.ref 1, .int (1 : Int32), .int a2]) (rest := []) (L0 := [(0, .ref 1), (1, .int (1 : Int32)), (2, .int a2)]) dX8_canGive_22 rfl rfl rfl rfl rfl (vok_v (ob_1 hE) rfl) rfl (r_dep (by decide) (e_X10_get hE q (1 : Int32) a2)) (fun r2 => ?_)
      refine r_if_ne (t := 32) dX8_canGive_25 rfl (fun h3 => ?_) (fun h3 => ?_)
      · refine r_iconst (v := (1 : Int32)) dX8_canGive_28 rfl ?_
        refine r_goto (t := 33) dX8_canGive_29 rfl ?_
        exact r_ireturn dX8_canGive_33 rfl rfl
      · refine r_iconst (v := (0 : Int32)) dX8_canGive_32 rfl ?_
        exact r_ireturn dX8_canGive_33 rfl rfl
def f_X8_canSlip (q : SS) (a1 : Int32) (a2 : Int32) : Option Int32 :=
  (f_X10_isTicket q a1).bind fun r1 =>
  if r1 = 0 then
  (some (0 : Int32))
  else
  ((f_X8_isLoose q a1).bind fun r2 =>
  if r2 = 0 then
  (some (0 : Int32))
  else
  ((f_X8_holderOf q a1).bind fun r3 =>
  (f_X8_canGive q r3 a2).bind fun r4 =>
  if r4 = 0 then
  (some (0 : Int32))
  else
  (some (1 : Int32))))
theorem e_X8_canSlip {E : EE} (hE : GE E) (q : SS) (a1 : Int32) (a2 : Int32) : R E (κi E q) 3 107 0 [(0, .ref 24), (1, .int a1), (2, .int a2)] [] q (f_X8_canSlip q a1 a2) := by
  unfold f_X8_canSlip
  refine r_aload_n (x := 24) dX8_canSlip_0 rfl ?_
  refine r_getA dX8_canSlip_1 (fa_8_9_24 hE) ?_
  refine r_iload_n (x := a1) dX8_canSlip_4 rfl ?_
  refine r_calli (k := 0) (idx := 29) (y := 129) (as := [.ref 1, .int a1]) (rest := []) (L0 := [(0, .ref 1), (1, .int a1)]) dX8_canSlip_5 rfl rfl rfl rfl rfl (vok_v (ob_1 hE) rfl) rfl (r_dep (by decide) (e_X10_isTicket hE q a1)) (fun r1 => ?_)
  refine r_if_eq (t := 36) dX8_canSlip_8 rfl (fun h7 => ?_) (fun h7 => ?_)
  · refine r_iconst (v := (0 : Int32)) dX8_canSlip_36 rfl ?_
    exact r_ireturn dX8_canSlip_37 rfl rfl
  · refine r_aload_n (x := 24) dX8_canSlip_11 rfl ?_
    refine r_iload_n (x := a1) dX8_canSlip_12 rfl ?_
    refine r_calli (k := 0) (idx := 44) (y := 106) (as := [.ref 24, .int a1]) (rest := []) (L0 := [(0, .ref 24), (1, .int a1)]) dX8_canSlip_13 rfl rfl rfl rfl rfl (vok_v (ob_24 hE) rfl) rfl (r_dep (by decide) (e_X8_isLoose hE q a1)) (fun r2 => ?_)
    refine r_if_eq (t := 36) dX8_canSlip_16 rfl (fun h6 => ?_) (fun h6 => ?_)
    · refine r_iconst (v := (0 : Int32)) dX8_canSlip_36 rfl ?_
      exact r_ireturn dX8_canSlip_37 rfl rfl
    · refine r_aload_n (x := 24) dX8_canSlip_19 rfl ?_
      refine r_aload_n (x := 24) dX8_canSlip_20 rfl ?_
      refine r_iload_n (x := a1) dX8_canSlip_21 rfl ?_
      refine r_calli (k := 0) (idx := 37) (y := 98) (as := [.ref 24, .int a1]) (rest := [.ref 24]) (L0 := [(0, .ref 24), (1, .int a1)]) dX8_canSlip_22 rfl rfl rfl rfl rfl (vok_v (ob_24 hE) rfl) rfl (r_dep (by decide) (e_X8_holderOf hE q a1)) (fun r3 => ?_)
      refine r_iload_n (x := a2) dX8_canSlip_25 rfl ?_
      refine r_calli (k := 0) (idx := 47) (y := 108) (as := [.ref 24, .int r3, .int a2]) (rest := []) (L0 := [(0, .ref 24), (1, .int r3), (2, .int a2)]) dX8_canSlip_26 rfl rfl rfl rfl rfl (vok_v (ob_24 hE) rfl) rfl (r_dep (by decide) (e_X8_canGive hE q r3 a2)) (fun r4 => ?_)
      refine r_if_eq (t := 36) dX8_canSlip_29 rfl (fun h5 => ?_) (fun h5 => ?_)
      · refine r_iconst (v := (0 : Int32)) dX8_canSlip_36 rfl ?_
        exact r_ireturn dX8_canSlip_37 rfl rfl
      · refine r_iconst (v := (1 : Int32)) dX8_canSlip_32 rfl ?_
        refine r_goto (t := 37) dX8_canSlip_33 rfl ?_
        exact r_ireturn dX8_canSlip_37 rfl rfl
def b_X11_slip_80 (q : SS) (l3 : Int32) : Option (Int32 × SS) :=
  (f_X10_get q (4 : Int32) l3).bind fun r9 =>
  some (r9, q)
theorem rb_X11_slip_80 {E : EE} (hE : GE E) (q : SS) (l3 : Int32) : R E (κI E) 4 170 80 [(0, .ref 0), (3, .int l3)] [] q (b_X11_slip_80 q l3) := by
  unfold b_X11_slip_80
  refine r_aload_n (x := 0) dX11_slip_80 rfl ?_
  refine r_getA dX11_slip_81 (fa_11_10_0 hE) ?_
  refine r_iconst (v := (4 : Int32)) dX11_slip_84 rfl ?_
  refine r_iload_n (x := l3) dX11_slip_85 rfl ?_
  refine r_calli (k := 0) (idx := 129) (y := 134) (as := [.ref 1, .int (4 : Int32), .int l3]) (rest := []) (L0 := [(0, .ref 1), (1, .int (4 : Int32)), (2, .int l3)]) dX11_slip_86 rfl rfl rfl rfl rfl (vok_v (ob_1 hE) rfl) rfl (r_dep (by decide) (e_X10_get hE q (4 : Int32) l3)) (fun r9 => ?_)
  exact r_ireturn dX11_slip_89 rfl rfl
def f_X11_slip (q : SS) (a1 : Int32) (a2 : Int32) : Option (Int32 × SS) :=
  (f_X10_isSlipping q a1).bind fun r1 =>
  if r1 = 0 then
  (some ((-1 : Int32), q))
  else
  (if a2 < 0 then
  (some ((-1 : Int32), q))
  else
  (if a2 ≤ (1 : Int32) then
  (nm (jshr a1 (3 : Int32)) fun v2 =>
  nm (a1 &&& (7 : Int32)) fun v3 =>
  (f_X11_now q).bind fun r4 =>
  (f_X8_canSlip r4 v2 v3).bind fun r5 =>
  if r5 = 0 then
  (some ((-5 : Int32), r4))
  else
  ((f_X1_note r4 (0 : Int32)).bind fun r6 =>
  if a2 = (1 : Int32) then
  ((f_X1_note r6 (1 : Int32)).bind fun r7 =>
  (f_X10_set r7 (4 : Int32) v2 v3).bind fun r8 =>
  b_X11_slip_80 r8 v2)
  else
  (b_X11_slip_80 r6 v2)))
  else
  (some ((-1 : Int32), q))))
theorem e_X11_slip {E : EE} (hE : GE E) (q : SS) (a1 : Int32) (a2 : Int32) : R E (κI E) 4 170 0 [(0, .ref 0), (1, .int a1), (2, .int a2)] [] q (f_X11_slip q a1 a2) := by
  unfold f_X11_slip
  refine r_aload_n (x := 0) dX11_slip_0 rfl ?_
  refine r_getA dX11_slip_1 (fa_11_10_0 hE) ?_
  refine r_iload_n (x := a1) dX11_slip_4 rfl ?_
  refine r_calli (k := 0) (idx := 171) (y := 130) (as := [.ref 1, .int a1]) (rest := []) (L0 := [(0, .ref 1), (1, .int a1)]) dX11_slip_5 rfl rfl rfl rfl rfl (vok_v (ob_1 hE) rfl) rfl (r_dep (by decide) (e_X10_isSlipping hE q a1)) (fun r1 => ?_)
  refine r_if_eq (t := 20) dX11_slip_8 rfl (fun h14 => ?_) (fun h14 => ?_)
  · refine r_iconst (v := (-1 : Int32)) dX11_slip_20 rfl ?_
    exact r_ireturn dX11_slip_21 rfl rfl
  · refine r_iload_n (x := a2) dX11_slip_11 rfl ?_
    refine r_if_lt (t := 20) dX11_slip_12 rfl (fun h13 => ?_) (fun h13 => ?_)
    · refine r_iconst (v := (-1 : Int32)) dX11_slip_20 rfl ?_
      exact r_ireturn dX11_slip_21 rfl rfl
    · refine r_iload_n (x := a2) dX11_slip_15 rfl ?_
      refine r_iconst (v := (1 : Int32)) dX11_slip_16 rfl ?_
      refine r_icmp_le (t := 22) dX11_slip_17 rfl (fun h12 => ?_) (fun h12 => ?_)
      · refine r_iload_n (x := a1) dX11_slip_22 rfl ?_
        refine r_iconst (v := (3 : Int32)) dX11_slip_23 rfl ?_
        refine r_ishr dX11_slip_24 ?_
        refine r_nmI fun v2 _ => ?_
        refine r_istore_n (L2 := [(0, .ref 0), (1, .int a1), (2, .int a2), (3, .int v2)]) dX11_slip_25 rfl rfl ?_
        refine r_iload_n (x := a1) dX11_slip_26 rfl ?_
        refine r_bipush (v := (7 : Int32)) dX11_slip_27 rfl ?_
        refine r_iand dX11_slip_29 ?_
        refine r_nmI fun v3 _ => ?_
        refine r_istore (L2 := [(0, .ref 0), (1, .int a1), (2, .int a2), (3, .int v2), (4, .int v3)]) dX11_slip_30 rfl rfl ?_
        refine r_aload_n (x := 0) dX11_slip_32 rfl ?_
        refine r_callA (k := 0) (idx := 143) (y := 148) (as := [.ref 0]) (rest := []) (L0 := [(0, .ref 0)]) dX11_slip_33 rfl rfl rfl rfl rfl (vok_v (ob_0 hE) rfl) rfl (r_dep (by decide) (e_X11_now hE q)) (fun r4 => ?_)
        refine r_iload_n (x := v2) dX11_slip_36 rfl ?_
        refine r_iload (x := v3) dX11_slip_37 rfl ?_
        refine r_calli (k := 0) (idx := 232) (y := 107) (as := [.ref 24, .int v2, .int v3]) (rest := []) (L0 := [(0, .ref 24), (1, .int v2), (2, .int v3)]) dX11_slip_39 rfl rfl rfl rfl rfl (vok_v (ob_24 hE) rfl) rfl (r_dep (by decide) (e_X8_canSlip hE r4 v2 v3)) (fun r5 => ?_)
        refine r_if_ne (t := 48) dX11_slip_42 rfl (fun h11 => ?_) (fun h11 => ?_)
        · refine r_bipush (v := (-5 : Int32)) dX11_slip_45 rfl ?_
          exact r_ireturn dX11_slip_47 rfl rfl
        · refine r_aload_n (x := 0) dX11_slip_48 rfl ?_
          refine r_getA dX11_slip_49 (fa_11_76_0 hE) ?_
          refine r_iconst (v := (0 : Int32)) dX11_slip_52 rfl ?_
          refine r_callV (k := 0) (idx := 305) (y := 8) (as := [.ref 47, .int (0 : Int32)]) (rest := []) (L0 := [(0, .ref 47), (1, .int (0 : Int32))]) dX11_slip_53 rfl rfl rfl rfl rfl (vok_v (ob_47 hE) rfl) rfl (r_dep (by decide) (e_X1_note hE r4 (0 : Int32))) (fun r6 => ?_)
          refine r_iload_n (x := a2) dX11_slip_56 rfl ?_
          refine r_iconst (v := (1 : Int32)) dX11_slip_57 rfl ?_
          refine r_icmp_ne (t := 80) dX11_slip_58 rfl (fun h10 => ?_) (fun h10 => ?_)
          · refine r_aload_n (x := 0) dX11_slip_61 rfl ?_
            refine r_getA dX11_slip_62 (fa_11_76_0 hE) ?_
            refine r_iconst (v := (1 : Int32)) dX11_slip_65 rfl ?_
            refine r_callV (k := 0) (idx := 305) (y := 8) (as := [.ref 47, .int (1 : Int32)]) (rest := []) (L0 := [(0, .ref 47), (1, .int (1 : Int32))]) dX11_slip_66 rfl rfl rfl rfl rfl (vok_v (ob_47 hE) rfl) rfl (r_dep (by decide) (e_X1_note hE r6 (1 : Int32))) (fun r7 => ?_)
            refine r_aload_n (x := 0) dX11_slip_69 rfl ?_
            refine r_getA dX11_slip_70 (fa_11_10_0 hE) ?_
            refine r_iconst (v := (4 : Int32)) dX11_slip_73 rfl ?_
            refine r_iload_n (x := v2) dX11_slip_74 rfl ?_
            refine r_iload (x := v3) dX11_slip_75 rfl ?_
            refine r_callV (k := 0) (idx := 136) (y := 135) (as := [.ref 1, .int (4 : Int32), .int v2, .int v3]) (rest := []) (L0 := [(0, .ref 1), (1, .int (4 : Int32)), (2, .int v2), (3, .int v3)]) dX11_slip_77 rfl rfl rfl rfl rfl (vok_v (ob_1 hE) rfl) rfl (r_dep (by decide) (e_X10_set hE r7 (4 : Int32) v2 v3)) (fun r8 => ?_)
            exact r_sub (L' := [(0, .ref 0), (3, .int v2)]) (sub_c rfl (sub_c rfl sub_n)) (rb_X11_slip_80 hE r8 v2)
          · exact r_sub (L' := [(0, .ref 0), (3, .int v2)]) (sub_c rfl (sub_c rfl sub_n)) (rb_X11_slip_80 hE r6 v2)
      · refine r_iconst (v := (-1 : Int32)) dX11_slip_20 rfl ?_
        exact r_ireturn dX11_slip_21 rfl rfl
def f_X12_isOne (q : SS) (a1 : Int32) : Option Int32 :=
  (f_X12_in q a1 (0 : Int32) ((q.1 60 1) - (1 : Int32))).bind fun r1 =>
  if r1 = 0 ∨ r1 = 1 then some r1 else none
theorem e_X12_isOne {E : EE} (hE : GE E) (q : SS) (a1 : Int32) : R E (κi E q) 1 191 0 [(0, .ref 60), (1, .int a1)] [] q (f_X12_isOne q a1) := by
  unfold f_X12_isOne
  refine r_iload_n (x := a1) dX12_isOne_0 rfl ?_
  refine r_iconst (v := (0 : Int32)) dX12_isOne_1 rfl ?_
  refine r_aload_n (x := 60) dX12_isOne_2 rfl ?_
  refine r_getI dX12_isOne_3 (ff_12_115_60 hE) (by decide) ?_
  refine r_iconst (v := (1 : Int32)) dX12_isOne_6 rfl ?_
  refine r_isub dX12_isOne_7 ?_
  refine r_calli (k := 2) (idx := 118) (y := 189) (as := [.int a1, .int (0 : Int32), .int ((q.1 60 1) - (1 : Int32))]) (rest := []) (L0 := [(0, .int a1), (1, .int (0 : Int32)), (2, .int ((q.1 60 1) - (1 : Int32)))]) dX12_isOne_8 rfl rfl rfl rfl rfl vok_s rfl (r_dep (by decide) (e_X12_in hE q a1 (0 : Int32) ((q.1 60 1) - (1 : Int32)))) (fun r1 => ?_)
  exact r_zreturn dX12_isOne_11 rfl rfl
def f_X12_areSlip (q : SS) (a1 : Int32) : Option Int32 :=
  if a1 < 0 then
  (some (0 : Int32))
  else
  ((f_X12_isTicket q (a1 / (8 : Int32))).bind fun r1 =>
  if r1 = 0 then
  (some (0 : Int32))
  else
  ((f_X12_isOne q (jrem a1 (8 : Int32))).bind fun r2 =>
  if r2 = 0 then
  (some (0 : Int32))
  else
  (some (1 : Int32))))
theorem e_X12_areSlip {E : EE} (hE : GE E) (q : SS) (a1 : Int32) : R E (κi E q) 2 232 0 [(0, .ref 60), (1, .int a1)] [] q (f_X12_areSlip q a1) := by
  unfold f_X12_areSlip
  refine r_iload_n (x := a1) dX12_areSlip_0 rfl ?_
  refine r_if_lt (t := 30) dX12_areSlip_1 rfl (fun h5 => ?_) (fun h5 => ?_)
  · refine r_iconst (v := (0 : Int32)) dX12_areSlip_30 rfl ?_
    exact r_ireturn dX12_areSlip_31 rfl rfl
  · refine r_aload_n (x := 60) dX12_areSlip_4 rfl ?_
    refine r_iload_n (x := a1) dX12_areSlip_5 rfl ?_
    refine r_bipush (v := (8 : Int32)) dX12_areSlip_6 rfl ?_
    refine r_idivC dX12_areSlip_8 (by decide) ?_
    refine r_calli (k := 0) (idx := 156) (y := 192) (as := [.ref 60, .int (a1 / (8 : Int32))]) (rest := []) (L0 := [(0, .ref 60), (1, .int (a1 / (8 : Int32)))]) dX12_areSlip_9 rfl rfl rfl rfl rfl (vok_v (ob_60 hE) rfl) rfl (r_dep (by decide) (e_X12_isTicket hE q (a1 / (8 : Int32)))) (fun r1 => ?_)
    refine r_if_eq (t := 30) dX12_areSlip_12 rfl (fun h4 => ?_) (fun h4 => ?_)
    · refine r_iconst (v := (0 : Int32)) dX12_areSlip_30 rfl ?_
      exact r_ireturn dX12_areSlip_31 rfl rfl
    · refine r_aload_n (x := 60) dX12_areSlip_15 rfl ?_
      refine r_iload_n (x := a1) dX12_areSlip_16 rfl ?_
      refine r_bipush (v := (8 : Int32)) dX12_areSlip_17 rfl ?_
      refine r_iremC dX12_areSlip_19 (by decide) ?_
      refine r_calli (k := 0) (idx := 125) (y := 191) (as := [.ref 60, .int (jrem a1 (8 : Int32))]) (rest := []) (L0 := [(0, .ref 60), (1, .int (jrem a1 (8 : Int32)))]) dX12_areSlip_20 rfl rfl rfl rfl rfl (vok_v (ob_60 hE) rfl) rfl (r_dep (by decide) (e_X12_isOne hE q (jrem a1 (8 : Int32)))) (fun r2 => ?_)
      refine r_if_eq (t := 30) dX12_areSlip_23 rfl (fun h3 => ?_) (fun h3 => ?_)
      · refine r_iconst (v := (0 : Int32)) dX12_areSlip_30 rfl ?_
        exact r_ireturn dX12_areSlip_31 rfl rfl
      · refine r_iconst (v := (1 : Int32)) dX12_areSlip_26 rfl ?_
        refine r_goto (t := 31) dX12_areSlip_27 rfl ?_
        exact r_ireturn dX12_areSlip_31 rfl rfl
def b_X12_layNow_2 : SS → Int32 → Option SS :=
  fx2 (fun (rec_2 : SS → Int32 → Option SS) (q : SS) (l1 : Int32) =>
  if (q.1 60 6) ≤ l1 then
  (if vin (0 : Int32) 2 then
  nm (sI q 60 32 (q.1 68 (0 : Int32).toNatClampNeg)) fun q1 =>
  some q1
  else none)
  else
  (if vin l1 12 then
  if vin l1 12 then
  nm (sI q 81 l1.toNatClampNeg (q.1 65 l1.toNatClampNeg)) fun q2 =>
  rec_2 q2 (l1 + (1 : Int32))
  else none
  else none)) FU
theorem rb_X12_layNow_2 {E : EE} (hE : GE E) (q : SS) (l1 : Int32) : R E (κV E) 0 226 2 [(0, .ref 60), (1, .int l1)] [] q (b_X12_layNow_2 q l1) := by
  unfold b_X12_layNow_2
  refine fx2_ok (P := fun q l1 o => R E (κV E) 0 226 2 [(0, .ref 60), (1, .int l1)] [] q o) (fun _ _ => r_no) (fun rec_2 hrec_2 q l1 => ?_) _ _ _
  refine r_iload_n (x := l1) dX12_layNow_2 rfl ?_
  refine r_aload_n (x := 60) dX12_layNow_3 rfl ?_
  refine r_getI dX12_layNow_4 (ff_12_122_60 hE) (by decide) ?_
  refine r_icmp_ge (t := 28) dX12_layNow_7 rfl (fun h3 => ?_) (fun h3 => ?_)
  · refine r_aload_n (x := 60) dX12_layNow_28 rfl ?_
    refine r_aload_n (x := 60) dX12_layNow_29 rfl ?_
    refine r_getA dX12_layNow_30 (fa_12_33_60 hE) ?_
    refine r_iconst (v := (0 : Int32)) dX12_layNow_33 rfl ?_
    refine r_iaload dX12_layNow_34 (ar_68 hE) ?_
    refine r_putI dX12_layNow_35 (ff_12_248_60 hE) ?_
    refine r_nmS fun q1 _ => ?_
    exact r_return dX12_layNow_38 rfl rfl
  · refine r_aload_n (x := 60) dX12_layNow_10 rfl ?_
    refine r_getA dX12_layNow_11 (fa_12_74_60 hE) ?_
    refine r_iload_n (x := l1) dX12_layNow_14 rfl ?_
    refine r_aload_n (x := 60) dX12_layNow_15 rfl ?_
    refine r_getA dX12_layNow_16 (fa_12_24_60 hE) ?_
    refine r_iload_n (x := l1) dX12_layNow_19 rfl ?_
    refine r_iaload dX12_layNow_20 (ar_65 hE) ?_
    refine r_iastore dX12_layNow_21 (ar_81 hE) ?_
    refine r_nmS fun q2 _ => ?_
    refine r_iinc (x := l1) (v := (l1 + (1 : Int32))) (L2 := [(0, .ref 60), (1, .int (l1 + (1 : Int32)))]) dX12_layNow_22 rfl rfl rfl rfl ?_
    refine r_goto (t := 2) dX12_layNow_25 rfl ?_
    exact r_sub (L' := [(0, .ref 60), (1, .int (l1 + (1 : Int32)))]) (sub_c rfl (sub_c rfl sub_n)) (hrec_2 q2 (l1 + (1 : Int32)))
def f_X12_layNow (q : SS)  : Option SS :=
  b_X12_layNow_2 q (0 : Int32)
theorem e_X12_layNow {E : EE} (hE : GE E) (q : SS)  : R E (κV E) 0 226 0 [(0, .ref 60)] [] q (f_X12_layNow q) := by
  unfold f_X12_layNow
  refine r_iconst (v := (0 : Int32)) dX12_layNow_0 rfl ?_
  refine r_istore_n (L2 := [(0, .ref 60), (1, .int (0 : Int32))]) dX12_layNow_1 rfl rfl ?_
  exact r_sub (L' := [(0, .ref 60), (1, .int (0 : Int32))]) (sub_c rfl (sub_c rfl sub_n)) (rb_X12_layNow_2 hE q (0 : Int32))
def f_X12_maySlip (q : SS) (a1 : Int32) (a2 : Int32) : Option Int32 :=
  if vin a1 12 then
  if (q.1 67 a1.toNatClampNeg) = (4 : Int32) then
  (some (0 : Int32))
  else
  (if vin a1 12 then
  if (q.1 81 a1.toNatClampNeg) = a2 then
  (some (0 : Int32))
  else
  (if vin a2 6 then
  if (q.1 62 a2.toNatClampNeg) = 0 then
  (some (1 : Int32))
  else
  (some (0 : Int32))
  else none)
  else none)
  else none
theorem e_X12_maySlip {E : EE} (hE : GE E) (q : SS) (a1 : Int32) (a2 : Int32) : R E (κi E q) 0 230 0 [(0, .ref 60), (1, .int a1), (2, .int a2)] [] q (f_X12_maySlip q a1 a2) := by
  unfold f_X12_maySlip
  refine r_aload_n (x := 60) dX12_maySlip_0 rfl ?_
  refine r_getA dX12_maySlip_1 (fa_12_30_60 hE) ?_
  refine r_iload_n (x := a1) dX12_maySlip_4 rfl ?_
  refine r_iaload dX12_maySlip_5 (ar_67 hE) ?_
  refine r_iconst (v := (4 : Int32)) dX12_maySlip_6 rfl ?_
  refine r_icmp_eq (t := 33) dX12_maySlip_7 rfl (fun h3 => ?_) (fun h3 => ?_)
  · refine r_iconst (v := (0 : Int32)) dX12_maySlip_33 rfl ?_
    exact r_ireturn dX12_maySlip_34 rfl rfl
  · refine r_aload_n (x := 60) dX12_maySlip_10 rfl ?_
    refine r_getA dX12_maySlip_11 (fa_12_74_60 hE) ?_
    refine r_iload_n (x := a1) dX12_maySlip_14 rfl ?_
    refine r_iaload dX12_maySlip_15 (ar_81 hE) ?_
    refine r_iload_n (x := a2) dX12_maySlip_16 rfl ?_
    refine r_icmp_eq (t := 33) dX12_maySlip_17 rfl (fun h2 => ?_) (fun h2 => ?_)
    · refine r_iconst (v := (0 : Int32)) dX12_maySlip_33 rfl ?_
      exact r_ireturn dX12_maySlip_34 rfl rfl
    · refine r_aload_n (x := 60) dX12_maySlip_20 rfl ?_
      refine r_getA dX12_maySlip_21 (fa_12_15_60 hE) ?_
      refine r_iload_n (x := a2) dX12_maySlip_24 rfl ?_
      refine r_iaload dX12_maySlip_25 (ar_62 hE) ?_
      refine r_if_ne (t := 33) dX12_maySlip_26 rfl (fun h1 => ?_) (fun h1 => ?_)
      · refine r_iconst (v := (1 : Int32)) dX12_maySlip_29 rfl ?_
        refine r_goto (t := 34) dX12_maySlip_30 rfl ?_
        exact r_ireturn dX12_maySlip_34 rfl rfl
      · refine r_iconst (v := (0 : Int32)) dX12_maySlip_33 rfl ?_
        exact r_ireturn dX12_maySlip_34 rfl rfl
def b_X12_slip_59 (q : SS) (l1 : Int32) (l2 : Int32) : Option (Int32 × SS) :=
  if vin (0 : Int32) 4 then
  if vin (0 : Int32) 4 then
  nm (sI q 83 (0 : Int32).toNatClampNeg ((q.1 83 (0 : Int32).toNatClampNeg) + (1 : Int32))) fun q6 =>
  if vin (1 : Int32) 4 then
  if vin (1 : Int32) 4 then
  nm (sI q6 83 (1 : Int32).toNatClampNeg ((q6.1 83 (1 : Int32).toNatClampNeg) + l2)) fun q7 =>
  if vin (l1 / (8 : Int32)) 12 then
  some ((q7.1 65 (l1 / (8 : Int32)).toNatClampNeg), q7)
  else none
  else none
  else none
  else none
  else none
theorem rb_X12_slip_59 {E : EE} (hE : GE E) (q : SS) (l1 : Int32) (l2 : Int32) : R E (κI E) 3 264 59 [(0, .ref 60), (1, .int l1), (2, .int l2)] [] q (b_X12_slip_59 q l1 l2) := by
  unfold b_X12_slip_59
  refine r_aload_n (x := 60) dX12_slip_59 rfl ?_
  refine r_getA dX12_slip_60 (fa_12_80_60 hE) ?_
  refine r_iconst (v := (0 : Int32)) dX12_slip_63 rfl ?_
  refine r_dup2 dX12_slip_64 ⟨rfl, rfl⟩ ?_
  refine r_iaload dX12_slip_65 (ar_83 hE) ?_
  refine r_iconst (v := (1 : Int32)) dX12_slip_66 rfl ?_
  refine r_iadd dX12_slip_67 ?_
  refine r_iastore dX12_slip_68 (ar_83 hE) ?_
  refine r_nmS fun q6 _ => ?_
  refine r_aload_n (x := 60) dX12_slip_69 rfl ?_
  refine r_getA dX12_slip_70 (fa_12_80_60 hE) ?_
  refine r_iconst (v := (1 : Int32)) dX12_slip_73 rfl ?_
  refine r_dup2 dX12_slip_74 ⟨rfl, rfl⟩ ?_
  refine r_iaload dX12_slip_75 (ar_83 hE) ?_
  refine r_iload_n (x := l2) dX12_slip_76 rfl ?_
  refine r_iadd dX12_slip_77 ?_
  refine r_iastore dX12_slip_78 (ar_83 hE) ?_
  refine r_nmS fun q7 _ => ?_
  refine r_aload_n (x := 60) dX12_slip_79 rfl ?_
  refine r_getA dX12_slip_80 (fa_12_24_60 hE) ?_
  refine r_iload_n (x := l1) dX12_slip_83 rfl ?_
  refine r_bipush (v := (8 : Int32)) dX12_slip_84 rfl ?_
  refine r_idivC dX12_slip_86 (by decide) ?_
  refine r_iaload dX12_slip_87 (ar_65 hE) ?_
  exact r_ireturn dX12_slip_88 rfl rfl
def f_X12_slip (q : SS) (a1 : Int32) (a2 : Int32) : Option (Int32 × SS) :=
  (f_X12_areSlip q a1).bind fun r1 =>
  if r1 = 0 then
  (some ((-1 : Int32), q))
  else
  ((f_X12_in q a2 (0 : Int32) (1 : Int32)).bind fun r2 =>
  if r2 = 0 then
  (some ((-1 : Int32), q))
  else
  ((f_X12_layNow q).bind fun r3 =>
  (f_X12_maySlip r3 (a1 / (8 : Int32)) (jrem a1 (8 : Int32))).bind fun r4 =>
  if r4 = 0 then
  (some ((-5 : Int32), r3))
  else
  (if a2 = (1 : Int32) then
  (if vin (a1 / (8 : Int32)) 12 then
  nm (sI r3 65 (a1 / (8 : Int32)).toNatClampNeg (jrem a1 (8 : Int32))) fun q5 =>
  b_X12_slip_59 q5 a1 a2
  else none)
  else
  (b_X12_slip_59 r3 a1 a2))))
theorem e_X12_slip {E : EE} (hE : GE E) (q : SS) (a1 : Int32) (a2 : Int32) : R E (κI E) 3 264 0 [(0, .ref 60), (1, .int a1), (2, .int a2)] [] q (f_X12_slip q a1 a2) := by
  unfold f_X12_slip
  refine r_aload_n (x := 60) dX12_slip_0 rfl ?_
  refine r_iload_n (x := a1) dX12_slip_1 rfl ?_
  refine r_calli (k := 0) (idx := 257) (y := 232) (as := [.ref 60, .int a1]) (rest := []) (L0 := [(0, .ref 60), (1, .int a1)]) dX12_slip_2 rfl rfl rfl rfl rfl (vok_v (ob_60 hE) rfl) rfl (r_dep (by decide) (e_X12_areSlip hE q a1)) (fun r1 => ?_)
  refine r_if_eq (t := 17) dX12_slip_5 rfl (fun h11 => ?_) (fun h11 => ?_)
  · refine r_iconst (v := (-1 : Int32)) dX12_slip_17 rfl ?_
    exact r_ireturn dX12_slip_18 rfl rfl
  · refine r_iload_n (x := a2) dX12_slip_8 rfl ?_
    refine r_iconst (v := (0 : Int32)) dX12_slip_9 rfl ?_
    refine r_iconst (v := (1 : Int32)) dX12_slip_10 rfl ?_
    refine r_calli (k := 2) (idx := 118) (y := 189) (as := [.int a2, .int (0 : Int32), .int (1 : Int32)]) (rest := []) (L0 := [(0, .int a2), (1, .int (0 : Int32)), (2, .int (1 : Int32))]) dX12_slip_11 rfl rfl rfl rfl rfl vok_s rfl (r_dep (by decide) (e_X12_in hE q a2 (0 : Int32) (1 : Int32))) (fun r2 => ?_)
    refine r_if_ne (t := 19) dX12_slip_14 rfl (fun h10 => ?_) (fun h10 => ?_)
    · refine r_iconst (v := (-1 : Int32)) dX12_slip_17 rfl ?_
      exact r_ireturn dX12_slip_18 rfl rfl
    · refine r_aload_n (x := 60) dX12_slip_19 rfl ?_
      refine r_callV (k := 0) (idx := 168) (y := 226) (as := [.ref 60]) (rest := []) (L0 := [(0, .ref 60)]) dX12_slip_20 rfl rfl rfl rfl rfl (vok_v (ob_60 hE) rfl) rfl (r_dep (by decide) (e_X12_layNow hE q)) (fun r3 => ?_)
      refine r_aload_n (x := 60) dX12_slip_23 rfl ?_
      refine r_iload_n (x := a1) dX12_slip_24 rfl ?_
      refine r_bipush (v := (8 : Int32)) dX12_slip_25 rfl ?_
      refine r_idivC dX12_slip_27 (by decide) ?_
      refine r_iload_n (x := a1) dX12_slip_28 rfl ?_
      refine r_bipush (v := (8 : Int32)) dX12_slip_29 rfl ?_
      refine r_iremC dX12_slip_31 (by decide) ?_
      refine r_calli (k := 0) (idx := 251) (y := 230) (as := [.ref 60, .int (a1 / (8 : Int32)), .int (jrem a1 (8 : Int32))]) (rest := []) (L0 := [(0, .ref 60), (1, .int (a1 / (8 : Int32))), (2, .int (jrem a1 (8 : Int32)))]) dX12_slip_32 rfl rfl rfl rfl rfl (vok_v (ob_60 hE) rfl) rfl (r_dep (by decide) (e_X12_maySlip hE r3 (a1 / (8 : Int32)) (jrem a1 (8 : Int32)))) (fun r4 => ?_)
      refine r_if_ne (t := 41) dX12_slip_35 rfl (fun h9 => ?_) (fun h9 => ?_)
      · refine r_bipush (v := (-5 : Int32)) dX12_slip_38 rfl ?_
        exact r_ireturn dX12_slip_40 rfl rfl
      · refine r_iload_n (x := a2) dX12_slip_41 rfl ?_
        refine r_iconst (v := (1 : Int32)) dX12_slip_42 rfl ?_
        refine r_icmp_ne (t := 59) dX12_slip_43 rfl (fun h8 => ?_) (fun h8 => ?_)
        · refine r_aload_n (x := 60) dX12_slip_46 rfl ?_
          refine r_getA dX12_slip_47 (fa_12_24_60 hE) ?_
          refine r_iload_n (x := a1) dX12_slip_50 rfl ?_
          refine r_bipush (v := (8 : Int32)) dX12_slip_51 rfl ?_
          refine r_idivC dX12_slip_53 (by decide) ?_
          refine r_iload_n (x := a1) dX12_slip_54 rfl ?_
          refine r_bipush (v := (8 : Int32)) dX12_slip_55 rfl ?_
          refine r_iremC dX12_slip_57 (by decide) ?_
          refine r_iastore dX12_slip_58 (ar_65 hE) ?_
          refine r_nmS fun q5 _ => ?_
          exact r_sub (L' := [(0, .ref 60), (1, .int a1), (2, .int a2)]) (sub_c rfl (sub_c rfl (sub_c rfl sub_n))) (rb_X12_slip_59 hE q5 a1 a2)
        · exact r_sub (L' := [(0, .ref 60), (1, .int a1), (2, .int a2)]) (sub_c rfl (sub_c rfl (sub_c rfl sub_n))) (rb_X12_slip_59 hE r3 a1 a2)
def f_X11_nextDraw (q : SS) (a0 : Int32) : Option Int32 :=
  some ((a0 * (1103515245 : Int32)) + (12345 : Int32))
theorem e_X11_nextDraw {E : EE} (hE : GE E) (q : SS) (a0 : Int32) : R E (κi E q) 0 169 0 [(0, .int a0)] [] q (f_X11_nextDraw q a0) := by
  unfold f_X11_nextDraw
  refine r_iload_n (x := a0) dX11_nextDraw_0 rfl ?_
  refine r_ldc (v := (1103515245 : Int32)) dX11_nextDraw_1 rfl ?_
  refine r_imul dX11_nextDraw_4 ?_
  refine r_sipush (v := (12345 : Int32)) dX11_nextDraw_5 rfl ?_
  refine r_iadd dX11_nextDraw_8 ?_
  exact r_ireturn dX11_nextDraw_9 rfl rfl
def b_X8_heldBy_30 (rec_4 : Int32 → Int32 → Int32 → Option Int32) (q : SS) (l1 : Int32) (l3 : Int32) (s0 : Int32) (s1 : Int32) : Option Int32 :=
  nm (s1 + s0) fun v3 =>
  rec_4 l1 v3 (l3 + (1 : Int32))
theorem rb_X8_heldBy_30 {E : EE} (hE : GE E) {q : SS} {rec_4 : Int32 → Int32 → Int32 → Option Int32} (hrec_4 : ∀ (yl1 : Int32) (yl2 : Int32) (yl3 : Int32), R E (κi E q) 2 100 4 [(0, .ref 24), (1, .int yl1), (2, .int yl2), (3, .int yl3)] [] q (rec_4 yl1 yl2 yl3)) (l1 : Int32) (l3 : Int32) (s0 : Int32) (s1 : Int32) : R E (κi E q) 2 100 30 [(0, .ref 24), (1, .int l1), (3, .int l3)] [.int s0, .int s1] q (b_X8_heldBy_30 rec_4 q l1 l3 s0 s1) := by
  unfold b_X8_heldBy_30
  refine r_iadd dX8_heldBy_30 ?_
  refine r_nmI fun v3 _ => ?_
  refine r_istore_n (L2 := [(0, .ref 24), (1, .int l1), (2, .int v3), (3, .int l3)]) dX8_heldBy_31 rfl rfl ?_
  refine r_iinc (x := l3) (v := (l3 + (1 : Int32))) (L2 := [(0, .ref 24), (1, .int l1), (2, .int v3), (3, .int (l3 + (1 : Int32)))]) dX8_heldBy_32 rfl rfl rfl rfl ?_
  refine r_goto (t := 4) dX8_heldBy_35 rfl ?_
  exact r_sub (L' := [(0, .ref 24), (1, .int l1), (2, .int v3), (3, .int (l3 + (1 : Int32)))]) (sub_c rfl (sub_c rfl (sub_c rfl (sub_c rfl sub_n)))) (hrec_4 l1 v3 (l3 + (1 : Int32)))
def b_X8_heldBy_4 (q : SS) : Int32 → Int32 → Int32 → Option Int32 :=
  fx3 (fun (rec_4 : Int32 → Int32 → Int32 → Option Int32) (l1 : Int32) (l2 : Int32) (l3 : Int32) =>
  (f_X10_tickets q).bind fun r1 =>
  if r1 ≤ l3 then
  (some l2)
  else
  ((f_X8_holderOf q l3).bind fun r2 =>
  if r2 = l1 then
  (b_X8_heldBy_30 rec_4 q l1 l3 (1 : Int32) l2)
  else
  (b_X8_heldBy_30 rec_4 q l1 l3 (0 : Int32) l2))) FU
theorem rb_X8_heldBy_4 {E : EE} (hE : GE E) (q : SS) (l1 : Int32) (l2 : Int32) (l3 : Int32) : R E (κi E q) 2 100 4 [(0, .ref 24), (1, .int l1), (2, .int l2), (3, .int l3)] [] q (b_X8_heldBy_4 q l1 l2 l3) := by
  unfold b_X8_heldBy_4
  refine fx3_ok (P := fun l1 l2 l3 o => R E (κi E q) 2 100 4 [(0, .ref 24), (1, .int l1), (2, .int l2), (3, .int l3)] [] q o) (fun _ _ _ => r_no) (fun rec_4 hrec_4 l1 l2 l3 => ?_) _ _ _ _
  refine r_iload_n (x := l3) dX8_heldBy_4 rfl ?_
  refine r_aload_n (x := 24) dX8_heldBy_5 rfl ?_
  refine r_getA dX8_heldBy_6 (fa_8_9_24 hE) ?_
  refine r_calli (k := 0) (idx := 33) (y := 126) (as := [.ref 1]) (rest := [.int l3]) (L0 := [(0, .ref 1)]) dX8_heldBy_9 rfl rfl rfl rfl rfl (vok_v (ob_1 hE) rfl) rfl (r_dep (by decide) (e_X10_tickets hE q)) (fun r1 => ?_)
  refine r_icmp_ge (t := 38) dX8_heldBy_12 rfl (fun h5 => ?_) (fun h5 => ?_)
  · refine r_iload_n (x := l2) dX8_heldBy_38 rfl ?_
    exact r_ireturn dX8_heldBy_39 rfl rfl
  · refine r_iload_n (x := l2) dX8_heldBy_15 rfl ?_
    refine r_aload_n (x := 24) dX8_heldBy_16 rfl ?_
    refine r_iload_n (x := l3) dX8_heldBy_17 rfl ?_
    refine r_calli (k := 0) (idx := 37) (y := 98) (as := [.ref 24, .int l3]) (rest := [.int l2]) (L0 := [(0, .ref 24), (1, .int l3)]) dX8_heldBy_18 rfl rfl rfl rfl rfl (vok_v (ob_24 hE) rfl) rfl (r_dep (by decide) (e_X8_holderOf hE q l3)) (fun r2 => ?_)
    refine r_iload_n (x := l1) dX8_heldBy_21 rfl ?_
    refine r_icmp_ne (t := 29) dX8_heldBy_22 rfl (fun h4 => ?_) (fun h4 => ?_)
    · refine r_iconst (v := (1 : Int32)) dX8_heldBy_25 rfl ?_
      refine r_goto (t := 30) dX8_heldBy_26 rfl ?_
      exact r_sub (L' := [(0, .ref 24), (1, .int l1), (3, .int l3)]) (sub_c rfl (sub_c rfl (sub_c rfl sub_n))) (rb_X8_heldBy_30 hE hrec_4 l1 l3 (1 : Int32) l2)
    · refine r_iconst (v := (0 : Int32)) dX8_heldBy_29 rfl ?_
      exact r_sub (L' := [(0, .ref 24), (1, .int l1), (3, .int l3)]) (sub_c rfl (sub_c rfl (sub_c rfl sub_n))) (rb_X8_heldBy_30 hE hrec_4 l1 l3 (0 : Int32) l2)
def f_X8_heldBy (q : SS) (a1 : Int32) : Option Int32 :=
  b_X8_heldBy_4 q a1 (0 : Int32) (0 : Int32)
theorem e_X8_heldBy {E : EE} (hE : GE E) (q : SS) (a1 : Int32) : R E (κi E q) 2 100 0 [(0, .ref 24), (1, .int a1)] [] q (f_X8_heldBy q a1) := by
  unfold f_X8_heldBy
  refine r_iconst (v := (0 : Int32)) dX8_heldBy_0 rfl ?_
  refine r_istore_n (L2 := [(0, .ref 24), (1, .int a1), (2, .int (0 : Int32))]) dX8_heldBy_1 rfl rfl ?_
  refine r_iconst (v := (0 : Int32)) dX8_heldBy_2 rfl ?_
  refine r_istore_n (L2 := [(0, .ref 24), (1, .int a1), (2, .int (0 : Int32)), (3, .int (0 : Int32))]) dX8_heldBy_3 rfl rfl ?_
  exact r_sub (L' := [(0, .ref 24), (1, .int a1), (2, .int (0 : Int32)), (3, .int (0 : Int32))]) (sub_c rfl (sub_c rfl (sub_c rfl (sub_c rfl sub_n)))) (rb_X8_heldBy_4 hE q a1 (0 : Int32) (0 : Int32))
def f_X4_isTold (q : SS)  : Option Int32 :=
  if (q.1 12 4) ≤ 0 then
  (some (0 : Int32))
  else
  (some (1 : Int32))
theorem e_X4_isTold {E : EE} (hE : GE E) (q : SS)  : R E (κi E q) 0 41 0 [(0, .ref 12)] [] q (f_X4_isTold q) := by
  unfold f_X4_isTold
  refine r_aload_n (x := 12) dX4_isTold_0 rfl ?_
  refine r_getI dX4_isTold_1 (ff_4_24_12 hE) (by decide) ?_
  refine r_if_le (t := 11) dX4_isTold_4 rfl (fun h1 => ?_) (fun h1 => ?_)
  · refine r_iconst (v := (0 : Int32)) dX4_isTold_11 rfl ?_
    exact r_ireturn dX4_isTold_12 rfl rfl
  · refine r_iconst (v := (1 : Int32)) dX4_isTold_7 rfl ?_
    refine r_goto (t := 12) dX4_isTold_8 rfl ?_
    exact r_ireturn dX4_isTold_12 rfl rfl
def f_X4_pop (q : SS)  : Option (Int32 × SS) :=
  if (q.1 12 5) ≤ 0 then
  (some ((0 : Int32), q))
  else
  (if (q.1 12 5) ≤ (121 : Int32) then
  (nm (sI q 12 5 ((q.1 12 5) - (1 : Int32))) fun q1 =>
  if vin (q1.1 12 5) 121 then
  some ((q1.1 15 (q1.1 12 5).toNatClampNeg), q1)
  else none)
  else
  (some ((0 : Int32), q)))
theorem e_X4_pop {E : EE} (hE : GE E) (q : SS)  : R E (κI E) 0 49 0 [(0, .ref 12)] [] q (f_X4_pop q) := by
  unfold f_X4_pop
  refine r_aload_n (x := 12) dX4_pop_0 rfl ?_
  refine r_getI dX4_pop_1 (ff_4_34_12 hE) (by decide) ?_
  refine r_if_le (t := 16) dX4_pop_4 rfl (fun h3 => ?_) (fun h3 => ?_)
  · refine r_iconst (v := (0 : Int32)) dX4_pop_16 rfl ?_
    exact r_ireturn dX4_pop_17 rfl rfl
  · refine r_aload_n (x := 12) dX4_pop_7 rfl ?_
    refine r_getI dX4_pop_8 (ff_4_34_12 hE) (by decide) ?_
    refine r_bipush (v := (121 : Int32)) dX4_pop_11 rfl ?_
    refine r_icmp_le (t := 18) dX4_pop_13 rfl (fun h2 => ?_) (fun h2 => ?_)
    · refine r_aload_n (x := 12) dX4_pop_18 rfl ?_
      refine r_dup dX4_pop_19 rfl ?_
      refine r_getI dX4_pop_20 (ff_4_34_12 hE) (by decide) ?_
      refine r_iconst (v := (1 : Int32)) dX4_pop_23 rfl ?_
      refine r_isub dX4_pop_24 ?_
      refine r_putI dX4_pop_25 (ff_4_34_12 hE) ?_
      refine r_nmS fun q1 _ => ?_
      refine r_aload_n (x := 12) dX4_pop_28 rfl ?_
      refine r_getA dX4_pop_29 (fa_4_18_12 hE) ?_
      refine r_aload_n (x := 12) dX4_pop_32 rfl ?_
      refine r_getI dX4_pop_33 (ff_4_34_12 hE) (by decide) ?_
      refine r_iaload dX4_pop_36 (ar_15 hE) ?_
      exact r_ireturn dX4_pop_37 rfl rfl
    · refine r_iconst (v := (0 : Int32)) dX4_pop_16 rfl ?_
      exact r_ireturn dX4_pop_17 rfl rfl
def f_X4_push (q : SS) (a1 : Int32) : Option SS :=
  if (q.1 12 5) < 0 then
  (some q)
  else
  (if (121 : Int32) ≤ (q.1 12 5) then
  (some q)
  else
  (if vin (q.1 12 5) 121 then
  nm (sI q 15 (q.1 12 5).toNatClampNeg a1) fun q1 =>
  nm (sI q1 12 5 ((q1.1 12 5) + (1 : Int32))) fun q2 =>
  some q2
  else none))
theorem e_X4_push {E : EE} (hE : GE E) (q : SS) (a1 : Int32) : R E (κV E) 0 48 0 [(0, .ref 12), (1, .int a1)] [] q (f_X4_push q a1) := by
  unfold f_X4_push
  refine r_aload_n (x := 12) dX4_push_0 rfl ?_
  refine r_getI dX4_push_1 (ff_4_34_12 hE) (by decide) ?_
  refine r_if_lt (t := 36) dX4_push_4 rfl (fun h4 => ?_) (fun h4 => ?_)
  · exact r_return dX4_push_36 rfl rfl
  · refine r_aload_n (x := 12) dX4_push_7 rfl ?_
    refine r_getI dX4_push_8 (ff_4_34_12 hE) (by decide) ?_
    refine r_bipush (v := (121 : Int32)) dX4_push_11 rfl ?_
    refine r_icmp_ge (t := 36) dX4_push_13 rfl (fun h3 => ?_) (fun h3 => ?_)
    · exact r_return dX4_push_36 rfl rfl
    · refine r_aload_n (x := 12) dX4_push_16 rfl ?_
      refine r_getA dX4_push_17 (fa_4_18_12 hE) ?_
      refine r_aload_n (x := 12) dX4_push_20 rfl ?_
      refine r_getI dX4_push_21 (ff_4_34_12 hE) (by decide) ?_
      refine r_iload_n (x := a1) dX4_push_24 rfl ?_
      refine r_iastore dX4_push_25 (ar_15 hE) ?_
      refine r_nmS fun q1 _ => ?_
      refine r_aload_n (x := 12) dX4_push_26 rfl ?_
      refine r_dup dX4_push_27 rfl ?_
      refine r_getI dX4_push_28 (ff_4_34_12 hE) (by decide) ?_
      refine r_iconst (v := (1 : Int32)) dX4_push_31 rfl ?_
      refine r_iadd dX4_push_32 ?_
      refine r_putI dX4_push_33 (ff_4_34_12 hE) ?_
      refine r_nmS fun q2 _ => ?_
      exact r_return dX4_push_36 rfl rfl
def b_X4_join_100 (q : SS)  : Option Int32 :=
  some (1 : Int32)
theorem rb_X4_join_100 {E : EE} (hE : GE E) (q : SS)  : R E (κi E q) 0 47 100 [] [] q (b_X4_join_100 q) := by
  unfold b_X4_join_100
  refine r_iconst (v := (1 : Int32)) dX4_join_100 rfl ?_
  refine r_goto (t := 105) dX4_join_101 rfl ?_
  exact r_ireturn dX4_join_105 rfl rfl
def f_X4_join (q : SS) (a0 : Int32) (a1 : Int32) (a2 : Int32) : Option Int32 :=
  sw a0 [(37, (if a2 = 0 then
  (some (0 : Int32))
  else
  (if a2 = 0 then none else
  some (jrem a1 a2)))), (38, (if a1 = 0 then
  (some (0 : Int32))
  else
  (if a2 = 0 then
  (some (0 : Int32))
  else
  (some (1 : Int32))))), (42, (some (a1 * a2))), (43, (some (a1 + a2))), (45, (some (a1 - a2))), (47, (if a2 = 0 then
  (some (0 : Int32))
  else
  (if a2 = 0 then none else
  some (a1 / a2)))), (60, (if a2 ≤ a1 then
  (some (0 : Int32))
  else
  (some (1 : Int32)))), (61, (if a1 = a2 then
  (some (1 : Int32))
  else
  (some (0 : Int32)))), (62, (if a1 ≤ a2 then
  (some (0 : Int32))
  else
  (some (1 : Int32)))), (124, (if a1 = 0 then
  (if a2 = 0 then
  (some (0 : Int32))
  else
  (b_X4_join_100 q))
  else
  (b_X4_join_100 q)))]
  (some (0 : Int32))
theorem e_X4_join {E : EE} (hE : GE E) (q : SS) (a0 : Int32) (a1 : Int32) (a2 : Int32) : R E (κi E q) 0 47 0 [(0, .int a0), (1, .int a1), (2, .int a2)] [] q (f_X4_join q a0 a1 a2) := by
  unfold f_X4_join
  refine r_iload_n (x := a0) dX4_join_0 rfl ?_
  refine r_sw1 (fun h1 => ?_) (fun h1 => ?_)
  · refine r_jmp (t := 177) dX4_join_1 rfl (by rw [h1]; rfl) ?_
    refine r_iload_n (x := a2) dX4_join_177 rfl ?_
    refine r_if_ne (t := 185) dX4_join_178 rfl (fun h2 => ?_) (fun h2 => ?_)
    · refine r_iconst (v := (0 : Int32)) dX4_join_181 rfl ?_
      refine r_goto (t := 188) dX4_join_182 rfl ?_
      exact r_ireturn dX4_join_188 rfl rfl
    · refine r_iload_n (x := a1) dX4_join_185 rfl ?_
      refine r_iload_n (x := a2) dX4_join_186 rfl ?_
      refine r_irem dX4_join_187 ?_
      exact r_ireturn dX4_join_188 rfl rfl
  refine r_sw1 (fun h3 => ?_) (fun h3 => ?_)
  · refine r_jmp (t := 106) dX4_join_1 rfl (by rw [h3]; rfl) ?_
    refine r_iload_n (x := a1) dX4_join_106 rfl ?_
    refine r_if_eq (t := 118) dX4_join_107 rfl (fun h5 => ?_) (fun h5 => ?_)
    · refine r_iconst (v := (0 : Int32)) dX4_join_118 rfl ?_
      exact r_ireturn dX4_join_119 rfl rfl
    · refine r_iload_n (x := a2) dX4_join_110 rfl ?_
      refine r_if_eq (t := 118) dX4_join_111 rfl (fun h4 => ?_) (fun h4 => ?_)
      · refine r_iconst (v := (0 : Int32)) dX4_join_118 rfl ?_
        exact r_ireturn dX4_join_119 rfl rfl
      · refine r_iconst (v := (1 : Int32)) dX4_join_114 rfl ?_
        refine r_goto (t := 119) dX4_join_115 rfl ?_
        exact r_ireturn dX4_join_119 rfl rfl
  refine r_sw1 (fun h6 => ?_) (fun h6 => ?_)
  · refine r_jmp (t := 161) dX4_join_1 rfl (by rw [h6]; rfl) ?_
    refine r_iload_n (x := a1) dX4_join_161 rfl ?_
    refine r_iload_n (x := a2) dX4_join_162 rfl ?_
    refine r_imul dX4_join_163 ?_
    exact r_ireturn dX4_join_164 rfl rfl
  refine r_sw1 (fun h7 => ?_) (fun h7 => ?_)
  · refine r_jmp (t := 153) dX4_join_1 rfl (by rw [h7]; rfl) ?_
    refine r_iload_n (x := a1) dX4_join_153 rfl ?_
    refine r_iload_n (x := a2) dX4_join_154 rfl ?_
    refine r_iadd dX4_join_155 ?_
    exact r_ireturn dX4_join_156 rfl rfl
  refine r_sw1 (fun h8 => ?_) (fun h8 => ?_)
  · refine r_jmp (t := 157) dX4_join_1 rfl (by rw [h8]; rfl) ?_
    refine r_iload_n (x := a1) dX4_join_157 rfl ?_
    refine r_iload_n (x := a2) dX4_join_158 rfl ?_
    refine r_isub dX4_join_159 ?_
    exact r_ireturn dX4_join_160 rfl rfl
  refine r_sw1 (fun h9 => ?_) (fun h9 => ?_)
  · refine r_jmp (t := 165) dX4_join_1 rfl (by rw [h9]; rfl) ?_
    refine r_iload_n (x := a2) dX4_join_165 rfl ?_
    refine r_if_ne (t := 173) dX4_join_166 rfl (fun h10 => ?_) (fun h10 => ?_)
    · refine r_iconst (v := (0 : Int32)) dX4_join_169 rfl ?_
      refine r_goto (t := 176) dX4_join_170 rfl ?_
      exact r_ireturn dX4_join_176 rfl rfl
    · refine r_iload_n (x := a1) dX4_join_173 rfl ?_
      refine r_iload_n (x := a2) dX4_join_174 rfl ?_
      refine r_idiv dX4_join_175 ?_
      exact r_ireturn dX4_join_176 rfl rfl
  refine r_sw1 (fun h11 => ?_) (fun h11 => ?_)
  · refine r_jmp (t := 120) dX4_join_1 rfl (by rw [h11]; rfl) ?_
    refine r_iload_n (x := a1) dX4_join_120 rfl ?_
    refine r_iload_n (x := a2) dX4_join_121 rfl ?_
    refine r_icmp_ge (t := 129) dX4_join_122 rfl (fun h12 => ?_) (fun h12 => ?_)
    · refine r_iconst (v := (0 : Int32)) dX4_join_129 rfl ?_
      exact r_ireturn dX4_join_130 rfl rfl
    · refine r_iconst (v := (1 : Int32)) dX4_join_125 rfl ?_
      refine r_goto (t := 130) dX4_join_126 rfl ?_
      exact r_ireturn dX4_join_130 rfl rfl
  refine r_sw1 (fun h13 => ?_) (fun h13 => ?_)
  · refine r_jmp (t := 131) dX4_join_1 rfl (by rw [h13]; rfl) ?_
    refine r_iload_n (x := a1) dX4_join_131 rfl ?_
    refine r_iload_n (x := a2) dX4_join_132 rfl ?_
    refine r_icmp_ne (t := 140) dX4_join_133 rfl (fun h14 => ?_) (fun h14 => ?_)
    · refine r_iconst (v := (1 : Int32)) dX4_join_136 rfl ?_
      refine r_goto (t := 141) dX4_join_137 rfl ?_
      exact r_ireturn dX4_join_141 rfl rfl
    · refine r_iconst (v := (0 : Int32)) dX4_join_140 rfl ?_
      exact r_ireturn dX4_join_141 rfl rfl
  refine r_sw1 (fun h15 => ?_) (fun h15 => ?_)
  · refine r_jmp (t := 142) dX4_join_1 rfl (by rw [h15]; rfl) ?_
    refine r_iload_n (x := a1) dX4_join_142 rfl ?_
    refine r_iload_n (x := a2) dX4_join_143 rfl ?_
    refine r_icmp_le (t := 151) dX4_join_144 rfl (fun h16 => ?_) (fun h16 => ?_)
    · refine r_iconst (v := (0 : Int32)) dX4_join_151 rfl ?_
      exact r_ireturn dX4_join_152 rfl rfl
    · refine r_iconst (v := (1 : Int32)) dX4_join_147 rfl ?_
      refine r_goto (t := 152) dX4_join_148 rfl ?_
      exact r_ireturn dX4_join_152 rfl rfl
  refine r_sw1 (fun h17 => ?_) (fun h17 => ?_)
  · refine r_jmp (t := 92) dX4_join_1 rfl (by rw [h17]; rfl) ?_
    refine r_iload_n (x := a1) dX4_join_92 rfl ?_
    refine r_if_ne (t := 100) dX4_join_93 rfl (fun h19 => ?_) (fun h19 => ?_)
    · refine r_iload_n (x := a2) dX4_join_96 rfl ?_
      refine r_if_eq (t := 104) dX4_join_97 rfl (fun h18 => ?_) (fun h18 => ?_)
      · refine r_iconst (v := (0 : Int32)) dX4_join_104 rfl ?_
        exact r_ireturn dX4_join_105 rfl rfl
      · exact r_sub (L' := []) sub_n (rb_X4_join_100 hE q)
    · exact r_sub (L' := []) sub_n (rb_X4_join_100 hE q)
  refine r_jmp (t := 189) dX4_join_1 rfl ?_ ?_
  · exact sw_lk rfl (nq_c h1 (nq_c h3 (nq_c h6 (nq_c h7 (nq_c h8 (nq_c h9 (nq_c h11 (nq_c h13 (nq_c h15 (nq_c h17 nq_n)))))))))) rfl
  refine r_iconst (v := (0 : Int32)) dX4_join_189 rfl ?_
  exact r_ireturn dX4_join_190 rfl rfl
def b_X4_doStep_44 (q : SS) (s0 : Int32) : Option SS :=
  (f_X4_push q s0).bind fun r2 =>
  some r2
theorem rb_X4_doStep_44 {E : EE} (hE : GE E) (q : SS) (s0 : Int32) : R E (κV E) 1 46 44 [] [.int s0, .ref 12] q (b_X4_doStep_44 q s0) := by
  unfold b_X4_doStep_44
  refine r_callV (k := 0) (idx := 45) (y := 48) (as := [.ref 12, .int s0]) (rest := []) (L0 := [(0, .ref 12), (1, .int s0)]) dX4_doStep_44 rfl rfl rfl rfl rfl (vok_v (ob_12 hE) rfl) rfl (r_dep (by decide) (e_X4_push hE q s0)) (fun r2 => ?_)
  refine r_goto (t := 111) dX4_doStep_47 rfl ?_
  exact r_return dX4_doStep_111 rfl rfl
def b_X4_doStep_43 (q : SS)  : Option SS :=
  b_X4_doStep_44 q (0 : Int32)
theorem rb_X4_doStep_43 {E : EE} (hE : GE E) (q : SS)  : R E (κV E) 1 46 43 [] [.ref 12] q (b_X4_doStep_43 q) := by
  unfold b_X4_doStep_43
  refine r_iconst (v := (0 : Int32)) dX4_doStep_43 rfl ?_
  exact r_sub (L' := []) sub_n (rb_X4_doStep_44 hE q (0 : Int32))
def b_X4_doStep_87 (q : SS) (s0 : Int32) : Option SS :=
  (f_X4_push q s0).bind fun r8 =>
  some r8
theorem rb_X4_doStep_87 {E : EE} (hE : GE E) (q : SS) (s0 : Int32) : R E (κV E) 1 46 87 [] [.int s0, .ref 12] q (b_X4_doStep_87 q s0) := by
  unfold b_X4_doStep_87
  refine r_callV (k := 0) (idx := 45) (y := 48) (as := [.ref 12, .int s0]) (rest := []) (L0 := [(0, .ref 12), (1, .int s0)]) dX4_doStep_87 rfl rfl rfl rfl rfl (vok_v (ob_12 hE) rfl) rfl (r_dep (by decide) (e_X4_push hE q s0)) (fun r8 => ?_)
  refine r_goto (t := 111) dX4_doStep_90 rfl ?_
  exact r_return dX4_doStep_111 rfl rfl
def f_X4_doStep (q : SS) (a1 : Int32) (a2 : Int32) : Option SS :=
  if a1 = (48 : Int32) then
  ((f_X4_push q a2).bind fun r1 =>
  some r1)
  else
  (if a1 = (110 : Int32) then
  (if a2 < 0 then
  (b_X4_doStep_43 q)
  else
  (if (6 : Int32) ≤ a2 then
  (b_X4_doStep_43 q)
  else
  (if vin a2 6 then
  b_X4_doStep_44 q (q.1 16 a2.toNatClampNeg)
  else none)))
  else
  (if a1 = (126 : Int32) then
  ((f_X4_pop q).bind fun r5 =>
  (f_X4_push r5.2 (-r5.1)).bind fun r6 =>
  some r6)
  else
  (if a1 = (33 : Int32) then
  ((f_X4_pop q).bind fun r7 =>
  if r7.1 = 0 then
  (b_X4_doStep_87 r7.2 (1 : Int32))
  else
  (b_X4_doStep_87 r7.2 (0 : Int32)))
  else
  ((f_X4_pop q).bind fun r10 =>
  (f_X4_pop r10.2).bind fun r11 =>
  (f_X4_join r11.2 a1 r11.1 r10.1).bind fun r12 =>
  (f_X4_push r11.2 r12).bind fun r13 =>
  some r13))))
theorem e_X4_doStep {E : EE} (hE : GE E) (q : SS) (a1 : Int32) (a2 : Int32) : R E (κV E) 1 46 0 [(0, .ref 12), (1, .int a1), (2, .int a2)] [] q (f_X4_doStep q a1 a2) := by
  unfold f_X4_doStep
  refine r_iload_n (x := a1) dX4_doStep_0 rfl ?_
  refine r_bipush (v := (48 : Int32)) dX4_doStep_1 rfl ?_
  refine r_icmp_ne (t := 14) dX4_doStep_3 rfl (fun h17 => ?_) (fun h17 => ?_)
  · refine r_aload_n (x := 12) dX4_doStep_6 rfl ?_
    refine r_iload_n (x := a2) dX4_doStep_7 rfl ?_
    refine r_callV (k := 0) (idx := 45) (y := 48) (as := [.ref 12, .int a2]) (rest := []) (L0 := [(0, .ref 12), (1, .int a2)]) dX4_doStep_8 rfl rfl rfl rfl rfl (vok_v (ob_12 hE) rfl) rfl (r_dep (by decide) (e_X4_push hE q a2)) (fun r1 => ?_)
    refine r_goto (t := 111) dX4_doStep_11 rfl ?_
    exact r_return dX4_doStep_111 rfl rfl
  · refine r_iload_n (x := a1) dX4_doStep_14 rfl ?_
    refine r_bipush (v := (110 : Int32)) dX4_doStep_15 rfl ?_
    refine r_icmp_ne (t := 50) dX4_doStep_17 rfl (fun h16 => ?_) (fun h16 => ?_)
    · refine r_aload_n (x := 12) dX4_doStep_20 rfl ?_
      refine r_iload_n (x := a2) dX4_doStep_21 rfl ?_
      refine r_if_lt (t := 43) dX4_doStep_22 rfl (fun h4 => ?_) (fun h4 => ?_)
      · exact r_sub (L' := []) sub_n (rb_X4_doStep_43 hE q)
      · refine r_iload_n (x := a2) dX4_doStep_25 rfl ?_
        refine r_aload_n (x := 12) dX4_doStep_26 rfl ?_
        refine r_getA dX4_doStep_27 (fa_4_21_12 hE) ?_
        refine r_len (v := (6 : Int32)) dX4_doStep_30 (ar_16 hE) (by decide) rfl ?_
        refine r_icmp_ge (t := 43) dX4_doStep_31 rfl (fun h3 => ?_) (fun h3 => ?_)
        · exact r_sub (L' := []) sub_n (rb_X4_doStep_43 hE q)
        · refine r_aload_n (x := 12) dX4_doStep_34 rfl ?_
          refine r_getA dX4_doStep_35 (fa_4_21_12 hE) ?_
          refine r_iload_n (x := a2) dX4_doStep_38 rfl ?_
          refine r_iaload dX4_doStep_39 (ar_16 hE) ?_
          refine r_goto (t := 44) dX4_doStep_40 rfl ?_
          exact r_sub (L' := []) sub_n (rb_X4_doStep_44 hE q (q.1 16 a2.toNatClampNeg))
    · refine r_iload_n (x := a1) dX4_doStep_50 rfl ?_
      refine r_bipush (v := (126 : Int32)) dX4_doStep_51 rfl ?_
      refine r_icmp_ne (t := 68) dX4_doStep_53 rfl (fun h15 => ?_) (fun h15 => ?_)
      · refine r_aload_n (x := 12) dX4_doStep_56 rfl ?_
        refine r_aload_n (x := 12) dX4_doStep_57 rfl ?_
        refine r_callI (k := 0) (idx := 37) (y := 49) (as := [.ref 12]) (rest := [.ref 12]) (L0 := [(0, .ref 12)]) dX4_doStep_58 rfl rfl rfl rfl rfl (vok_v (ob_12 hE) rfl) rfl (r_dep (by decide) (e_X4_pop hE q)) (fun r5 => ?_)
        refine r_ineg dX4_doStep_61 ?_
        refine r_callV (k := 0) (idx := 45) (y := 48) (as := [.ref 12, .int (-r5.1)]) (rest := []) (L0 := [(0, .ref 12), (1, .int (-r5.1))]) dX4_doStep_62 rfl rfl rfl rfl rfl (vok_v (ob_12 hE) rfl) rfl (r_dep (by decide) (e_X4_push hE r5.2 (-r5.1))) (fun r6 => ?_)
        refine r_goto (t := 111) dX4_doStep_65 rfl ?_
        exact r_return dX4_doStep_111 rfl rfl
      · refine r_iload_n (x := a1) dX4_doStep_68 rfl ?_
        refine r_bipush (v := (33 : Int32)) dX4_doStep_69 rfl ?_
        refine r_icmp_ne (t := 93) dX4_doStep_71 rfl (fun h14 => ?_) (fun h14 => ?_)
        · refine r_aload_n (x := 12) dX4_doStep_74 rfl ?_
          refine r_aload_n (x := 12) dX4_doStep_75 rfl ?_
          refine r_callI (k := 0) (idx := 37) (y := 49) (as := [.ref 12]) (rest := [.ref 12]) (L0 := [(0, .ref 12)]) dX4_doStep_76 rfl rfl rfl rfl rfl (vok_v (ob_12 hE) rfl) rfl (r_dep (by decide) (e_X4_pop hE q)) (fun r7 => ?_)
          refine r_if_ne (t := 86) dX4_doStep_79 rfl (fun h9 => ?_) (fun h9 => ?_)
          · refine r_iconst (v := (1 : Int32)) dX4_doStep_82 rfl ?_
            refine r_goto (t := 87) dX4_doStep_83 rfl ?_
            exact r_sub (L' := []) sub_n (rb_X4_doStep_87 hE r7.2 (1 : Int32))
          · refine r_iconst (v := (0 : Int32)) dX4_doStep_86 rfl ?_
            exact r_sub (L' := []) sub_n (rb_X4_doStep_87 hE r7.2 (0 : Int32))
        · refine r_aload_n (x := 12) dX4_doStep_93 rfl ?_
          refine r_callI (k := 0) (idx := 37) (y := 49) (as := [.ref 12]) (rest := []) (L0 := [(0, .ref 12)]) dX4_doStep_94 rfl rfl rfl rfl rfl (vok_v (ob_12 hE) rfl) rfl (r_dep (by decide) (e_X4_pop hE q)) (fun r10 => ?_)
          refine r_istore_n (L2 := [(0, .ref 12), (1, .int a1), (2, .int a2), (3, .int r10.1)]) dX4_doStep_97 rfl rfl ?_
          refine r_aload_n (x := 12) dX4_doStep_98 rfl ?_
          refine r_iload_n (x := a1) dX4_doStep_99 rfl ?_
          refine r_aload_n (x := 12) dX4_doStep_100 rfl ?_
          refine r_callI (k := 0) (idx := 37) (y := 49) (as := [.ref 12]) (rest := [.int a1, .ref 12]) (L0 := [(0, .ref 12)]) dX4_doStep_101 rfl rfl rfl rfl rfl (vok_v (ob_12 hE) rfl) rfl (r_dep (by decide) (e_X4_pop hE r10.2)) (fun r11 => ?_)
          refine r_iload_n (x := r10.1) dX4_doStep_104 rfl ?_
          refine r_calli (k := 2) (idx := 49) (y := 47) (as := [.int a1, .int r11.1, .int r10.1]) (rest := [.ref 12]) (L0 := [(0, .int a1), (1, .int r11.1), (2, .int r10.1)]) dX4_doStep_105 rfl rfl rfl rfl rfl vok_s rfl (r_dep (by decide) (e_X4_join hE r11.2 a1 r11.1 r10.1)) (fun r12 => ?_)
          refine r_callV (k := 0) (idx := 45) (y := 48) (as := [.ref 12, .int r12]) (rest := []) (L0 := [(0, .ref 12), (1, .int r12)]) dX4_doStep_108 rfl rfl rfl rfl rfl (vok_v (ob_12 hE) rfl) rfl (r_dep (by decide) (e_X4_push hE r11.2 r12)) (fun r13 => ?_)
          exact r_return dX4_doStep_111 rfl rfl

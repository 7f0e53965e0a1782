def f_X11_image (q : SS)  : Option (Int32 × SS) :=
  (f_X1_keepImage q).bind fun r1 =>
  (f_X1_noted r1 (0 : Int32)).bind fun r2 =>
  some (r2, r1)
theorem e_X11_image {E : EE} (hE : GE E) (q : SS)  : R E (κI E) 4 174 0 [(0, .ref 0)] [] q (f_X11_image q) := by
  unfold f_X11_image
  refine r_aload_n (x := 0) gX11_image_0.1 rfl ?_
  refine r_getA gX11_image_0.2.1 (fa_11_76_0 hE) ?_
  refine r_callV (k := 0) (idx := 314) (y := 11) (as := [.ref 47]) (rest := []) (L0 := [(0, .ref 47)]) gX11_image_0.2.2.1 rfl rfl rfl rfl rfl (vok_v (ob_47 hE) rfl) rfl (r_dep (by decide) (e_X1_keepImage hE q)) (fun r1 => ?_)
  refine r_aload_n (x := 0) gX11_image_0.2.2.2.1 rfl ?_
  refine r_getA gX11_image_0.2.2.2.2.1 (fa_11_76_0 hE) ?_
  refine r_iconst (v := (0 : Int32)) gX11_image_0.2.2.2.2.2.1 rfl ?_
  refine r_calli (k := 0) (idx := 311) (y := 9) (as := [.ref 47, .int (0 : Int32)]) (rest := []) (L0 := [(0, .ref 47), (1, .int (0 : Int32))]) gX11_image_0.2.2.2.2.2.2.1 rfl rfl rfl rfl rfl (vok_v (ob_47 hE) rfl) rfl (r_dep (by decide) (e_X1_noted hE r1 (0 : Int32))) (fun r2 => ?_)
  exact r_ireturn gX11_image_0.2.2.2.2.2.2.2.1 rfl rfl
def b_X12_image_65 : SS → Int32 → Option (Int32 × SS) :=
  fx2 (fun (rec_65 : SS → Int32 → Option (Int32 × SS)) (q : SS) (l1 : Int32) =>
  if (4 : Int32) ≤ l1 then
  (if vin (0 : Int32) 4 then
  some ((q.1 83 (0 : Int32).toNatClampNeg), q)
  else none)
  else
  (if vin l1 4 then
  if vin l1 4 then
  nm (sI q 86 l1.toNatClampNeg (q.1 83 l1.toNatClampNeg)) fun q4 =>
  rec_65 q4 (l1 + (1 : Int32))
  else none
  else none)) FU
theorem rb_X12_image_65 {E : EE} (hE : GE E) (q : SS) (l1 : Int32) : R E (κI E) 0 268 65 [(0, .ref 60), (1, .int l1)] [] q (b_X12_image_65 q l1) := by
  unfold b_X12_image_65
  refine fx2_ok (P := fun q l1 o => R E (κI E) 0 268 65 [(0, .ref 60), (1, .int l1)] [] q o) (fun _ _ => r_no) (fun rec_65 hrec_65 q l1 => ?_) _ _ _
  refine r_iload_n (x := l1) gX12_image_54.2.2.2.2.2.2.2.1 rfl ?_
  refine r_iconst (v := (4 : Int32)) gX12_image_54.2.2.2.2.2.2.2.2.1 rfl ?_
  refine r_icmp_ge (t := 88) gX12_image_54.2.2.2.2.2.2.2.2.2.1 rfl (fun h5 => ?_) (fun h5 => ?_)
  · refine r_aload_n (x := 60) gX12_image_80.2.2.2.2.1 rfl ?_
    refine r_getA gX12_image_80.2.2.2.2.2.1 (fa_12_80_60 hE) ?_
    refine r_iconst (v := (0 : Int32)) gX12_image_80.2.2.2.2.2.2.1 rfl ?_
    refine r_iaload gX12_image_80.2.2.2.2.2.2.2.1 (ar_83 hE) ?_
    exact r_ireturn gX12_image_80.2.2.2.2.2.2.2.2.1 rfl rfl
  · refine r_aload_n (x := 60) gX12_image_54.2.2.2.2.2.2.2.2.2.2.1 rfl ?_
    refine r_getA gX12_image_54.2.2.2.2.2.2.2.2.2.2.2.1 (fa_12_89_60 hE) ?_
    refine r_iload_n (x := l1) gX12_image_54.2.2.2.2.2.2.2.2.2.2.2.2.1 rfl ?_
    refine r_aload_n (x := 60) gX12_image_54.2.2.2.2.2.2.2.2.2.2.2.2.2.1 rfl ?_
    refine r_getA gX12_image_54.2.2.2.2.2.2.2.2.2.2.2.2.2.2.1 (fa_12_80_60 hE) ?_
    refine r_iload_n (x := l1) gX12_image_54.2.2.2.2.2.2.2.2.2.2.2.2.2.2.2.1 rfl ?_
    refine r_iaload gX12_image_80.1 (ar_83 hE) ?_
    refine r_iastore gX12_image_80.2.1 (ar_86 hE) ?_
    refine r_nmS fun q4 _ => ?_
    refine r_iinc (x := l1) (v := (l1 + (1 : Int32))) (L2 := [(0, .ref 60), (1, .int (l1 + (1 : Int32)))]) gX12_image_80.2.2.1 rfl rfl rfl rfl ?_
    refine r_goto (t := 65) gX12_image_80.2.2.2.1 rfl ?_
    exact r_sub (L' := [(0, .ref 60), (1, .int (l1 + (1 : Int32)))]) (sub_c rfl (sub_c rfl sub_n)) (hrec_65 q4 (l1 + (1 : Int32)))
def b_X12_image_25 : SS → Int32 → Option (Int32 × SS) :=
  fx2 (fun (rec_25 : SS → Int32 → Option (Int32 × SS)) (q : SS) (l1 : Int32) =>
  if (q.1 60 6) ≤ l1 then
  (b_X12_image_65 q (0 : Int32))
  else
  (if vin l1 12 then
  if vin l1 12 then
  nm (sI q 84 l1.toNatClampNeg (q.1 65 l1.toNatClampNeg)) fun q6 =>
  if vin l1 12 then
  if vin l1 12 then
  nm (sI q6 85 l1.toNatClampNeg (q6.1 67 l1.toNatClampNeg)) fun q7 =>
  rec_25 q7 (l1 + (1 : Int32))
  else none
  else none
  else none
  else none)) FU
theorem rb_X12_image_25 {E : EE} (hE : GE E) (q : SS) (l1 : Int32) : R E (κI E) 0 268 25 [(0, .ref 60), (1, .int l1)] [] q (b_X12_image_25 q l1) := by
  unfold b_X12_image_25
  refine fx2_ok (P := fun q l1 o => R E (κI E) 0 268 25 [(0, .ref 60), (1, .int l1)] [] q o) (fun _ _ => r_no) (fun rec_25 hrec_25 q l1 => ?_) _ _ _
  refine r_iload_n (x := l1) gX12_image_0.2.2.2.2.2.2.2.2.2.2.2.2.2.2.2.1 rfl ?_
  refine r_aload_n (x := 60) gX12_image_26.1 rfl ?_
  refine r_getI gX12_image_26.2.1 (ff_12_122_60 hE) (by decide) ?_
  refine r_icmp_ge (t := 63) gX12_image_26.2.2.1 rfl (fun h8 => ?_) (fun h8 => ?_)
  · refine r_iconst (v := (0 : Int32)) gX12_image_54.2.2.2.2.2.1 rfl ?_
    refine r_istore_n (L2 := [(0, .ref 60), (1, .int (0 : Int32))]) gX12_image_54.2.2.2.2.2.2.1 rfl rfl ?_
    exact r_sub (L' := [(0, .ref 60), (1, .int (0 : Int32))]) (sub_c rfl (sub_c rfl sub_n)) (rb_X12_image_65 hE q (0 : Int32))
  · refine r_aload_n (x := 60) gX12_image_26.2.2.2.1 rfl ?_
    refine r_getA gX12_image_26.2.2.2.2.1 (fa_12_83_60 hE) ?_
    refine r_iload_n (x := l1) gX12_image_26.2.2.2.2.2.1 rfl ?_
    refine r_aload_n (x := 60) gX12_image_26.2.2.2.2.2.2.1 rfl ?_
    refine r_getA gX12_image_26.2.2.2.2.2.2.2.1 (fa_12_24_60 hE) ?_
    refine r_iload_n (x := l1) gX12_image_26.2.2.2.2.2.2.2.2.1 rfl ?_
    refine r_iaload gX12_image_26.2.2.2.2.2.2.2.2.2.1 (ar_65 hE) ?_
    refine r_iastore gX12_image_26.2.2.2.2.2.2.2.2.2.2.1 (ar_84 hE) ?_
    refine r_nmS fun q6 _ => ?_
    refine r_aload_n (x := 60) gX12_image_26.2.2.2.2.2.2.2.2.2.2.2.1 rfl ?_
    refine r_getA gX12_image_26.2.2.2.2.2.2.2.2.2.2.2.2.1 (fa_12_86_60 hE) ?_
    refine r_iload_n (x := l1) gX12_image_26.2.2.2.2.2.2.2.2.2.2.2.2.2.1 rfl ?_
    refine r_aload_n (x := 60) gX12_image_26.2.2.2.2.2.2.2.2.2.2.2.2.2.2.1 rfl ?_
    refine r_getA gX12_image_26.2.2.2.2.2.2.2.2.2.2.2.2.2.2.2.1 (fa_12_30_60 hE) ?_
    refine r_iload_n (x := l1) gX12_image_54.1 rfl ?_
    refine r_iaload gX12_image_54.2.1 (ar_67 hE) ?_
    refine r_iastore gX12_image_54.2.2.1 (ar_85 hE) ?_
    refine r_nmS fun q7 _ => ?_
    refine r_iinc (x := l1) (v := (l1 + (1 : Int32))) (L2 := [(0, .ref 60), (1, .int (l1 + (1 : Int32)))]) gX12_image_54.2.2.2.1 rfl rfl rfl rfl ?_
    refine r_goto (t := 25) gX12_image_54.2.2.2.2.1 rfl ?_
    exact r_sub (L' := [(0, .ref 60), (1, .int (l1 + (1 : Int32)))]) (sub_c rfl (sub_c rfl sub_n)) (hrec_25 q7 (l1 + (1 : Int32)))
def f_X12_image (q : SS)  : Option (Int32 × SS) :=
  nm (sI q 60 46 (1 : Int32)) fun q1 =>
  nm (sI q1 60 47 (q1.1 60 6)) fun q2 =>
  if vin (0 : Int32) 2 then
  nm (sI q2 60 48 (q2.1 68 (0 : Int32).toNatClampNeg)) fun q3 =>
  b_X12_image_25 q3 (0 : Int32)
  else none
theorem e_X12_image {E : EE} (hE : GE E) (q : SS)  : R E (κI E) 0 268 0 [(0, .ref 60)] [] q (f_X12_image q) := by
  unfold f_X12_image
  refine r_aload_n (x := 60) gX12_image_0.1 rfl ?_
  refine r_iconst (v := (1 : Int32)) gX12_image_0.2.1 rfl ?_
  refine r_putZC gX12_image_0.2.2.1 (ff_12_356_60 hE) (by decide) ?_
  refine r_nmS fun q1 _ => ?_
  refine r_aload_n (x := 60) gX12_image_0.2.2.2.1 rfl ?_
  refine r_aload_n (x := 60) gX12_image_0.2.2.2.2.1 rfl ?_
  refine r_getI gX12_image_0.2.2.2.2.2.1 (ff_12_122_60 hE) (by decide) ?_
  refine r_putI gX12_image_0.2.2.2.2.2.2.1 (ff_12_359_60 hE) ?_
  refine r_nmS fun q2 _ => ?_
  refine r_aload_n (x := 60) gX12_image_0.2.2.2.2.2.2.2.1 rfl ?_
  refine r_aload_n (x := 60) gX12_image_0.2.2.2.2.2.2.2.2.1 rfl ?_
  refine r_getA gX12_image_0.2.2.2.2.2.2.2.2.2.1 (fa_12_33_60 hE) ?_
  refine r_iconst (v := (0 : Int32)) gX12_image_0.2.2.2.2.2.2.2.2.2.2.1 rfl ?_
  refine r_iaload gX12_image_0.2.2.2.2.2.2.2.2.2.2.2.1 (ar_68 hE) ?_
  refine r_putI gX12_image_0.2.2.2.2.2.2.2.2.2.2.2.2.1 (ff_12_362_60 hE) ?_
  refine r_nmS fun q3 _ => ?_
  refine r_iconst (v := (0 : Int32)) gX12_image_0.2.2.2.2.2.2.2.2.2.2.2.2.2.1 rfl ?_
  refine r_istore_n (L2 := [(0, .ref 60), (1, .int (0 : Int32))]) gX12_image_0.2.2.2.2.2.2.2.2.2.2.2.2.2.2.1 rfl rfl ?_
  exact r_sub (L' := [(0, .ref 60), (1, .int (0 : Int32))]) (sub_c rfl (sub_c rfl sub_n)) (rb_X12_image_25 hE q3 (0 : Int32))
def b_X11_led_9 (q : SS)  : Option Int32 :=
  some (-1 : Int32)
theorem rb_X11_led_9 {E : EE} (hE : GE E) (q : SS)  : R E (κi E q) 1 173 9 [] [] q (b_X11_led_9 q) := by
  unfold b_X11_led_9
  refine r_iconst (v := (-1 : Int32)) gX11_led_0.2.2.2.2.2.1 rfl ?_
  refine r_goto (t := 21) gX11_led_0.2.2.2.2.2.2.1 rfl ?_
  exact r_ireturn gX11_led_0.2.2.2.2.2.2.2.2.2.2.2.1 rfl rfl
def f_X11_led (q : SS) (a1 : Int32) : Option Int32 :=
  if a1 < 0 then
  (b_X11_led_9 q)
  else
  (if a1 < (4 : Int32) then
  ((f_X1_noted q a1).bind fun r1 =>
  some r1)
  else
  (b_X11_led_9 q))
theorem e_X11_led {E : EE} (hE : GE E) (q : SS) (a1 : Int32) : R E (κi E q) 1 173 0 [(0, .ref 0), (1, .int a1)] [] q (f_X11_led q a1) := by
  unfold f_X11_led
  refine r_iload_n (x := a1) gX11_led_0.1 rfl ?_
  refine r_if_lt (t := 9) gX11_led_0.2.1 rfl (fun h3 => ?_) (fun h3 => ?_)
  · exact r_sub (L' := []) sub_n (rb_X11_led_9 hE q)
  · refine r_iload_n (x := a1) gX11_led_0.2.2.1 rfl ?_
    refine r_iconst (v := (4 : Int32)) gX11_led_0.2.2.2.1 rfl ?_
    refine r_icmp_lt (t := 13) gX11_led_0.2.2.2.2.1 rfl (fun h2 => ?_) (fun h2 => ?_)
    · refine r_aload_n (x := 0) gX11_led_0.2.2.2.2.2.2.2.1 rfl ?_
      refine r_getA gX11_led_0.2.2.2.2.2.2.2.2.1 (fa_11_76_0 hE) ?_
      refine r_iload_n (x := a1) gX11_led_0.2.2.2.2.2.2.2.2.2.1 rfl ?_
      refine r_calli (k := 0) (idx := 311) (y := 9) (as := [.ref 47, .int a1]) (rest := []) (L0 := [(0, .ref 47), (1, .int a1)]) gX11_led_0.2.2.2.2.2.2.2.2.2.2.1 rfl rfl rfl rfl rfl (vok_v (ob_47 hE) rfl) rfl (r_dep (by decide) (e_X1_noted hE q a1)) (fun r1 => ?_)
      exact r_ireturn gX11_led_0.2.2.2.2.2.2.2.2.2.2.2.1 rfl rfl
    · exact r_sub (L' := []) sub_n (rb_X11_led_9 hE q)
def f_X12_led (q : SS) (a1 : Int32) : Option Int32 :=
  (f_X12_in q a1 (0 : Int32) (3 : Int32)).bind fun r1 =>
  if r1 = 0 then
  (some (-1 : Int32))
  else
  (if vin a1 4 then
  some (q.1 83 a1.toNatClampNeg)
  else none)
theorem e_X12_led {E : EE} (hE : GE E) (q : SS) (a1 : Int32) : R E (κi E q) 1 267 0 [(0, .ref 60), (1, .int a1)] [] q (f_X12_led q a1) := by
  unfold f_X12_led
  refine r_iload_n (x := a1) gX12_led_0.1 rfl ?_
  refine r_iconst (v := (0 : Int32)) gX12_led_0.2.1 rfl ?_
  refine r_iconst (v := (3 : Int32)) gX12_led_0.2.2.1 rfl ?_
  refine r_calli (k := 2) (idx := 118) (y := 189) (as := [.int a1, .int (0 : Int32), .int (3 : Int32)]) (rest := []) (L0 := [(0, .int a1), (1, .int (0 : Int32)), (2, .int (3 : Int32))]) gX12_led_0.2.2.2.1 rfl rfl rfl rfl rfl vok_s rfl (r_dep (by decide) (e_X12_in hE q a1 (0 : Int32) (3 : Int32))) (fun r1 => ?_)
  refine r_if_eq (t := 18) gX12_led_0.2.2.2.2.1 rfl (fun h2 => ?_) (fun h2 => ?_)
  · refine r_iconst (v := (-1 : Int32)) gX12_led_0.2.2.2.2.2.2.2.2.2.2.1 rfl ?_
    exact r_ireturn gX12_led_0.2.2.2.2.2.2.2.2.2.2.2.1 rfl rfl
  · refine r_aload_n (x := 60) gX12_led_0.2.2.2.2.2.1 rfl ?_
    refine r_getA gX12_led_0.2.2.2.2.2.2.1 (fa_12_80_60 hE) ?_
    refine r_iload_n (x := a1) gX12_led_0.2.2.2.2.2.2.2.1 rfl ?_
    refine r_iaload gX12_led_0.2.2.2.2.2.2.2.2.1 (ar_83 hE) ?_
    refine r_goto (t := 19) gX12_led_0.2.2.2.2.2.2.2.2.2.1 rfl ?_
    exact r_ireturn gX12_led_0.2.2.2.2.2.2.2.2.2.2.2.1 rfl rfl
def f_X1_note (q : SS) (a1 : Int32) : Option SS :=
  if a1 < 0 then
  (some q)
  else
  (if (4 : Int32) ≤ a1 then
  (some q)
  else
  (if vin a1 4 then
  if vin a1 4 then
  nm (sI q 48 a1.toNatClampNeg ((q.1 48 a1.toNatClampNeg) + (1 : Int32))) fun q1 =>
  some q1
  else none
  else none))
theorem e_X1_note {E : EE} (hE : GE E) (q : SS) (a1 : Int32) : R E (κV E) 0 8 0 [(0, .ref 47), (1, .int a1)] [] q (f_X1_note q a1) := by
  unfold f_X1_note
  refine r_iload_n (x := a1) gX1_note_0.1 rfl ?_
  refine r_if_lt (t := 19) gX1_note_0.2.1 rfl (fun h3 => ?_) (fun h3 => ?_)
  · exact r_return gX1_note_0.2.2.2.2.2.2.2.2.2.2.2.2.2.1 rfl rfl
  · refine r_iload_n (x := a1) gX1_note_0.2.2.1 rfl ?_
    refine r_iconst (v := (4 : Int32)) gX1_note_0.2.2.2.1 rfl ?_
    refine r_icmp_ge (t := 19) gX1_note_0.2.2.2.2.1 rfl (fun h2 => ?_) (fun h2 => ?_)
    · exact r_return gX1_note_0.2.2.2.2.2.2.2.2.2.2.2.2.2.1 rfl rfl
    · refine r_aload_n (x := 47) gX1_note_0.2.2.2.2.2.1 rfl ?_
      refine r_getA gX1_note_0.2.2.2.2.2.2.1 (fa_1_15_47 hE) ?_
      refine r_iload_n (x := a1) gX1_note_0.2.2.2.2.2.2.2.1 rfl ?_
      refine r_dup2 gX1_note_0.2.2.2.2.2.2.2.2.1 ⟨rfl, rfl⟩ ?_
      refine r_iaload gX1_note_0.2.2.2.2.2.2.2.2.2.1 (ar_48 hE) ?_
      refine r_iconst (v := (1 : Int32)) gX1_note_0.2.2.2.2.2.2.2.2.2.2.1 rfl ?_
      refine r_iadd gX1_note_0.2.2.2.2.2.2.2.2.2.2.2.1 ?_
      refine r_iastore gX1_note_0.2.2.2.2.2.2.2.2.2.2.2.2.1 (ar_48 hE) ?_
      refine r_nmS fun q1 _ => ?_
      exact r_return gX1_note_0.2.2.2.2.2.2.2.2.2.2.2.2.2.1 rfl rfl
def b_X11_hour_25 (q : SS) (s0 : Int32) : Option (Int32 × SS) :=
  (f_X1_note q (3 : Int32)).bind fun r3 =>
  (f_X10_set r3 (7 : Int32) (0 : Int32) s0).bind fun r4 =>
  some (s0, r4)
theorem rb_X11_hour_25 {E : EE} (hE : GE E) (q : SS) (s0 : Int32) : R E (κI E) 3 172 25 [(0, .ref 0)] [.int s0] q (b_X11_hour_25 q s0) := by
  unfold b_X11_hour_25
  refine r_istore_n (L2 := [(0, .ref 0), (1, .int s0)]) gX11_hour_0.2.2.2.2.2.2.2.2.2.2.2.2.1 rfl rfl ?_
  refine r_aload_n (x := 0) gX11_hour_0.2.2.2.2.2.2.2.2.2.2.2.2.2.1 rfl ?_
  refine r_getA gX11_hour_0.2.2.2.2.2.2.2.2.2.2.2.2.2.2.1 (fa_11_76_0 hE) ?_
  refine r_iconst (v := (3 : Int32)) gX11_hour_0.2.2.2.2.2.2.2.2.2.2.2.2.2.2.2.1 rfl ?_
  refine r_callV (k := 0) (idx := 305) (y := 8) (as := [.ref 47, .int (3 : Int32)]) (rest := []) (L0 := [(0, .ref 47), (1, .int (3 : Int32))]) gX11_hour_31.1 rfl rfl rfl rfl rfl (vok_v (ob_47 hE) rfl) rfl (r_dep (by decide) (e_X1_note hE q (3 : Int32))) (fun r3 => ?_)
  refine r_aload_n (x := 0) gX11_hour_31.2.1 rfl ?_
  refine r_getA gX11_hour_31.2.2.1 (fa_11_10_0 hE) ?_
  refine r_bipush (v := (7 : Int32)) gX11_hour_31.2.2.2.1 rfl ?_
  refine r_iconst (v := (0 : Int32)) gX11_hour_31.2.2.2.2.1 rfl ?_
  refine r_iload_n (x := s0) gX11_hour_31.2.2.2.2.2.1 rfl ?_
  refine r_callV (k := 0) (idx := 136) (y := 135) (as := [.ref 1, .int (7 : Int32), .int (0 : Int32), .int s0]) (rest := []) (L0 := [(0, .ref 1), (1, .int (7 : Int32)), (2, .int (0 : Int32)), (3, .int s0)]) gX11_hour_31.2.2.2.2.2.2.1 rfl rfl rfl rfl rfl (vok_v (ob_1 hE) rfl) rfl (r_dep (by decide) (e_X10_set hE r3 (7 : Int32) (0 : Int32) s0)) (fun r4 => ?_)
  refine r_iload_n (x := s0) gX11_hour_31.2.2.2.2.2.2.2.1 rfl ?_
  exact r_ireturn gX11_hour_31.2.2.2.2.2.2.2.2.1 rfl rfl
def f_X11_hour (q : SS)  : Option (Int32 × SS) :=
  (f_X10_hourNow q).bind fun r1 =>
  if r1 < (11 : Int32) then
  ((f_X10_hourNow q).bind fun r2 =>
  b_X11_hour_25 q (r2 + (1 : Int32)))
  else
  (b_X11_hour_25 q (0 : Int32))
theorem e_X11_hour {E : EE} (hE : GE E) (q : SS)  : R E (κI E) 3 172 0 [(0, .ref 0)] [] q (f_X11_hour q) := by
  unfold f_X11_hour
  refine r_aload_n (x := 0) gX11_hour_0.1 rfl ?_
  refine r_getA gX11_hour_0.2.1 (fa_11_10_0 hE) ?_
  refine r_calli (k := 0) (idx := 308) (y := 127) (as := [.ref 1]) (rest := []) (L0 := [(0, .ref 1)]) gX11_hour_0.2.2.1 rfl rfl rfl rfl rfl (vok_v (ob_1 hE) rfl) rfl (r_dep (by decide) (e_X10_hourNow hE q)) (fun r1 => ?_)
  refine r_bipush (v := (11 : Int32)) gX11_hour_0.2.2.2.1 rfl ?_
  refine r_icmp_lt (t := 16) gX11_hour_0.2.2.2.2.1 rfl (fun h5 => ?_) (fun h5 => ?_)
  · refine r_aload_n (x := 0) gX11_hour_0.2.2.2.2.2.2.2.1 rfl ?_
    refine r_getA gX11_hour_0.2.2.2.2.2.2.2.2.1 (fa_11_10_0 hE) ?_
    refine r_calli (k := 0) (idx := 308) (y := 127) (as := [.ref 1]) (rest := []) (L0 := [(0, .ref 1)]) gX11_hour_0.2.2.2.2.2.2.2.2.2.1 rfl rfl rfl rfl rfl (vok_v (ob_1 hE) rfl) rfl (r_dep (by decide) (e_X10_hourNow hE q)) (fun r2 => ?_)
    refine r_iconst (v := (1 : Int32)) gX11_hour_0.2.2.2.2.2.2.2.2.2.2.1 rfl ?_
    refine r_iadd gX11_hour_0.2.2.2.2.2.2.2.2.2.2.2.1 ?_
    exact r_sub (L' := [(0, .ref 0)]) (sub_c rfl sub_n) (rb_X11_hour_25 hE q (r2 + (1 : Int32)))
  · refine r_iconst (v := (0 : Int32)) gX11_hour_0.2.2.2.2.2.1 rfl ?_
    refine r_goto (t := 25) gX11_hour_0.2.2.2.2.2.2.1 rfl ?_
    exact r_sub (L' := [(0, .ref 0)]) (sub_c rfl sub_n) (rb_X11_hour_25 hE q (0 : Int32))
def b_X12_hour_28 (q : SS) (s0 : Int32) (s1 : Int32) : Option (Int32 × SS) :=
  if vin s1 2 then
  nm (sI q 68 s1.toNatClampNeg s0) fun q1 =>
  if vin (3 : Int32) 4 then
  if vin (3 : Int32) 4 then
  nm (sI q1 83 (3 : Int32).toNatClampNeg ((q1.1 83 (3 : Int32).toNatClampNeg) + (1 : Int32))) fun q2 =>
  if vin (0 : Int32) 2 then
  some ((q2.1 68 (0 : Int32).toNatClampNeg), q2)
  else none
  else none
  else none
  else none
theorem rb_X12_hour_28 {E : EE} (hE : GE E) (q : SS) (s0 : Int32) (s1 : Int32) : R E (κI E) 0 266 28 [(0, .ref 60)] [.int s0, .int s1, .ref 68] q (b_X12_hour_28 q s0 s1) := by
  unfold b_X12_hour_28
  refine r_iastore gX12_hour_27.2.1 (ar_68 hE) ?_
  refine r_nmS fun q1 _ => ?_
  refine r_aload_n (x := 60) gX12_hour_27.2.2.1 rfl ?_
  refine r_getA gX12_hour_27.2.2.2.1 (fa_12_80_60 hE) ?_
  refine r_iconst (v := (3 : Int32)) gX12_hour_27.2.2.2.2.1 rfl ?_
  refine r_dup2 gX12_hour_27.2.2.2.2.2.1 ⟨rfl, rfl⟩ ?_
  refine r_iaload gX12_hour_27.2.2.2.2.2.2.1 (ar_83 hE) ?_
  refine r_iconst (v := (1 : Int32)) gX12_hour_27.2.2.2.2.2.2.2.1 rfl ?_
  refine r_iadd gX12_hour_27.2.2.2.2.2.2.2.2.1 ?_
  refine r_iastore gX12_hour_27.2.2.2.2.2.2.2.2.2.1 (ar_83 hE) ?_
  refine r_nmS fun q2 _ => ?_
  refine r_aload_n (x := 60) gX12_hour_27.2.2.2.2.2.2.2.2.2.2.1 rfl ?_
  refine r_getA gX12_hour_27.2.2.2.2.2.2.2.2.2.2.2.1 (fa_12_33_60 hE) ?_
  refine r_iconst (v := (0 : Int32)) gX12_hour_27.2.2.2.2.2.2.2.2.2.2.2.2.1 rfl ?_
  refine r_iaload gX12_hour_27.2.2.2.2.2.2.2.2.2.2.2.2.2.1 (ar_68 hE) ?_
  exact r_ireturn gX12_hour_27.2.2.2.2.2.2.2.2.2.2.2.2.2.2.1 rfl rfl
def f_X12_hour (q : SS)  : Option (Int32 × SS) :=
  if vin (0 : Int32) 2 then
  if (q.1 68 (0 : Int32).toNatClampNeg) = (11 : Int32) then
  (b_X12_hour_28 q (0 : Int32) (0 : Int32))
  else
  (if vin (0 : Int32) 2 then
  b_X12_hour_28 q ((q.1 68 (0 : Int32).toNatClampNeg) + (1 : Int32)) (0 : Int32)
  else none)
  else none
theorem e_X12_hour {E : EE} (hE : GE E) (q : SS)  : R E (κI E) 0 266 0 [(0, .ref 60)] [] q (f_X12_hour q) := by
  unfold f_X12_hour
  refine r_aload_n (x := 60) gX12_hour_0.1 rfl ?_
  refine r_getA gX12_hour_0.2.1 (fa_12_33_60 hE) ?_
  refine r_iconst (v := (0 : Int32)) gX12_hour_0.2.2.1 rfl ?_
  refine r_aload_n (x := 60) gX12_hour_0.2.2.2.1 rfl ?_
  refine r_getA gX12_hour_0.2.2.2.2.1 (fa_12_33_60 hE) ?_
  refine r_iconst (v := (0 : Int32)) gX12_hour_0.2.2.2.2.2.1 rfl ?_
  refine r_iaload gX12_hour_0.2.2.2.2.2.2.1 (ar_68 hE) ?_
  refine r_bipush (v := (11 : Int32)) gX12_hour_0.2.2.2.2.2.2.2.1 rfl ?_
  refine r_icmp_ne (t := 20) gX12_hour_0.2.2.2.2.2.2.2.2.1 rfl (fun h3 => ?_) (fun h3 => ?_)
  · refine r_iconst (v := (0 : Int32)) gX12_hour_0.2.2.2.2.2.2.2.2.2.1 rfl ?_
    refine r_goto (t := 28) gX12_hour_0.2.2.2.2.2.2.2.2.2.2.1 rfl ?_
    exact r_sub (L' := [(0, .ref 60)]) (sub_c rfl sub_n) (rb_X12_hour_28 hE q (0 : Int32) (0 : Int32))
  · refine r_aload_n (x := 60) gX12_hour_0.2.2.2.2.2.2.2.2.2.2.2.1 rfl ?_
    refine r_getA gX12_hour_0.2.2.2.2.2.2.2.2.2.2.2.2.1 (fa_12_33_60 hE) ?_
    refine r_iconst (v := (0 : Int32)) gX12_hour_0.2.2.2.2.2.2.2.2.2.2.2.2.2.1 rfl ?_
    refine r_iaload gX12_hour_0.2.2.2.2.2.2.2.2.2.2.2.2.2.2.1 (ar_68 hE) ?_
    refine r_iconst (v := (1 : Int32)) gX12_hour_0.2.2.2.2.2.2.2.2.2.2.2.2.2.2.2.1 rfl ?_
    refine r_iadd gX12_hour_27.1 ?_
    exact r_sub (L' := [(0, .ref 60)]) (sub_c rfl sub_n) (rb_X12_hour_28 hE q ((q.1 68 (0 : Int32).toNatClampNeg) + (1 : Int32)) (0 : Int32))
def f_X10_isTicket (q : SS) (a1 : Int32) : Option Int32 :=
  if a1 < 0 then
  (some (0 : Int32))
  else
  (if (q.1 1 2) ≤ a1 then
  (some (0 : Int32))
  else
  (some (1 : Int32)))
theorem e_X10_isTicket {E : EE} (hE : GE E) (q : SS) (a1 : Int32) : R E (κi E q) 0 129 0 [(0, .ref 1), (1, .int a1)] [] q (f_X10_isTicket q a1) := by
  unfold f_X10_isTicket
  refine r_iload_n (x := a1) gX10_isTicket_0.1 rfl ?_
  refine r_if_lt (t := 16) gX10_isTicket_0.2.1 rfl (fun h2 => ?_) (fun h2 => ?_)
  · refine r_iconst (v := (0 : Int32)) gX10_isTicket_0.2.2.2.2.2.2.2.2.1 rfl ?_
    exact r_ireturn gX10_isTicket_0.2.2.2.2.2.2.2.2.2.1 rfl rfl
  · refine r_iload_n (x := a1) gX10_isTicket_0.2.2.1 rfl ?_
    refine r_aload_n (x := 1) gX10_isTicket_0.2.2.2.1 rfl ?_
    refine r_getI gX10_isTicket_0.2.2.2.2.1 (ff_10_20_1 hE) (by decide) ?_
    refine r_icmp_ge (t := 16) gX10_isTicket_0.2.2.2.2.2.1 rfl (fun h1 => ?_) (fun h1 => ?_)
    · refine r_iconst (v := (0 : Int32)) gX10_isTicket_0.2.2.2.2.2.2.2.2.1 rfl ?_
      exact r_ireturn gX10_isTicket_0.2.2.2.2.2.2.2.2.2.1 rfl rfl
    · refine r_iconst (v := (1 : Int32)) gX10_isTicket_0.2.2.2.2.2.2.1 rfl ?_
      refine r_goto (t := 17) gX10_isTicket_0.2.2.2.2.2.2.2.1 rfl ?_
      exact r_ireturn gX10_isTicket_0.2.2.2.2.2.2.2.2.2.1 rfl rfl
def f_X11_fold (q : SS) (a1 : Int32) : Option (Int32 × SS) :=
  (f_X10_isTicket q a1).bind fun r1 =>
  if r1 = 0 then
  (some ((-1 : Int32), q))
  else
  ((f_X10_get q (6 : Int32) a1).bind fun r2 =>
  if r2 < (4 : Int32) then
  ((f_X1_note q (2 : Int32)).bind fun r3 =>
  (f_X10_set r3 (6 : Int32) a1 (r2 + (1 : Int32))).bind fun r4 =>
  some ((r2 + (1 : Int32)), r4))
  else
  (some ((-5 : Int32), q)))
theorem e_X11_fold {E : EE} (hE : GE E) (q : SS) (a1 : Int32) : R E (κI E) 2 171 0 [(0, .ref 0), (1, .int a1)] [] q (f_X11_fold q a1) := by
  unfold f_X11_fold
  refine r_aload_n (x := 0) gX11_fold_0.1 rfl ?_
  refine r_getA gX11_fold_0.2.1 (fa_11_10_0 hE) ?_
  refine r_iload_n (x := a1) gX11_fold_0.2.2.1 rfl ?_
  refine r_calli (k := 0) (idx := 180) (y := 129) (as := [.ref 1, .int a1]) (rest := []) (L0 := [(0, .ref 1), (1, .int a1)]) gX11_fold_0.2.2.2.1 rfl rfl rfl rfl rfl (vok_v (ob_1 hE) rfl) rfl (r_dep (by decide) (e_X10_isTicket hE q a1)) (fun r1 => ?_)
  refine r_if_ne (t := 13) gX11_fold_0.2.2.2.2.1 rfl (fun h6 => ?_) (fun h6 => ?_)
  · refine r_iconst (v := (-1 : Int32)) gX11_fold_0.2.2.2.2.2.1 rfl ?_
    exact r_ireturn gX11_fold_0.2.2.2.2.2.2.1 rfl rfl
  · refine r_aload_n (x := 0) gX11_fold_0.2.2.2.2.2.2.2.1 rfl ?_
    refine r_getA gX11_fold_0.2.2.2.2.2.2.2.2.1 (fa_11_10_0 hE) ?_
    refine r_bipush (v := (6 : Int32)) gX11_fold_0.2.2.2.2.2.2.2.2.2.1 rfl ?_
    refine r_iload_n (x := a1) gX11_fold_0.2.2.2.2.2.2.2.2.2.2.1 rfl ?_
    refine r_calli (k := 0) (idx := 129) (y := 134) (as := [.ref 1, .int (6 : Int32), .int a1]) (rest := []) (L0 := [(0, .ref 1), (1, .int (6 : Int32)), (2, .int a1)]) gX11_fold_0.2.2.2.2.2.2.2.2.2.2.2.1 rfl rfl rfl rfl rfl (vok_v (ob_1 hE) rfl) rfl (r_dep (by decide) (e_X10_get hE q (6 : Int32) a1)) (fun r2 => ?_)
    refine r_istore_n (L2 := [(0, .ref 0), (1, .int a1), (2, .int r2)]) gX11_fold_0.2.2.2.2.2.2.2.2.2.2.2.2.1 rfl rfl ?_
    refine r_iload_n (x := r2) gX11_fold_0.2.2.2.2.2.2.2.2.2.2.2.2.2.1 rfl ?_
    refine r_iconst (v := (4 : Int32)) gX11_fold_0.2.2.2.2.2.2.2.2.2.2.2.2.2.2.1 rfl ?_
    refine r_icmp_lt (t := 32) gX11_fold_0.2.2.2.2.2.2.2.2.2.2.2.2.2.2.2.1 rfl (fun h5 => ?_) (fun h5 => ?_)
    · refine r_aload_n (x := 0) gX11_fold_29.2.2.1 rfl ?_
      refine r_getA gX11_fold_29.2.2.2.1 (fa_11_76_0 hE) ?_
      refine r_iconst (v := (2 : Int32)) gX11_fold_29.2.2.2.2.1 rfl ?_
      refine r_callV (k := 0) (idx := 305) (y := 8) (as := [.ref 47, .int (2 : Int32)]) (rest := []) (L0 := [(0, .ref 47), (1, .int (2 : Int32))]) gX11_fold_29.2.2.2.2.2.1 rfl rfl rfl rfl rfl (vok_v (ob_47 hE) rfl) rfl (r_dep (by decide) (e_X1_note hE q (2 : Int32))) (fun r3 => ?_)
      refine r_aload_n (x := 0) gX11_fold_29.2.2.2.2.2.2.1 rfl ?_
      refine r_getA gX11_fold_29.2.2.2.2.2.2.2.1 (fa_11_10_0 hE) ?_
      refine r_bipush (v := (6 : Int32)) gX11_fold_29.2.2.2.2.2.2.2.2.1 rfl ?_
      refine r_iload_n (x := a1) gX11_fold_29.2.2.2.2.2.2.2.2.2.1 rfl ?_
      refine r_iload_n (x := r2) gX11_fold_29.2.2.2.2.2.2.2.2.2.2.1 rfl ?_
      refine r_iconst (v := (1 : Int32)) gX11_fold_29.2.2.2.2.2.2.2.2.2.2.2.1 rfl ?_
      refine r_iadd gX11_fold_29.2.2.2.2.2.2.2.2.2.2.2.2.1 ?_
      refine r_callV (k := 0) (idx := 136) (y := 135) (as := [.ref 1, .int (6 : Int32), .int a1, .int (r2 + (1 : Int32))]) (rest := []) (L0 := [(0, .ref 1), (1, .int (6 : Int32)), (2, .int a1), (3, .int (r2 + (1 : Int32)))]) gX11_fold_29.2.2.2.2.2.2.2.2.2.2.2.2.2.1 rfl rfl rfl rfl rfl (vok_v (ob_1 hE) rfl) rfl (r_dep (by decide) (e_X10_set hE r3 (6 : Int32) a1 (r2 + (1 : Int32)))) (fun r4 => ?_)
      refine r_iload_n (x := r2) gX11_fold_29.2.2.2.2.2.2.2.2.2.2.2.2.2.2.1 rfl ?_
      refine r_iconst (v := (1 : Int32)) gX11_fold_29.2.2.2.2.2.2.2.2.2.2.2.2.2.2.2.1 rfl ?_
      refine r_iadd gX11_fold_55.1 ?_
      exact r_ireturn gX11_fold_55.2.1 rfl rfl
    · refine r_bipush (v := (-5 : Int32)) gX11_fold_29.1 rfl ?_
      exact r_ireturn gX11_fold_29.2.1 rfl rfl
def f_X12_isTicket (q : SS) (a1 : Int32) : Option Int32 :=
  (f_X12_in q a1 (0 : Int32) ((q.1 60 6) - (1 : Int32))).bind fun r1 =>
  if r1 = 0 ∨ r1 = 1 then some r1 else none
theorem e_X12_isTicket {E : EE} (hE : GE E) (q : SS) (a1 : Int32) : R E (κi E q) 1 192 0 [(0, .ref 60), (1, .int a1)] [] q (f_X12_isTicket q a1) := by
  unfold f_X12_isTicket
  refine r_iload_n (x := a1) gX12_isTicket_0.1 rfl ?_
  refine r_iconst (v := (0 : Int32)) gX12_isTicket_0.2.1 rfl ?_
  refine r_aload_n (x := 60) gX12_isTicket_0.2.2.1 rfl ?_
  refine r_getI gX12_isTicket_0.2.2.2.1 (ff_12_122_60 hE) (by decide) ?_
  refine r_iconst (v := (1 : Int32)) gX12_isTicket_0.2.2.2.2.1 rfl ?_
  refine r_isub gX12_isTicket_0.2.2.2.2.2.1 ?_
  refine r_calli (k := 2) (idx := 118) (y := 189) (as := [.int a1, .int (0 : Int32), .int ((q.1 60 6) - (1 : Int32))]) (rest := []) (L0 := [(0, .int a1), (1, .int (0 : Int32)), (2, .int ((q.1 60 6) - (1 : Int32)))]) gX12_isTicket_0.2.2.2.2.2.2.1 rfl rfl rfl rfl rfl vok_s rfl (r_dep (by decide) (e_X12_in hE q a1 (0 : Int32) ((q.1 60 6) - (1 : Int32)))) (fun r1 => ?_)
  exact r_zreturn gX12_isTicket_0.2.2.2.2.2.2.2.1 rfl rfl
def f_X12_fold (q : SS) (a1 : Int32) : Option (Int32 × SS) :=
  (f_X12_isTicket q a1).bind fun r1 =>
  if r1 = 0 then
  (some ((-1 : Int32), q))
  else
  (if vin a1 12 then
  if (q.1 67 a1.toNatClampNeg) = (4 : Int32) then
  (some ((-5 : Int32), q))
  else
  (if vin a1 12 then
  if vin a1 12 then
  nm (sI q 67 a1.toNatClampNeg ((q.1 67 a1.toNatClampNeg) + (1 : Int32))) fun q2 =>
  if vin (2 : Int32) 4 then
  if vin (2 : Int32) 4 then
  nm (sI q2 83 (2 : Int32).toNatClampNeg ((q2.1 83 (2 : Int32).toNatClampNeg) + (1 : Int32))) fun q3 =>
  if vin a1 12 then
  some ((q3.1 67 a1.toNatClampNeg), q3)
  else none
  else none
  else none
  else none
  else none)
  else none)
theorem e_X12_fold {E : EE} (hE : GE E) (q : SS) (a1 : Int32) : R E (κI E) 2 265 0 [(0, .ref 60), (1, .int a1)] [] q (f_X12_fold q a1) := by
  unfold f_X12_fold
  refine r_aload_n (x := 60) gX12_fold_0.1 rfl ?_
  refine r_iload_n (x := a1) gX12_fold_0.2.1 rfl ?_
  refine r_calli (k := 0) (idx := 156) (y := 192) (as := [.ref 60, .int a1]) (rest := []) (L0 := [(0, .ref 60), (1, .int a1)]) gX12_fold_0.2.2.1 rfl rfl rfl rfl rfl (vok_v (ob_60 hE) rfl) rfl (r_dep (by decide) (e_X12_isTicket hE q a1)) (fun r1 => ?_)
  refine r_if_ne (t := 10) gX12_fold_0.2.2.2.1 rfl (fun h5 => ?_) (fun h5 => ?_)
  · refine r_iconst (v := (-1 : Int32)) gX12_fold_0.2.2.2.2.1 rfl ?_
    exact r_ireturn gX12_fold_0.2.2.2.2.2.1 rfl rfl
  · refine r_aload_n (x := 60) gX12_fold_0.2.2.2.2.2.2.1 rfl ?_
    refine r_getA gX12_fold_0.2.2.2.2.2.2.2.1 (fa_12_30_60 hE) ?_
    refine r_iload_n (x := a1) gX12_fold_0.2.2.2.2.2.2.2.2.1 rfl ?_
    refine r_iaload gX12_fold_0.2.2.2.2.2.2.2.2.2.1 (ar_67 hE) ?_
    refine r_iconst (v := (4 : Int32)) gX12_fold_0.2.2.2.2.2.2.2.2.2.2.1 rfl ?_
    refine r_icmp_ne (t := 23) gX12_fold_0.2.2.2.2.2.2.2.2.2.2.2.1 rfl (fun h4 => ?_) (fun h4 => ?_)
    · refine r_bipush (v := (-5 : Int32)) gX12_fold_0.2.2.2.2.2.2.2.2.2.2.2.2.1 rfl ?_
      exact r_ireturn gX12_fold_0.2.2.2.2.2.2.2.2.2.2.2.2.2.1 rfl rfl
    · refine r_aload_n (x := 60) gX12_fold_0.2.2.2.2.2.2.2.2.2.2.2.2.2.2.1 rfl ?_
      refine r_getA gX12_fold_0.2.2.2.2.2.2.2.2.2.2.2.2.2.2.2.1 (fa_12_30_60 hE) ?_
      refine r_iload_n (x := a1) gX12_fold_27.1 rfl ?_
      refine r_dup2 gX12_fold_27.2.1 ⟨rfl, rfl⟩ ?_
      refine r_iaload gX12_fold_27.2.2.1 (ar_67 hE) ?_
      refine r_iconst (v := (1 : Int32)) gX12_fold_27.2.2.2.1 rfl ?_
      refine r_iadd gX12_fold_27.2.2.2.2.1 ?_
      refine r_iastore gX12_fold_27.2.2.2.2.2.1 (ar_67 hE) ?_
      refine r_nmS fun q2 _ => ?_
      refine r_aload_n (x := 60) gX12_fold_27.2.2.2.2.2.2.1 rfl ?_
      refine r_getA gX12_fold_27.2.2.2.2.2.2.2.1 (fa_12_80_60 hE) ?_
      refine r_iconst (v := (2 : Int32)) gX12_fold_27.2.2.2.2.2.2.2.2.1 rfl ?_
      refine r_dup2 gX12_fold_27.2.2.2.2.2.2.2.2.2.1 ⟨rfl, rfl⟩ ?_
      refine r_iaload gX12_fold_27.2.2.2.2.2.2.2.2.2.2.1 (ar_83 hE) ?_
      refine r_iconst (v := (1 : Int32)) gX12_fold_27.2.2.2.2.2.2.2.2.2.2.2.1 rfl ?_
      refine r_iadd gX12_fold_27.2.2.2.2.2.2.2.2.2.2.2.2.1 ?_
      refine r_iastore gX12_fold_27.2.2.2.2.2.2.2.2.2.2.2.2.2.1 (ar_83 hE) ?_
      refine r_nmS fun q3 _ => ?_
      refine r_aload_n (x := 60) gX12_fold_27.2.2.2.2.2.2.2.2.2.2.2.2.2.2.1 rfl ?_
      refine r_getA gX12_fold_27.2.2.2.2.2.2.2.2.2.2.2.2.2.2.2.1 (fa_12_30_60 hE) ?_
      refine r_iload_n (x := a1) gX12_fold_47.1 rfl ?_
      refine r_iaload gX12_fold_47.2.1 (ar_67 hE) ?_
      exact r_ireturn gX12_fold_47.2.2.1 rfl rfl
def f_X10_isPerson (q : SS) (a1 : Int32) : Option Int32 :=
  if a1 < 0 then
  (some (0 : Int32))
  else
  (if (q.1 1 1) ≤ a1 then
  (some (0 : Int32))
  else
  (some (1 : Int32)))
theorem e_X10_isPerson {E : EE} (hE : GE E) (q : SS) (a1 : Int32) : R E (κi E q) 0 128 0 [(0, .ref 1), (1, .int a1)] [] q (f_X10_isPerson q a1) := by
  unfold f_X10_isPerson
  refine r_iload_n (x := a1) gX10_isPerson_0.1 rfl ?_
  refine r_if_lt (t := 16) gX10_isPerson_0.2.1 rfl (fun h2 => ?_) (fun h2 => ?_)
  · refine r_iconst (v := (0 : Int32)) gX10_isPerson_0.2.2.2.2.2.2.2.2.1 rfl ?_
    exact r_ireturn gX10_isPerson_0.2.2.2.2.2.2.2.2.2.1 rfl rfl
  · refine r_iload_n (x := a1) gX10_isPerson_0.2.2.1 rfl ?_
    refine r_aload_n (x := 1) gX10_isPerson_0.2.2.2.1 rfl ?_
    refine r_getI gX10_isPerson_0.2.2.2.2.1 (ff_10_16_1 hE) (by decide) ?_
    refine r_icmp_ge (t := 16) gX10_isPerson_0.2.2.2.2.2.1 rfl (fun h1 => ?_) (fun h1 => ?_)
    · refine r_iconst (v := (0 : Int32)) gX10_isPerson_0.2.2.2.2.2.2.2.2.1 rfl ?_
      exact r_ireturn gX10_isPerson_0.2.2.2.2.2.2.2.2.2.1 rfl rfl
    · refine r_iconst (v := (1 : Int32)) gX10_isPerson_0.2.2.2.2.2.2.1 rfl ?_
      refine r_goto (t := 17) gX10_isPerson_0.2.2.2.2.2.2.2.1 rfl ?_
      exact r_ireturn gX10_isPerson_0.2.2.2.2.2.2.2.2.2.1 rfl rfl
def f_X10_isSlipping (q : SS) (a1 : Int32) : Option Int32 :=
  (f_X10_isTicket q (jshr a1 (3 : Int32))).bind fun r1 =>
  if r1 = 0 then
  (some (0 : Int32))
  else
  ((f_X10_isPerson q (a1 &&& (7 : Int32))).bind fun r2 =>
  if r2 = 0 then
  (some (0 : Int32))
  else
  (some (1 : Int32)))
theorem e_X10_isSlipping {E : EE} (hE : GE E) (q : SS) (a1 : Int32) : R E (κi E q) 1 130 0 [(0, .ref 1), (1, .int a1)] [] q (f_X10_isSlipping q a1) := by
  unfold f_X10_isSlipping
  refine r_aload_n (x := 1) gX10_isSlipping_0.1 rfl ?_
  refine r_iload_n (x := a1) gX10_isSlipping_0.2.1 rfl ?_
  refine r_iconst (v := (3 : Int32)) gX10_isSlipping_0.2.2.1 rfl ?_
  refine r_ishr gX10_isSlipping_0.2.2.2.1 ?_
  refine r_calli (k := 0) (idx := 27) (y := 129) (as := [.ref 1, .int (jshr a1 (3 : Int32))]) (rest := []) (L0 := [(0, .ref 1), (1, .int (jshr a1 (3 : Int32)))]) gX10_isSlipping_0.2.2.2.2.1 rfl rfl rfl rfl rfl (vok_v (ob_1 hE) rfl) rfl (r_dep (by decide) (e_X10_isTicket hE q (jshr a1 (3 : Int32)))) (fun r1 => ?_)
  refine r_if_eq (t := 25) gX10_isSlipping_0.2.2.2.2.2.1 rfl (fun h4 => ?_) (fun h4 => ?_)
  · refine r_iconst (v := (0 : Int32)) gX10_isSlipping_0.2.2.2.2.2.2.2.2.2.2.2.2.2.2.1 rfl ?_
    exact r_ireturn gX10_isSlipping_0.2.2.2.2.2.2.2.2.2.2.2.2.2.2.2.1 rfl rfl
  · refine r_aload_n (x := 1) gX10_isSlipping_0.2.2.2.2.2.2.1 rfl ?_
    refine r_iload_n (x := a1) gX10_isSlipping_0.2.2.2.2.2.2.2.1 rfl ?_
    refine r_bipush (v := (7 : Int32)) gX10_isSlipping_0.2.2.2.2.2.2.2.2.1 rfl ?_
    refine r_iand gX10_isSlipping_0.2.2.2.2.2.2.2.2.2.1 ?_
    refine r_calli (k := 0) (idx := 31) (y := 128) (as := [.ref 1, .int (a1 &&& (7 : Int32))]) (rest := []) (L0 := [(0, .ref 1), (1, .int (a1 &&& (7 : Int32)))]) gX10_isSlipping_0.2.2.2.2.2.2.2.2.2.2.1 rfl rfl rfl rfl rfl (vok_v (ob_1 hE) rfl) rfl (r_dep (by decide) (e_X10_isPerson hE q (a1 &&& (7 : Int32)))) (fun r2 => ?_)
    refine r_if_eq (t := 25) gX10_isSlipping_0.2.2.2.2.2.2.2.2.2.2.2.1 rfl (fun h3 => ?_) (fun h3 => ?_)
    · refine r_iconst (v := (0 : Int32)) gX10_isSlipping_0.2.2.2.2.2.2.2.2.2.2.2.2.2.2.1 rfl ?_
      exact r_ireturn gX10_isSlipping_0.2.2.2.2.2.2.2.2.2.2.2.2.2.2.2.1 rfl rfl
    · refine r_iconst (v := (1 : Int32)) gX10_isSlipping_0.2.2.2.2.2.2.2.2.2.2.2.2.1 rfl ?_
      refine r_goto (t := 26) gX10_isSlipping_0.2.2.2.2.2.2.2.2.2.2.2.2.2.1 rfl ?_
      exact r_ireturn gX10_isSlipping_0.2.2.2.2.2.2.2.2.2.2.2.2.2.2.2.1 rfl rfl
def b_X8_begin_2 : SS → Int32 → Option SS :=
  fx2 (fun (rec_2 : SS → Int32 → Option SS) (q : SS) (l1 : Int32) =>
  if (12 : Int32) ≤ l1 then
  (some q)
  else
  ((f_X10_get q (4 : Int32) l1).bind fun r1 =>
  if vin l1 12 then
  nm (sI q 25 l1.toNatClampNeg r1) fun q2 =>
  rec_2 q2 (l1 + (1 : Int32))
  else none)) FU
theorem rb_X8_begin_2 {E : EE} (hE : GE E) (q : SS) (l1 : Int32) : R E (κV E) 2 97 2 [(0, .ref 24), (1, .int l1)] [] q (b_X8_begin_2 q l1) := by
  unfold b_X8_begin_2
  refine fx2_ok (P := fun q l1 o => R E (κV E) 2 97 2 [(0, .ref 24), (1, .int l1)] [] q o) (fun _ _ => r_no) (fun rec_2 hrec_2 q l1 => ?_) _ _ _
  refine r_iload_n (x := l1) gX8_begin_0.2.2.1 rfl ?_
  refine r_bipush (v := (12 : Int32)) gX8_begin_0.2.2.2.1 rfl ?_
  refine r_icmp_ge (t := 29) gX8_begin_0.2.2.2.2.1 rfl (fun h3 => ?_) (fun h3 => ?_)
  · exact r_return gX8_begin_29.1 rfl rfl
  · refine r_aload_n (x := 24) gX8_begin_0.2.2.2.2.2.1 rfl ?_
    refine r_getA gX8_begin_0.2.2.2.2.2.2.1 (fa_8_19_24 hE) ?_
    refine r_iload_n (x := l1) gX8_begin_0.2.2.2.2.2.2.2.1 rfl ?_
    refine r_aload_n (x := 24) gX8_begin_0.2.2.2.2.2.2.2.2.1 rfl ?_
    refine r_getA gX8_begin_0.2.2.2.2.2.2.2.2.2.1 (fa_8_9_24 hE) ?_
    refine r_iconst (v := (4 : Int32)) gX8_begin_0.2.2.2.2.2.2.2.2.2.2.1 rfl ?_
    refine r_iload_n (x := l1) gX8_begin_0.2.2.2.2.2.2.2.2.2.2.2.1 rfl ?_
    refine r_calli (k := 0) (idx := 23) (y := 134) (as := [.ref 1, .int (4 : Int32), .int l1]) (rest := [.int l1, .ref 25]) (L0 := [(0, .ref 1), (1, .int (4 : Int32)), (2, .int l1)]) gX8_begin_0.2.2.2.2.2.2.2.2.2.2.2.2.1 rfl rfl rfl rfl rfl (vok_v (ob_1 hE) rfl) rfl (r_dep (by decide) (e_X10_get hE q (4 : Int32) l1)) (fun r1 => ?_)
    refine r_iastore gX8_begin_0.2.2.2.2.2.2.2.2.2.2.2.2.2.1 (ar_25 hE) ?_
    refine r_nmS fun q2 _ => ?_
    refine r_iinc (x := l1) (v := (l1 + (1 : Int32))) (L2 := [(0, .ref 24), (1, .int (l1 + (1 : Int32)))]) gX8_begin_0.2.2.2.2.2.2.2.2.2.2.2.2.2.2.1 rfl rfl rfl rfl ?_
    refine r_goto (t := 2) gX8_begin_0.2.2.2.2.2.2.2.2.2.2.2.2.2.2.2.1 rfl ?_
    exact r_sub (L' := [(0, .ref 24), (1, .int (l1 + (1 : Int32)))]) (sub_c rfl (sub_c rfl sub_n)) (hrec_2 q2 (l1 + (1 : Int32)))
def f_X8_begin (q : SS)  : Option SS :=
  b_X8_begin_2 q (0 : Int32)
theorem e_X8_begin {E : EE} (hE : GE E) (q : SS)  : R E (κV E) 2 97 0 [(0, .ref 24)] [] q (f_X8_begin q) := by
  unfold f_X8_begin
  refine r_iconst (v := (0 : Int32)) gX8_begin_0.1 rfl ?_
  refine r_istore_n (L2 := [(0, .ref 24), (1, .int (0 : Int32))]) gX8_begin_0.2.1 rfl rfl ?_
  exact r_sub (L' := [(0, .ref 24), (1, .int (0 : Int32))]) (sub_c rfl (sub_c rfl sub_n)) (rb_X8_begin_2 hE q (0 : Int32))
def f_X11_now (q : SS)  : Option SS :=
  (f_X8_begin q).bind fun r1 =>
  some r1
theorem e_X11_now {E : EE} (hE : GE E) (q : SS)  : R E (κA E 24) 3 148 0 [(0, .ref 0)] [] q (f_X11_now q) := by
  unfold f_X11_now
  refine r_aload_n (x := 0) gX11_now_0.1 rfl ?_
  refine r_getA gX11_now_0.2.1 (fa_11_35_0 hE) ?_
  refine r_callV (k := 0) (idx := 177) (y := 97) (as := [.ref 24]) (rest := []) (L0 := [(0, .ref 24)]) gX11_now_0.2.2.1 rfl rfl rfl rfl rfl (vok_v (ob_24 hE) rfl) rfl (r_dep (by decide) (e_X8_begin hE q)) (fun r1 => ?_)
  refine r_aload_n (x := 0) gX11_now_0.2.2.2.1 rfl ?_
  refine r_getA gX11_now_0.2.2.2.2.1 (fa_11_35_0 hE) ?_
  exact r_areturn gX11_now_0.2.2.2.2.2.1 rfl rfl
def f_X8_isLoose (q : SS) (a1 : Int32) : Option Int32 :=
  (f_X10_get q (6 : Int32) a1).bind fun r1 =>
  if (4 : Int32) ≤ r1 then
  (some (0 : Int32))
  else
  (some (1 : Int32))
theorem e_X8_isLoose {E : EE} (hE : GE E) (q : SS) (a1 : Int32) : R E (κi E q) 2 106 0 [(0, .ref 24), (1, .int a1)] [] q (f_X8_isLoose q a1) := by
  unfold f_X8_isLoose
  refine r_aload_n (x := 24) gX8_isLoose_0.1 rfl ?_
  refine r_getA gX8_isLoose_0.2.1 (fa_8_9_24 hE) ?_
  refine r_bipush (v := (6 : Int32)) gX8_isLoose_0.2.2.1 rfl ?_
  refine r_iload_n (x := a1) gX8_isLoose_0.2.2.2.1 rfl ?_
  refine r_calli (k := 0) (idx := 23) (y := 134) (as := [.ref 1, .int (6 : Int32), .int a1]) (rest := []) (L0 := [(0, .ref 1), (1, .int (6 : Int32)), (2, .int a1)]) gX8_isLoose_0.2.2.2.2.1 rfl rfl rfl rfl rfl (vok_v (ob_1 hE) rfl) rfl (r_dep (by decide) (e_X10_get hE q (6 : Int32) a1)) (fun r1 => ?_)
  refine r_iconst (v := (4 : Int32)) gX8_isLoose_0.2.2.2.2.2.1 rfl ?_
  refine r_icmp_ge (t := 18) gX8_isLoose_0.2.2.2.2.2.2.1 rfl (fun h2 => ?_) (fun h2 => ?_)
  · refine r_iconst (v := (0 : Int32)) gX8_isLoose_0.2.2.2.2.2.2.2.2.2.1 rfl ?_
    exact r_ireturn gX8_isLoose_0.2.2.2.2.2.2.2.2.2.2.1 rfl rfl
  · refine r_iconst (v := (1 : Int32)) gX8_isLoose_0.2.2.2.2.2.2.2.1 rfl ?_
    refine r_goto (t := 19) gX8_isLoose_0.2.2.2.2.2.2.2.2.1 rfl ?_
    exact r_ireturn gX8_isLoose_0.2.2.2.2.2.2.2.2.2.2.1 rfl rfl
def f_X8_holderOf (q : SS) (a1 : Int32) : Option Int32 :=
  (f_X10_isTicket q a1).bind fun r1 =>
  if r1 = 0 then
  (some (-2 : Int32))
  else
  (if vin a1 12 then
  some (q.1 25 a1.toNatClampNeg)
  else none)
theorem e_X8_holderOf {E : EE} (hE : GE E) (q : SS) (a1 : Int32) : R E (κi E q) 1 98 0 [(0, .ref 24), (1, .int a1)] [] q (f_X8_holderOf q a1) := by
  unfold f_X8_holderOf
  refine r_aload_n (x := 24) gX8_holderOf_0.1 rfl ?_
  refine r_getA gX8_holderOf_0.2.1 (fa_8_9_24 hE) ?_
  refine r_iload_n (x := a1) gX8_holderOf_0.2.2.1 rfl ?_
  refine r_calli (k := 0) (idx := 29) (y := 129) (as := [.ref 1, .int a1]) (rest := []) (L0 := [(0, .ref 1), (1, .int a1)]) gX8_holderOf_0.2.2.2.1 rfl rfl rfl rfl rfl (vok_v (ob_1 hE) rfl) rfl (r_dep (by decide) (e_X10_isTicket hE q a1)) (fun r1 => ?_)
  refine r_if_eq (t := 20) gX8_holderOf_0.2.2.2.2.1 rfl (fun h2 => ?_) (fun h2 => ?_)
  · refine r_bipush (v := (-2 : Int32)) gX8_holderOf_0.2.2.2.2.2.2.2.2.2.2.1 rfl ?_
    exact r_ireturn gX8_holderOf_0.2.2.2.2.2.2.2.2.2.2.2.1 rfl rfl
  · refine r_aload_n (x := 24) gX8_holderOf_0.2.2.2.2.2.1 rfl ?_
    refine r_getA gX8_holderOf_0.2.2.2.2.2.2.1 (fa_8_19_24 hE) ?_
    refine r_iload_n (x := a1) gX8_holderOf_0.2.2.2.2.2.2.2.1 rfl ?_
    refine r_iaload gX8_holderOf_0.2.2.2.2.2.2.2.2.1 (ar_25 hE) ?_
    refine r_goto (t := 22) gX8_holderOf_0.2.2.2.2.2.2.2.2.2.1 rfl ?_
    exact r_ireturn gX8_holderOf_0.2.2.2.2.2.2.2.2.2.2.2.1 rfl rfl
def f_X8_canGive (q : SS) (a1 : Int32) (a2 : Int32) : Option Int32 :=
  if a1 = a2 then
  (some (0 : Int32))
  else
  ((f_X10_isPerson q a2).bind fun r1 =>
  if r1 = 0 then
  (some (0 : Int32))
  else
  ((f_X10_get q (1 : Int32) a2).bind fun r2 =>
  if r2 = 0 then
  (some (1 : Int32))
  else
  (some (0 : Int32))))
theorem e_X8_canGive {E : EE} (hE : GE E) (q : SS) (a1 : Int32) (a2 : Int32) : R E (κi E q) 2 108 0 [(0, .ref 24), (1, .int a1), (2, .int a2)] [] q (f_X8_canGive q a1 a2) := by
  unfold f_X8_canGive
  refine r_iload_n (x := a1) gX8_canGive_0.1 rfl ?_
  refine r_iload_n (x := a2) gX8_canGive_0.2.1 rfl ?_
  refine r_icmp_eq (t := 32) gX8_canGive_0.2.2.1 rfl (fun h5 => ?_) (fun h5 => ?_)
  · refine r_iconst (v := (0 : Int32)) gX8_canGive_32.1 rfl ?_
    exact r_ireturn gX8_canGive_32.2.1 rfl rfl
  · refine r_aload_n (x := 24) gX8_canGive_0.2.2.2.1 rfl ?_
    refine r_getA gX8_canGive_0.2.2.2.2.1 (fa_8_9_24 hE) ?_
    refine r_iload_n (x := a2) gX8_canGive_0.2.2.2.2.2.1 rfl ?_
    refine r_calli (k := 0) (idx := 51) (y := 128) (as := [.ref 1, .int a2]) (rest := []) (L0 := [(0, .ref 1), (1, .int a2)]) gX8_canGive_0.2.2.2.2.2.2.1 rfl rfl rfl rfl rfl (vok_v (ob_1 hE) rfl) rfl (r_dep (by decide) (e_X10_isPerson hE q a2)) (fun r1 => ?_)
    refine r_if_eq (t := 32) gX8_canGive_0.2.2.2.2.2.2.2.1 rfl (fun h4 => ?_) (fun h4 => ?_)
    · refine r_iconst (v := (0 : Int32)) gX8_canGive_32.1 rfl ?_
      exact r_ireturn gX8_canGive_32.2.1 rfl rfl
    · refine r_aload_n (x := 24) gX8_canGive_0.2.2.2.2.2.2.2.2.1 rfl ?_
      refine r_getA gX8_canGive_0.2.2.2.2.2.2.2.2.2.1 (fa_8_9_24 hE) ?_
      refine r_iconst (v := (1 : Int32)) gX8_canGive_0.2.2.2.2.2.2.2.2.2.2.1 rfl ?_
      refine r_iload_n (x := a2) gX8_canGive_0.2.2.2.2.2.2.2.2.2.2.2.1 rfl ?_
      refine r_calli (k := 0) (idx := 23) (y := 134) (as := [.ref 1, .int (1 : Int32), .int a2]) (rest := []) (L0 := [(0, .ref 1), (1, .int (1 : Int32)), (2, .int a2)]) gX8_canGive_0.2.2.2.2.2.2.2.2.2.2.2.2.1 rfl rfl rfl rfl rfl (vok_v (ob_1 hE) rfl) rfl (r_dep (by decide) (e_X10_get hE q (1 : Int32) a2)) (fun r2 => ?_)
      refine r_if_ne (t := 32) gX8_canGive_0.2.2.2.2.2.2.2.2.2.2.2.2.2.1 rfl (fun h3 => ?_) (fun h3 => ?_)
      · refine r_iconst (v := (1 : Int32)) gX8_canGive_0.2.2.2.2.2.2.2.2.2.2.2.2.2.2.1 rfl ?_
        refine r_goto (t := 33) gX8_canGive_0.2.2.2.2.2.2.2.2.2.2.2.2.2.2.2.1 rfl ?_
        exact r_ireturn gX8_canGive_32.2.1 rfl rfl
      · refine r_iconst (v := (0 : Int32)) gX8_canGive_32.1 rfl ?_
        exact r_ireturn gX8_canGive_32.2.1 rfl rfl
def f_X8_canSlip (q : SS) (a1 : Int32) (a2 : Int32) : Option Int32 :=
  (f_X10_isTicket q a1).bind fun r1 =>
  if r1 = 0 then
  (some (0 : Int32))
  else
  ((f_X8_isLoose q a1).bind fun r2 =>
  if r2 = 0 then
  (some (0 : Int32))
  else
  ((f_X8_holderOf q a1).bind fun r3 =>
  (f_X8_canGive q r3 a2).bind fun r4 =>
  if r4 = 0 then
  (some (0 : Int32))
  else
  (some (1 : Int32))))
theorem e_X8_canSlip {E : EE} (hE : GE E) (q : SS) (a1 : Int32) (a2 : Int32) : R E (κi E q) 3 107 0 [(0, .ref 24), (1, .int a1), (2, .int a2)] [] q (f_X8_canSlip q a1 a2) := by
  unfold f_X8_canSlip
  refine r_aload_n (x := 24) gX8_canSlip_0.1 rfl ?_
  refine r_getA gX8_canSlip_0.2.1 (fa_8_9_24 hE) ?_
  refine r_iload_n (x := a1) gX8_canSlip_0.2.2.1 rfl ?_
  refine r_calli (k := 0) (idx := 29) (y := 129) (as := [.ref 1, .int a1]) (rest := []) (L0 := [(0, .ref 1), (1, .int a1)]) gX8_canSlip_0.2.2.2.1 rfl rfl rfl rfl rfl (vok_v (ob_1 hE) rfl) rfl (r_dep (by decide) (e_X10_isTicket hE q a1)) (fun r1 => ?_)
  refine r_if_eq (t := 36) gX8_canSlip_0.2.2.2.2.1 rfl (fun h7 => ?_) (fun h7 => ?_)
  · refine r_iconst (v := (0 : Int32)) gX8_canSlip_32.2.2.1 rfl ?_
    exact r_ireturn gX8_canSlip_32.2.2.2.1 rfl rfl
  · refine r_aload_n (x := 24) gX8_canSlip_0.2.2.2.2.2.1 rfl ?_
    refine r_iload_n (x := a1) gX8_canSlip_0.2.2.2.2.2.2.1 rfl ?_
    refine r_calli (k := 0) (idx := 44) (y := 106) (as := [.ref 24, .int a1]) (rest := []) (L0 := [(0, .ref 24), (1, .int a1)]) gX8_canSlip_0.2.2.2.2.2.2.2.1 rfl rfl rfl rfl rfl (vok_v (ob_24 hE) rfl) rfl (r_dep (by decide) (e_X8_isLoose hE q a1)) (fun r2 => ?_)
    refine r_if_eq (t := 36) gX8_canSlip_0.2.2.2.2.2.2.2.2.1 rfl (fun h6 => ?_) (fun h6 => ?_)
    · refine r_iconst (v := (0 : Int32)) gX8_canSlip_32.2.2.1 rfl ?_
      exact r_ireturn gX8_canSlip_32.2.2.2.1 rfl rfl
    · refine r_aload_n (x := 24) gX8_canSlip_0.2.2.2.2.2.2.2.2.2.1 rfl ?_
      refine r_aload_n (x := 24) gX8_canSlip_0.2.2.2.2.2.2.2.2.2.2.1 rfl ?_
      refine r_iload_n (x := a1) gX8_canSlip_0.2.2.2.2.2.2.2.2.2.2.2.1 rfl ?_
      refine r_calli (k := 0) (idx := 37) (y := 98) (as := [.ref 24, .int a1]) (rest := [.ref 24]) (L0 := [(0, .ref 24), (1, .int a1)]) gX8_canSlip_0.2.2.2.2.2.2.2.2.2.2.2.2.1 rfl rfl rfl rfl rfl (vok_v (ob_24 hE) rfl) rfl (r_dep (by decide) (e_X8_holderOf hE q a1)) (fun r3 => ?_)
      refine r_iload_n (x := a2) gX8_canSlip_0.2.2.2.2.2.2.2.2.2.2.2.2.2.1 rfl ?_
      refine r_calli (k := 0) (idx := 47) (y := 108) (as := [.ref 24, .int r3, .int a2]) (rest := []) (L0 := [(0, .ref 24), (1, .int r3), (2, .int a2)]) gX8_canSlip_0.2.2.2.2.2.2.2.2.2.2.2.2.2.2.1 rfl rfl rfl rfl rfl (vok_v (ob_24 hE) rfl) rfl (r_dep (by decide) (e_X8_canGive hE q r3 a2)) (fun r4 => ?_)
      refine r_if_eq (t := 36) gX8_canSlip_0.2.2.2.2.2.2.2.2.2.2.2.2.2.2.2.1 rfl (fun h5 => ?_) (fun h5 => ?_)
      · refine r_iconst (v := (0 : Int32)) gX8_canSlip_32.2.2.1 rfl ?_
        exact r_ireturn gX8_canSlip_32.2.2.2.1 rfl rfl
      · refine r_iconst (v := (1 : Int32)) gX8_canSlip_32.1 rfl ?_
        refine r_goto (t := 37) gX8_canSlip_32.2.1 rfl ?_
        exact r_ireturn gX8_canSlip_32.2.2.2.1 rfl rfl
def b_X11_slip_80 (q : SS) (l3 : Int32) : Option (Int32 × SS) :=
  (f_X10_get q (4 : Int32) l3).bind fun r9 =>
  some (r9, q)
theorem rb_X11_slip_80 {E : EE} (hE : GE E) (q : SS) (l3 : Int32) : R E (κI E) 4 170 80 [(0, .ref 0), (3, .int l3)] [] q (b_X11_slip_80 q l3) := by
  unfold b_X11_slip_80
  refine r_aload_n (x := 0) gX11_slip_56.2.2.2.2.2.2.2.2.2.2.2.2.2.1 rfl ?_
  refine r_getA gX11_slip_56.2.2.2.2.2.2.2.2.2.2.2.2.2.2.1 (fa_11_10_0 hE) ?_
  refine r_iconst (v := (4 : Int32)) gX11_slip_56.2.2.2.2.2.2.2.2.2.2.2.2.2.2.2.1 rfl ?_
  refine r_iload_n (x := l3) gX11_slip_85.1 rfl ?_
  refine r_calli (k := 0) (idx := 129) (y := 134) (as := [.ref 1, .int (4 : Int32), .int l3]) (rest := []) (L0 := [(0, .ref 1), (1, .int (4 : Int32)), (2, .int l3)]) gX11_slip_85.2.1 rfl rfl rfl rfl rfl (vok_v (ob_1 hE) rfl) rfl (r_dep (by decide) (e_X10_get hE q (4 : Int32) l3)) (fun r9 => ?_)
  exact r_ireturn gX11_slip_85.2.2.1 rfl rfl
def f_X11_slip (q : SS) (a1 : Int32) (a2 : Int32) : Option (Int32 × SS) :=
  (f_X10_isSlipping q a1).bind fun r1 =>
  if r1 = 0 then
  (some ((-1 : Int32), q))
  else
  (if a2 < 0 then
  (some ((-1 : Int32), q))
  else
  (if a2 ≤ (1 : Int32) then
  (nm (jshr a1 (3 : Int32)) fun v2 =>
  nm (a1 &&& (7 : Int32)) fun v3 =>
  (f_X11_now q).bind fun r4 =>
  (f_X8_canSlip r4 v2 v3).bind fun r5 =>
  if r5 = 0 then
  (some ((-5 : Int32), r4))
  else
  ((f_X1_note r4 (0 : Int32)).bind fun r6 =>
  if a2 = (1 : Int32) then
  ((f_X1_note r6 (1 : Int32)).bind fun r7 =>
  (f_X10_set r7 (4 : Int32) v2 v3).bind fun r8 =>
  b_X11_slip_80 r8 v2)
  else
  (b_X11_slip_80 r6 v2)))
  else
  (some ((-1 : Int32), q))))
theorem e_X11_slip {E : EE} (hE : GE E) (q : SS) (a1 : Int32) (a2 : Int32) : R E (κI E) 4 170 0 [(0, .ref 0), (1, .int a1), (2, .int a2)] [] q (f_X11_slip q a1 a2) := by
  unfold f_X11_slip
  refine r_aload_n (x := 0) gX11_slip_0.1 rfl ?_
  refine r_getA gX11_slip_0.2.1 (fa_11_10_0 hE) ?_
  refine r_iload_n (x := a1) gX11_slip_0.2.2.1 rfl ?_
  refine r_calli (k := 0) (idx := 171) (y := 130) (as := [.ref 1, .int a1]) (rest := []) (L0 := [(0, .ref 1), (1, .int a1)]) gX11_slip_0.2.2.2.1 rfl rfl rfl rfl rfl (vok_v (ob_1 hE) rfl) rfl (r_dep (by decide) (e_X10_isSlipping hE q a1)) (fun r1 => ?_)
  refine r_if_eq (t := 20) gX11_slip_0.2.2.2.2.1 rfl (fun h14 => ?_) (fun h14 => ?_)
  · refine r_iconst (v := (-1 : Int32)) gX11_slip_0.2.2.2.2.2.2.2.2.2.2.1 rfl ?_
    exact r_ireturn gX11_slip_0.2.2.2.2.2.2.2.2.2.2.2.1 rfl rfl
  · refine r_iload_n (x := a2) gX11_slip_0.2.2.2.2.2.1 rfl ?_
    refine r_if_lt (t := 20) gX11_slip_0.2.2.2.2.2.2.1 rfl (fun h13 => ?_) (fun h13 => ?_)
    · refine r_iconst (v := (-1 : Int32)) gX11_slip_0.2.2.2.2.2.2.2.2.2.2.1 rfl ?_
      exact r_ireturn gX11_slip_0.2.2.2.2.2.2.2.2.2.2.2.1 rfl rfl
    · refine r_iload_n (x := a2) gX11_slip_0.2.2.2.2.2.2.2.1 rfl ?_
      refine r_iconst (v := (1 : Int32)) gX11_slip_0.2.2.2.2.2.2.2.2.1 rfl ?_
      refine r_icmp_le (t := 22) gX11_slip_0.2.2.2.2.2.2.2.2.2.1 rfl (fun h12 => ?_) (fun h12 => ?_)
      · refine r_iload_n (x := a1) gX11_slip_0.2.2.2.2.2.2.2.2.2.2.2.2.1 rfl ?_
        refine r_iconst (v := (3 : Int32)) gX11_slip_0.2.2.2.2.2.2.2.2.2.2.2.2.2.1 rfl ?_
        refine r_ishr gX11_slip_0.2.2.2.2.2.2.2.2.2.2.2.2.2.2.1 ?_
        refine r_nmI fun v2 _ => ?_
        refine r_istore_n (L2 := [(0, .ref 0), (1, .int a1), (2, .int a2), (3, .int v2)]) gX11_slip_0.2.2.2.2.2.2.2.2.2.2.2.2.2.2.2.1 rfl rfl ?_
        refine r_iload_n (x := a1) gX11_slip_26.1 rfl ?_
        refine r_bipush (v := (7 : Int32)) gX11_slip_26.2.1 rfl ?_
        refine r_iand gX11_slip_26.2.2.1 ?_
        refine r_nmI fun v3 _ => ?_
        refine r_istore (L2 := [(0, .ref 0), (1, .int a1), (2, .int a2), (3, .int v2), (4, .int v3)]) gX11_slip_26.2.2.2.1 rfl rfl ?_
        refine r_aload_n (x := 0) gX11_slip_26.2.2.2.2.1 rfl ?_
        refine r_callA (k := 0) (idx := 143) (y := 148) (as := [.ref 0]) (rest := []) (L0 := [(0, .ref 0)]) gX11_slip_26.2.2.2.2.2.1 rfl rfl rfl rfl rfl (vok_v (ob_0 hE) rfl) rfl (r_dep (by decide) (e_X11_now hE q)) (fun r4 => ?_)
        refine r_iload_n (x := v2) gX11_slip_26.2.2.2.2.2.2.1 rfl ?_
        refine r_iload (x := v3) gX11_slip_26.2.2.2.2.2.2.2.1 rfl ?_
        refine r_calli (k := 0) (idx := 232) (y := 107) (as := [.ref 24, .int v2, .int v3]) (rest := []) (L0 := [(0, .ref 24), (1, .int v2), (2, .int v3)]) gX11_slip_26.2.2.2.2.2.2.2.2.1 rfl rfl rfl rfl rfl (vok_v (ob_24 hE) rfl) rfl (r_dep (by decide) (e_X8_canSlip hE r4 v2 v3)) (fun r5 => ?_)
        refine r_if_ne (t := 48) gX11_slip_26.2.2.2.2.2.2.2.2.2.1 rfl (fun h11 => ?_) (fun h11 => ?_)
        · refine r_bipush (v := (-5 : Int32)) gX11_slip_26.2.2.2.2.2.2.2.2.2.2.1 rfl ?_
          exact r_ireturn gX11_slip_26.2.2.2.2.2.2.2.2.2.2.2.1 rfl rfl
        · refine r_aload_n (x := 0) gX11_slip_26.2.2.2.2.2.2.2.2.2.2.2.2.1 rfl ?_
          refine r_getA gX11_slip_26.2.2.2.2.2.2.2.2.2.2.2.2.2.1 (fa_11_76_0 hE) ?_
          refine r_iconst (v := (0 : Int32)) gX11_slip_26.2.2.2.2.2.2.2.2.2.2.2.2.2.2.1 rfl ?_
          refine r_callV (k := 0) (idx := 305) (y := 8) (as := [.ref 47, .int (0 : Int32)]) (rest := []) (L0 := [(0, .ref 47), (1, .int (0 : Int32))]) gX11_slip_26.2.2.2.2.2.2.2.2.2.2.2.2.2.2.2.1 rfl rfl rfl rfl rfl (vok_v (ob_47 hE) rfl) rfl (r_dep (by decide) (e_X1_note hE r4 (0 : Int32))) (fun r6 => ?_)
          refine r_iload_n (x := a2) gX11_slip_56.1 rfl ?_
          refine r_iconst (v := (1 : Int32)) gX11_slip_56.2.1 rfl ?_
          refine r_icmp_ne (t := 80) gX11_slip_56.2.2.1 rfl (fun h10 => ?_) (fun h10 => ?_)
          · refine r_aload_n (x := 0) gX11_slip_56.2.2.2.1 rfl ?_
            refine r_getA gX11_slip_56.2.2.2.2.1 (fa_11_76_0 hE) ?_
            refine r_iconst (v := (1 : Int32)) gX11_slip_56.2.2.2.2.2.1 rfl ?_
            refine r_callV (k := 0) (idx := 305) (y := 8) (as := [.ref 47, .int (1 : Int32)]) (rest := []) (L0 := [(0, .ref 47), (1, .int (1 : Int32))]) gX11_slip_56.2.2.2.2.2.2.1 rfl rfl rfl rfl rfl (vok_v (ob_47 hE) rfl) rfl (r_dep (by decide) (e_X1_note hE r6 (1 : Int32))) (fun r7 => ?_)
            refine r_aload_n (x := 0) gX11_slip_56.2.2.2.2.2.2.2.1 rfl ?_
            refine r_getA gX11_slip_56.2.2.2.2.2.2.2.2.1 (fa_11_10_0 hE) ?_
            refine r_iconst (v := (4 : Int32)) gX11_slip_56.2.2.2.2.2.2.2.2.2.1 rfl ?_
            refine r_iload_n (x := v2) gX11_slip_56.2.2.2.2.2.2.2.2.2.2.1 rfl ?_
            refine r_iload (x := v3) gX11_slip_56.2.2.2.2.2.2.2.2.2.2.2.1 rfl ?_
            refine r_callV (k := 0) (idx := 136) (y := 135) (as := [.ref 1, .int (4 : Int32), .int v2, .int v3]) (rest := []) (L0 := [(0, .ref 1), (1, .int (4 : Int32)), (2, .int v2), (3, .int v3)]) gX11_slip_56.2.2.2.2.2.2.2.2.2.2.2.2.1 rfl rfl rfl rfl rfl (vok_v (ob_1 hE) rfl) rfl (r_dep (by decide) (e_X10_set hE r7 (4 : Int32) v2 v3)) (fun r8 => ?_)
            exact r_sub (L' := [(0, .ref 0), (3, .int v2)]) (sub_c rfl (sub_c rfl sub_n)) (rb_X11_slip_80 hE r8 v2)
          · exact r_sub (L' := [(0, .ref 0), (3, .int v2)]) (sub_c rfl (sub_c rfl sub_n)) (rb_X11_slip_80 hE r6 v2)
      · refine r_iconst (v := (-1 : Int32)) gX11_slip_0.2.2.2.2.2.2.2.2.2.2.1 rfl ?_
        exact r_ireturn gX11_slip_0.2.2.2.2.2.2.2.2.2.2.2.1 rfl rfl
def f_X12_isOne (q : SS) (a1 : Int32) : Option Int32 :=
  (f_X12_in q a1 (0 : Int32) ((q.1 60 1) - (1 : Int32))).bind fun r1 =>
  if r1 = 0 ∨ r1 = 1 then some r1 else none
theorem e_X12_isOne {E : EE} (hE : GE E) (q : SS) (a1 : Int32) : R E (κi E q) 1 191 0 [(0, .ref 60), (1, .int a1)] [] q (f_X12_isOne q a1) := by
  unfold f_X12_isOne
  refine r_iload_n (x := a1) gX12_isOne_0.1 rfl ?_
  refine r_iconst (v := (0 : Int32)) gX12_isOne_0.2.1 rfl ?_
  refine r_aload_n (x := 60) gX12_isOne_0.2.2.1 rfl ?_
  refine r_getI gX12_isOne_0.2.2.2.1 (ff_12_115_60 hE) (by decide) ?_
  refine r_iconst (v := (1 : Int32)) gX12_isOne_0.2.2.2.2.1 rfl ?_
  refine r_isub gX12_isOne_0.2.2.2.2.2.1 ?_
  refine r_calli (k := 2) (idx := 118) (y := 189) (as := [.int a1, .int (0 : Int32), .int ((q.1 60 1) - (1 : Int32))]) (rest := []) (L0 := [(0, .int a1), (1, .int (0 : Int32)), (2, .int ((q.1 60 1) - (1 : Int32)))]) gX12_isOne_0.2.2.2.2.2.2.1 rfl rfl rfl rfl rfl vok_s rfl (r_dep (by decide) (e_X12_in hE q a1 (0 : Int32) ((q.1 60 1) - (1 : Int32)))) (fun r1 => ?_)
  exact r_zreturn gX12_isOne_0.2.2.2.2.2.2.2.1 rfl rfl
def f_X12_areSlip (q : SS) (a1 : Int32) : Option Int32 :=
  if a1 < 0 then
  (some (0 : Int32))
  else
  ((f_X12_isTicket q (a1 / (8 : Int32))).bind fun r1 =>
  if r1 = 0 then
  (some (0 : Int32))
  else
  ((f_X12_isOne q (jrem a1 (8 : Int32))).bind fun r2 =>
  if r2 = 0 then
  (some (0 : Int32))
  else
  (some (1 : Int32))))
theorem e_X12_areSlip {E : EE} (hE : GE E) (q : SS) (a1 : Int32) : R E (κi E q) 2 232 0 [(0, .ref 60), (1, .int a1)] [] q (f_X12_areSlip q a1) := by
  unfold f_X12_areSlip
  refine r_iload_n (x := a1) gX12_areSlip_0.1 rfl ?_
  refine r_if_lt (t := 30) gX12_areSlip_0.2.1 rfl (fun h5 => ?_) (fun h5 => ?_)
  · refine r_iconst (v := (0 : Int32)) gX12_areSlip_30.1 rfl ?_
    exact r_ireturn gX12_areSlip_30.2.1 rfl rfl
  · refine r_aload_n (x := 60) gX12_areSlip_0.2.2.1 rfl ?_
    refine r_iload_n (x := a1) gX12_areSlip_0.2.2.2.1 rfl ?_
    refine r_bipush (v := (8 : Int32)) gX12_areSlip_0.2.2.2.2.1 rfl ?_
    refine r_idivC gX12_areSlip_0.2.2.2.2.2.1 (by decide) ?_
    refine r_calli (k := 0) (idx := 156) (y := 192) (as := [.ref 60, .int (a1 / (8 : Int32))]) (rest := []) (L0 := [(0, .ref 60), (1, .int (a1 / (8 : Int32)))]) gX12_areSlip_0.2.2.2.2.2.2.1 rfl rfl rfl rfl rfl (vok_v (ob_60 hE) rfl) rfl (r_dep (by decide) (e_X12_isTicket hE q (a1 / (8 : Int32)))) (fun r1 => ?_)
    refine r_if_eq (t := 30) gX12_areSlip_0.2.2.2.2.2.2.2.1 rfl (fun h4 => ?_) (fun h4 => ?_)
    · refine r_iconst (v := (0 : Int32)) gX12_areSlip_30.1 rfl ?_
      exact r_ireturn gX12_areSlip_30.2.1 rfl rfl
    · refine r_aload_n (x := 60) gX12_areSlip_0.2.2.2.2.2.2.2.2.1 rfl ?_
      refine r_iload_n (x := a1) gX12_areSlip_0.2.2.2.2.2.2.2.2.2.1 rfl ?_
      refine r_bipush (v := (8 : Int32)) gX12_areSlip_0.2.2.2.2.2.2.2.2.2.2.1 rfl ?_
      refine r_iremC gX12_areSlip_0.2.2.2.2.2.2.2.2.2.2.2.1 (by decide) ?_
      refine r_calli (k := 0) (idx := 125) (y := 191) (as := [.ref 60, .int (jrem a1 (8 : Int32))]) (rest := []) (L0 := [(0, .ref 60), (1, .int (jrem a1 (8 : Int32)))]) gX12_areSlip_0.2.2.2.2.2.2.2.2.2.2.2.2.1 rfl rfl rfl rfl rfl (vok_v (ob_60 hE) rfl) rfl (r_dep (by decide) (e_X12_isOne hE q (jrem a1 (8 : Int32)))) (fun r2 => ?_)
      refine r_if_eq (t := 30) gX12_areSlip_0.2.2.2.2.2.2.2.2.2.2.2.2.2.1 rfl (fun h3 => ?_) (fun h3 => ?_)
      · refine r_iconst (v := (0 : Int32)) gX12_areSlip_30.1 rfl ?_
        exact r_ireturn gX12_areSlip_30.2.1 rfl rfl
      · refine r_iconst (v := (1 : Int32)) gX12_areSlip_0.2.2.2.2.2.2.2.2.2.2.2.2.2.2.1 rfl ?_
        refine r_goto (t := 31) gX12_areSlip_0.2.2.2.2.2.2.2.2.2.2.2.2.2.2.2.1 rfl ?_
        exact r_ireturn gX12_areSlip_30.2.1 rfl rfl
def b_X12_layNow_2 : SS → Int32 → Option SS :=
  fx2 (fun (rec_2 : SS → Int32 → Option SS) (q : SS) (l1 : Int32) =>
  if (q.1 60 6) ≤ l1 then
  (if vin (0 : Int32) 2 then
  nm (sI q 60 32 (q.1 68 (0 : Int32).toNatClampNeg)) fun q1 =>
  some q1
  else none)
  else
  (if vin l1 12 then
  if vin l1 12 then
  nm (sI q 81 l1.toNatClampNeg (q.1 65 l1.toNatClampNeg)) fun q2 =>
  rec_2 q2 (l1 + (1 : Int32))
  else none
  else none)) FU
theorem rb_X12_layNow_2 {E : EE} (hE : GE E) (q : SS) (l1 : Int32) : R E (κV E) 0 226 2 [(0, .ref 60), (1, .int l1)] [] q (b_X12_layNow_2 q l1) := by
  unfold b_X12_layNow_2
  refine fx2_ok (P := fun q l1 o => R E (κV E) 0 226 2 [(0, .ref 60), (1, .int l1)] [] q o) (fun _ _ => r_no) (fun rec_2 hrec_2 q l1 => ?_) _ _ _
  refine r_iload_n (x := l1) gX12_layNow_0.2.2.1 rfl ?_
  refine r_aload_n (x := 60) gX12_layNow_0.2.2.2.1 rfl ?_
  refine r_getI gX12_layNow_0.2.2.2.2.1 (ff_12_122_60 hE) (by decide) ?_
  refine r_icmp_ge (t := 28) gX12_layNow_0.2.2.2.2.2.1 rfl (fun h3 => ?_) (fun h3 => ?_)
  · refine r_aload_n (x := 60) gX12_layNow_28.1 rfl ?_
    refine r_aload_n (x := 60) gX12_layNow_28.2.1 rfl ?_
    refine r_getA gX12_layNow_28.2.2.1 (fa_12_33_60 hE) ?_
    refine r_iconst (v := (0 : Int32)) gX12_layNow_28.2.2.2.1 rfl ?_
    refine r_iaload gX12_layNow_28.2.2.2.2.1 (ar_68 hE) ?_
    refine r_putI gX12_layNow_28.2.2.2.2.2.1 (ff_12_248_60 hE) ?_
    refine r_nmS fun q1 _ => ?_
    exact r_return gX12_layNow_28.2.2.2.2.2.2.1 rfl rfl
  · refine r_aload_n (x := 60) gX12_layNow_0.2.2.2.2.2.2.1 rfl ?_
    refine r_getA gX12_layNow_0.2.2.2.2.2.2.2.1 (fa_12_74_60 hE) ?_
    refine r_iload_n (x := l1) gX12_layNow_0.2.2.2.2.2.2.2.2.1 rfl ?_
    refine r_aload_n (x := 60) gX12_layNow_0.2.2.2.2.2.2.2.2.2.1 rfl ?_
    refine r_getA gX12_layNow_0.2.2.2.2.2.2.2.2.2.2.1 (fa_12_24_60 hE) ?_
    refine r_iload_n (x := l1) gX12_layNow_0.2.2.2.2.2.2.2.2.2.2.2.1 rfl ?_
    refine r_iaload gX12_layNow_0.2.2.2.2.2.2.2.2.2.2.2.2.1 (ar_65 hE) ?_
    refine r_iastore gX12_layNow_0.2.2.2.2.2.2.2.2.2.2.2.2.2.1 (ar_81 hE) ?_
    refine r_nmS fun q2 _ => ?_
    refine r_iinc (x := l1) (v := (l1 + (1 : Int32))) (L2 := [(0, .ref 60), (1, .int (l1 + (1 : Int32)))]) gX12_layNow_0.2.2.2.2.2.2.2.2.2.2.2.2.2.2.1 rfl rfl rfl rfl ?_
    refine r_goto (t := 2) gX12_layNow_0.2.2.2.2.2.2.2.2.2.2.2.2.2.2.2.1 rfl ?_
    exact r_sub (L' := [(0, .ref 60), (1, .int (l1 + (1 : Int32)))]) (sub_c rfl (sub_c rfl sub_n)) (hrec_2 q2 (l1 + (1 : Int32)))
def f_X12_layNow (q : SS)  : Option SS :=
  b_X12_layNow_2 q (0 : Int32)
theorem e_X12_layNow {E : EE} (hE : GE E) (q : SS)  : R E (κV E) 0 226 0 [(0, .ref 60)] [] q (f_X12_layNow q) := by
  unfold f_X12_layNow
  refine r_iconst (v := (0 : Int32)) gX12_layNow_0.1 rfl ?_
  refine r_istore_n (L2 := [(0, .ref 60), (1, .int (0 : Int32))]) gX12_layNow_0.2.1 rfl rfl ?_
  exact r_sub (L' := [(0, .ref 60), (1, .int (0 : Int32))]) (sub_c rfl (sub_c rfl sub_n)) (rb_X12_layNow_2 hE q (0 : Int32))
def f_X12_maySlip (q : SS) (a1 : Int32) (a2 : Int32) : Option Int32 :=
  if vin a1 12 then
  if (q.1 67 a1.toNatClampNeg) = (4 : Int32) then
  (some (0 : Int32))
  else
  (if vin a1 12 then
  if (q.1 81 a1.toNatClampNeg) = a2 then
  (some (0 : Int32))
  else
  (if vin a2 6 then
  if (q.1 62 a2.toNatClampNeg) = 0 then
  (some (1 : Int32))
  else
  (some (0 : Int32))
  else none)
  else none)
  else none
theorem e_X12_maySlip {E : EE} (hE : GE E) (q : SS) (a1 : Int32) (a2 : Int32) : R E (κi E q) 0 230 0 [(0, .ref 60), (1, .int a1), (2, .int a2)] [] q (f_X12_maySlip q a1 a2) := by
  unfold f_X12_maySlip
  refine r_aload_n (x := 60) gX12_maySlip_0.1 rfl ?_
  refine r_getA gX12_maySlip_0.2.1 (fa_12_30_60 hE) ?_
  refine r_iload_n (x := a1) gX12_maySlip_0.2.2.1 rfl ?_
  refine r_iaload gX12_maySlip_0.2.2.2.1 (ar_67 hE) ?_
  refine r_iconst (v := (4 : Int32)) gX12_maySlip_0.2.2.2.2.1 rfl ?_
  refine r_icmp_eq (t := 33) gX12_maySlip_0.2.2.2.2.2.1 rfl (fun h3 => ?_) (fun h3 => ?_)
  · refine r_iconst (v := (0 : Int32)) gX12_maySlip_26.2.2.2.1 rfl ?_
    exact r_ireturn gX12_maySlip_26.2.2.2.2.1 rfl rfl
  · refine r_aload_n (x := 60) gX12_maySlip_0.2.2.2.2.2.2.1 rfl ?_
    refine r_getA gX12_maySlip_0.2.2.2.2.2.2.2.1 (fa_12_74_60 hE) ?_
    refine r_iload_n (x := a1) gX12_maySlip_0.2.2.2.2.2.2.2.2.1 rfl ?_
    refine r_iaload gX12_maySlip_0.2.2.2.2.2.2.2.2.2.1 (ar_81 hE) ?_
    refine r_iload_n (x := a2) gX12_maySlip_0.2.2.2.2.2.2.2.2.2.2.1 rfl ?_
    refine r_icmp_eq (t := 33) gX12_maySlip_0.2.2.2.2.2.2.2.2.2.2.2.1 rfl (fun h2 => ?_) (fun h2 => ?_)
    · refine r_iconst (v := (0 : Int32)) gX12_maySlip_26.2.2.2.1 rfl ?_
      exact r_ireturn gX12_maySlip_26.2.2.2.2.1 rfl rfl
    · refine r_aload_n (x := 60) gX12_maySlip_0.2.2.2.2.2.2.2.2.2.2.2.2.1 rfl ?_
      refine r_getA gX12_maySlip_0.2.2.2.2.2.2.2.2.2.2.2.2.2.1 (fa_12_15_60 hE) ?_
      refine r_iload_n (x := a2) gX12_maySlip_0.2.2.2.2.2.2.2.2.2.2.2.2.2.2.1 rfl ?_
      refine r_iaload gX12_maySlip_0.2.2.2.2.2.2.2.2.2.2.2.2.2.2.2.1 (ar_62 hE) ?_
      refine r_if_ne (t := 33) gX12_maySlip_26.1 rfl (fun h1 => ?_) (fun h1 => ?_)
      · refine r_iconst (v := (1 : Int32)) gX12_maySlip_26.2.1 rfl ?_
        refine r_goto (t := 34) gX12_maySlip_26.2.2.1 rfl ?_
        exact r_ireturn gX12_maySlip_26.2.2.2.2.1 rfl rfl
      · refine r_iconst (v := (0 : Int32)) gX12_maySlip_26.2.2.2.1 rfl ?_
        exact r_ireturn gX12_maySlip_26.2.2.2.2.1 rfl rfl
def b_X12_slip_59 (q : SS) (l1 : Int32) (l2 : Int32) : Option (Int32 × SS) :=
  if vin (0 : Int32) 4 then
  if vin (0 : Int32) 4 then
  nm (sI q 83 (0 : Int32).toNatClampNeg ((q.1 83 (0 : Int32).toNatClampNeg) + (1 : Int32))) fun q6 =>
  if vin (1 : Int32) 4 then
  if vin (1 : Int32) 4 then
  nm (sI q6 83 (1 : Int32).toNatClampNeg ((q6.1 83 (1 : Int32).toNatClampNeg) + l2)) fun q7 =>
  if vin (l1 / (8 : Int32)) 12 then
  some ((q7.1 65 (l1 / (8 : Int32)).toNatClampNeg), q7)
  else none
  else none
  else none
  else none
  else none
theorem rb_X12_slip_59 {E : EE} (hE : GE E) (q : SS) (l1 : Int32) (l2 : Int32) : R E (κI E) 3 264 59 [(0, .ref 60), (1, .int l1), (2, .int l2)] [] q (b_X12_slip_59 q l1 l2) := by
  unfold b_X12_slip_59
  refine r_aload_n (x := 60) gX12_slip_54.2.2.2.2.1 rfl ?_
  refine r_getA gX12_slip_54.2.2.2.2.2.1 (fa_12_80_60 hE) ?_
  refine r_iconst (v := (0 : Int32)) gX12_slip_54.2.2.2.2.2.2.1 rfl ?_
  refine r_dup2 gX12_slip_54.2.2.2.2.2.2.2.1 ⟨rfl, rfl⟩ ?_
  refine r_iaload gX12_slip_54.2.2.2.2.2.2.2.2.1 (ar_83 hE) ?_
  refine r_iconst (v := (1 : Int32)) gX12_slip_54.2.2.2.2.2.2.2.2.2.1 rfl ?_
  refine r_iadd gX12_slip_54.2.2.2.2.2.2.2.2.2.2.1 ?_
  refine r_iastore gX12_slip_54.2.2.2.2.2.2.2.2.2.2.2.1 (ar_83 hE) ?_
  refine r_nmS fun q6 _ => ?_
  refine r_aload_n (x := 60) gX12_slip_54.2.2.2.2.2.2.2.2.2.2.2.2.1 rfl ?_
  refine r_getA gX12_slip_54.2.2.2.2.2.2.2.2.2.2.2.2.2.1 (fa_12_80_60 hE) ?_
  refine r_iconst (v := (1 : Int32)) gX12_slip_54.2.2.2.2.2.2.2.2.2.2.2.2.2.2.1 rfl ?_
  refine r_dup2 gX12_slip_54.2.2.2.2.2.2.2.2.2.2.2.2.2.2.2.1 ⟨rfl, rfl⟩ ?_
  refine r_iaload gX12_slip_75.1 (ar_83 hE) ?_
  refine r_iload_n (x := l2) gX12_slip_75.2.1 rfl ?_
  refine r_iadd gX12_slip_75.2.2.1 ?_
  refine r_iastore gX12_slip_75.2.2.2.1 (ar_83 hE) ?_
  refine r_nmS fun q7 _ => ?_
  refine r_aload_n (x := 60) gX12_slip_75.2.2.2.2.1 rfl ?_
  refine r_getA gX12_slip_75.2.2.2.2.2.1 (fa_12_24_60 hE) ?_
  refine r_iload_n (x := l1) gX12_slip_75.2.2.2.2.2.2.1 rfl ?_
  refine r_bipush (v := (8 : Int32)) gX12_slip_75.2.2.2.2.2.2.2.1 rfl ?_
  refine r_idivC gX12_slip_75.2.2.2.2.2.2.2.2.1 (by decide) ?_
  refine r_iaload gX12_slip_75.2.2.2.2.2.2.2.2.2.1 (ar_65 hE) ?_
  exact r_ireturn gX12_slip_75.2.2.2.2.2.2.2.2.2.2.1 rfl rfl
def f_X12_slip (q : SS) (a1 : Int32) (a2 : Int32) : Option (Int32 × SS) :=
  (f_X12_areSlip q a1).bind fun r1 =>
  if r1 = 0 then
  (some ((-1 : Int32), q))
  else
  ((f_X12_in q a2 (0 : Int32) (1 : Int32)).bind fun r2 =>
  if r2 = 0 then
  (some ((-1 : Int32), q))
  else
  ((f_X12_layNow q).bind fun r3 =>
  (f_X12_maySlip r3 (a1 / (8 : Int32)) (jrem a1 (8 : Int32))).bind fun r4 =>
  if r4 = 0 then
  (some ((-5 : Int32), r3))
  else
  (if a2 = (1 : Int32) then
  (if vin (a1 / (8 : Int32)) 12 then
  nm (sI r3 65 (a1 / (8 : Int32)).toNatClampNeg (jrem a1 (8 : Int32))) fun q5 =>
  b_X12_slip_59 q5 a1 a2
  else none)
  else
  (b_X12_slip_59 r3 a1 a2))))
theorem e_X12_slip {E : EE} (hE : GE E) (q : SS) (a1 : Int32) (a2 : Int32) : R E (κI E) 3 264 0 [(0, .ref 60), (1, .int a1), (2, .int a2)] [] q (f_X12_slip q a1 a2) := by
  unfold f_X12_slip
  refine r_aload_n (x := 60) gX12_slip_0.1 rfl ?_
  refine r_iload_n (x := a1) gX12_slip_0.2.1 rfl ?_
  refine r_calli (k := 0) (idx := 257) (y := 232) (as := [.ref 60, .int a1]) (rest := []) (L0 := [(0, .ref 60), (1, .int a1)]) gX12_slip_0.2.2.1 rfl rfl rfl rfl rfl (vok_v (ob_60 hE) rfl) rfl (r_dep (by decide) (e_X12_areSlip hE q a1)) (fun r1 => ?_)
  refine r_if_eq (t := 17) gX12_slip_0.2.2.2.1 rfl (fun h11 => ?_) (fun h11 => ?_)
  · refine r_iconst (v := (-1 : Int32)) gX12_slip_0.2.2.2.2.2.2.2.2.2.1 rfl ?_
    exact r_ireturn gX12_slip_0.2.2.2.2.2.2.2.2.2.2.1 rfl rfl
  · refine r_iload_n (x := a2) gX12_slip_0.2.2.2.2.1 rfl ?_
    refine r_iconst (v := (0 : Int32)) gX12_slip_0.2.2.2.2.2.1 rfl ?_
    refine r_iconst (v := (1 : Int32)) gX12_slip_0.2.2.2.2.2.2.1 rfl ?_
    refine r_calli (k := 2) (idx := 118) (y := 189) (as := [.int a2, .int (0 : Int32), .int (1 : Int32)]) (rest := []) (L0 := [(0, .int a2), (1, .int (0 : Int32)), (2, .int (1 : Int32))]) gX12_slip_0.2.2.2.2.2.2.2.1 rfl rfl rfl rfl rfl vok_s rfl (r_dep (by decide) (e_X12_in hE q a2 (0 : Int32) (1 : Int32))) (fun r2 => ?_)
    refine r_if_ne (t := 19) gX12_slip_0.2.2.2.2.2.2.2.2.1 rfl (fun h10 => ?_) (fun h10 => ?_)
    · refine r_iconst (v := (-1 : Int32)) gX12_slip_0.2.2.2.2.2.2.2.2.2.1 rfl ?_
      exact r_ireturn gX12_slip_0.2.2.2.2.2.2.2.2.2.2.1 rfl rfl
    · refine r_aload_n (x := 60) gX12_slip_0.2.2.2.2.2.2.2.2.2.2.2.1 rfl ?_
      refine r_callV (k := 0) (idx := 168) (y := 226) (as := [.ref 60]) (rest := []) (L0 := [(0, .ref 60)]) gX12_slip_0.2.2.2.2.2.2.2.2.2.2.2.2.1 rfl rfl rfl rfl rfl (vok_v (ob_60 hE) rfl) rfl (r_dep (by decide) (e_X12_layNow hE q)) (fun r3 => ?_)
      refine r_aload_n (x := 60) gX12_slip_0.2.2.2.2.2.2.2.2.2.2.2.2.2.1 rfl ?_
      refine r_iload_n (x := a1) gX12_slip_0.2.2.2.2.2.2.2.2.2.2.2.2.2.2.1 rfl ?_
      refine r_bipush (v := (8 : Int32)) gX12_slip_0.2.2.2.2.2.2.2.2.2.2.2.2.2.2.2.1 rfl ?_
      refine r_idivC gX12_slip_27.1 (by decide) ?_
      refine r_iload_n (x := a1) gX12_slip_27.2.1 rfl ?_
      refine r_bipush (v := (8 : Int32)) gX12_slip_27.2.2.1 rfl ?_
      refine r_iremC gX12_slip_27.2.2.2.1 (by decide) ?_
      refine r_calli (k := 0) (idx := 251) (y := 230) (as := [.ref 60, .int (a1 / (8 : Int32)), .int (jrem a1 (8 : Int32))]) (rest := []) (L0 := [(0, .ref 60), (1, .int (a1 / (8 : Int32))), (2, .int (jrem a1 (8 : Int32)))]) gX12_slip_27.2.2.2.2.1 rfl rfl rfl rfl rfl (vok_v (ob_60 hE) rfl) rfl (r_dep (by decide) (e_X12_maySlip hE r3 (a1 / (8 : Int32)) (jrem a1 (8 : Int32)))) (fun r4 => ?_)
      refine r_if_ne (t := 41) gX12_slip_27.2.2.2.2.2.1 rfl (fun h9 => ?_) (fun h9 => ?_)
      · refine r_bipush (v := (-5 : Int32)) gX12_slip_27.2.2.2.2.2.2.1 rfl ?_
        exact r_ireturn gX12_slip_27.2.2.2.2.2.2.2.1 rfl rfl
      · refine r_iload_n (x := a2) gX12_slip_27.2.2.2.2.2.2.2.2.1 rfl ?_
        refine r_iconst (v := (1 : Int32)) gX12_slip_27.2.2.2.2.2.2.2.2.2.1 rfl ?_
        refine r_icmp_ne (t := 59) gX12_slip_27.2.2.2.2.2.2.2.2.2.2.1 rfl (fun h8 => ?_) (fun h8 => ?_)
        · refine r_aload_n (x := 60) gX12_slip_27.2.2.2.2.2.2.2.2.2.2.2.1 rfl ?_
          refine r_getA gX12_slip_27.2.2.2.2.2.2.2.2.2.2.2.2.1 (fa_12_24_60 hE) ?_
          refine r_iload_n (x := a1) gX12_slip_27.2.2.2.2.2.2.2.2.2.2.2.2.2.1 rfl ?_
          refine r_bipush (v := (8 : Int32)) gX12_slip_27.2.2.2.2.2.2.2.2.2.2.2.2.2.2.1 rfl ?_
          refine r_idivC gX12_slip_27.2.2.2.2.2.2.2.2.2.2.2.2.2.2.2.1 (by decide) ?_
          refine r_iload_n (x := a1) gX12_slip_54.1 rfl ?_
          refine r_bipush (v := (8 : Int32)) gX12_slip_54.2.1 rfl ?_
          refine r_iremC gX12_slip_54.2.2.1 (by decide) ?_
          refine r_iastore gX12_slip_54.2.2.2.1 (ar_65 hE) ?_
          refine r_nmS fun q5 _ => ?_
          exact r_sub (L' := [(0, .ref 60), (1, .int a1), (2, .int a2)]) (sub_c rfl (sub_c rfl (sub_c rfl sub_n))) (rb_X12_slip_59 hE q5 a1 a2)
        · exact r_sub (L' := [(0, .ref 60), (1, .int a1), (2, .int a2)]) (sub_c rfl (sub_c rfl (sub_c rfl sub_n))) (rb_X12_slip_59 hE r3 a1 a2)
def f_X11_nextDraw (q : SS) (a0 : Int32) : Option Int32 :=
  some ((a0 * (1103515245 : Int32)) + (12345 : Int32))
theorem e_X11_nextDraw {E : EE} (hE : GE E) (q : SS) (a0 : Int32) : R E (κi E q) 0 169 0 [(0, .int a0)] [] q (f_X11_nextDraw q a0) := by
  unfold f_X11_nextDraw
  refine r_iload_n (x := a0) gX11_nextDraw_0.1 rfl ?_
  refine r_ldc (v := (1103515245 : Int32)) gX11_nextDraw_0.2.1 rfl ?_
  refine r_imul gX11_nextDraw_0.2.2.1 ?_
  refine r_sipush (v := (12345 : Int32)) gX11_nextDraw_0.2.2.2.1 rfl ?_
  refine r_iadd gX11_nextDraw_0.2.2.2.2.1 ?_
  exact r_ireturn gX11_nextDraw_0.2.2.2.2.2.1 rfl rfl
def b_X8_heldBy_30 (rec_4 : Int32 → Int32 → Int32 → Option Int32) (q : SS) (l1 : Int32) (l3 : Int32) (s0 : Int32) (s1 : Int32) : Option Int32 :=
  nm (s1 + s0) fun v3 =>
  rec_4 l1 v3 (l3 + (1 : Int32))
theorem rb_X8_heldBy_30 {E : EE} (hE : GE E) {q : SS} {rec_4 : Int32 → Int32 → Int32 → Option Int32} (hrec_4 : ∀ (yl1 : Int32) (yl2 : Int32) (yl3 : Int32), R E (κi E q) 2 100 4 [(0, .ref 24), (1, .int yl1), (2, .int yl2), (3, .int yl3)] [] q (rec_4 yl1 yl2 yl3)) (l1 : Int32) (l3 : Int32) (s0 : Int32) (s1 : Int32) : R E (κi E q) 2 100 30 [(0, .ref 24), (1, .int l1), (3, .int l3)] [.int s0, .int s1] q (b_X8_heldBy_30 rec_4 q l1 l3 s0 s1) := by
  unfold b_X8_heldBy_30
  refine r_iadd gX8_heldBy_26.2.2.1 ?_
  refine r_nmI fun v3 _ => ?_
  refine r_istore_n (L2 := [(0, .ref 24), (1, .int l1), (2, .int v3), (3, .int l3)]) gX8_heldBy_26.2.2.2.1 rfl rfl ?_
  refine r_iinc (x := l3) (v := (l3 + (1 : Int32))) (L2 := [(0, .ref 24), (1, .int l1), (2, .int v3), (3, .int (l3 + (1 : Int32)))]) gX8_heldBy_26.2.2.2.2.1 rfl rfl rfl rfl ?_
  refine r_goto (t := 4) gX8_heldBy_26.2.2.2.2.2.1 rfl ?_
  exact r_sub (L' := [(0, .ref 24), (1, .int l1), (2, .int v3), (3, .int (l3 + (1 : Int32)))]) (sub_c rfl (sub_c rfl (sub_c rfl (sub_c rfl sub_n)))) (hrec_4 l1 v3 (l3 + (1 : Int32)))
def b_X8_heldBy_4 (q : SS) : Int32 → Int32 → Int32 → Option Int32 :=
  fx3 (fun (rec_4 : Int32 → Int32 → Int32 → Option Int32) (l1 : Int32) (l2 : Int32) (l3 : Int32) =>
  (f_X10_tickets q).bind fun r1 =>
  if r1 ≤ l3 then
  (some l2)
  else
  ((f_X8_holderOf q l3).bind fun r2 =>
  if r2 = l1 then
  (b_X8_heldBy_30 rec_4 q l1 l3 (1 : Int32) l2)
  else
  (b_X8_heldBy_30 rec_4 q l1 l3 (0 : Int32) l2))) FU
theorem rb_X8_heldBy_4 {E : EE} (hE : GE E) (q : SS) (l1 : Int32) (l2 : Int32) (l3 : Int32) : R E (κi E q) 2 100 4 [(0, .ref 24), (1, .int l1), (2, .int l2), (3, .int l3)] [] q (b_X8_heldBy_4 q l1 l2 l3) := by
  unfold b_X8_heldBy_4
  refine fx3_ok (P := fun l1 l2 l3 o => R E (κi E q) 2 100 4 [(0, .ref 24), (1, .int l1), (2, .int l2), (3, .int l3)] [] q o) (fun _ _ _ => r_no) (fun rec_4 hrec_4 l1 l2 l3 => ?_) _ _ _ _
  refine r_iload_n (x := l3) gX8_heldBy_0.2.2.2.2.1 rfl ?_
  refine r_aload_n (x := 24) gX8_heldBy_0.2.2.2.2.2.1 rfl ?_
  refine r_getA gX8_heldBy_0.2.2.2.2.2.2.1 (fa_8_9_24 hE) ?_
  refine r_calli (k := 0) (idx := 33) (y := 126) (as := [.ref 1]) (rest := [.int l3]) (L0 := [(0, .ref 1)]) gX8_heldBy_0.2.2.2.2.2.2.2.1 rfl rfl rfl rfl rfl (vok_v (ob_1 hE) rfl) rfl (r_dep (by decide) (e_X10_tickets hE q)) (fun r1 => ?_)
  refine r_icmp_ge (t := 38) gX8_heldBy_0.2.2.2.2.2.2.2.2.1 rfl (fun h5 => ?_) (fun h5 => ?_)
  · refine r_iload_n (x := l2) gX8_heldBy_26.2.2.2.2.2.2.1 rfl ?_
    exact r_ireturn gX8_heldBy_26.2.2.2.2.2.2.2.1 rfl rfl
  · refine r_iload_n (x := l2) gX8_heldBy_0.2.2.2.2.2.2.2.2.2.1 rfl ?_
    refine r_aload_n (x := 24) gX8_heldBy_0.2.2.2.2.2.2.2.2.2.2.1 rfl ?_
    refine r_iload_n (x := l3) gX8_heldBy_0.2.2.2.2.2.2.2.2.2.2.2.1 rfl ?_
    refine r_calli (k := 0) (idx := 37) (y := 98) (as := [.ref 24, .int l3]) (rest := [.int l2]) (L0 := [(0, .ref 24), (1, .int l3)]) gX8_heldBy_0.2.2.2.2.2.2.2.2.2.2.2.2.1 rfl rfl rfl rfl rfl (vok_v (ob_24 hE) rfl) rfl (r_dep (by decide) (e_X8_holderOf hE q l3)) (fun r2 => ?_)
    refine r_iload_n (x := l1) gX8_heldBy_0.2.2.2.2.2.2.2.2.2.2.2.2.2.1 rfl ?_
    refine r_icmp_ne (t := 29) gX8_heldBy_0.2.2.2.2.2.2.2.2.2.2.2.2.2.2.1 rfl (fun h4 => ?_) (fun h4 => ?_)
    · refine r_iconst (v := (1 : Int32)) gX8_heldBy_0.2.2.2.2.2.2.2.2.2.2.2.2.2.2.2.1 rfl ?_
      refine r_goto (t := 30) gX8_heldBy_26.1 rfl ?_
      exact r_sub (L' := [(0, .ref 24), (1, .int l1), (3, .int l3)]) (sub_c rfl (sub_c rfl (sub_c rfl sub_n))) (rb_X8_heldBy_30 hE hrec_4 l1 l3 (1 : Int32) l2)
    · refine r_iconst (v := (0 : Int32)) gX8_heldBy_26.2.1 rfl ?_
      exact r_sub (L' := [(0, .ref 24), (1, .int l1), (3, .int l3)]) (sub_c rfl (sub_c rfl (sub_c rfl sub_n))) (rb_X8_heldBy_30 hE hrec_4 l1 l3 (0 : Int32) l2)
def f_X8_heldBy (q : SS) (a1 : Int32) : Option Int32 :=
  b_X8_heldBy_4 q a1 (0 : Int32) (0 : Int32)
theorem e_X8_heldBy {E : EE} (hE : GE E) (q : SS) (a1 : Int32) : R E (κi E q) 2 100 0 [(0, .ref 24), (1, .int a1)] [] q (f_X8_heldBy q a1) := by
  unfold f_X8_heldBy
  refine r_iconst (v := (0 : Int32)) gX8_heldBy_0.1 rfl ?_
  refine r_istore_n (L2 := [(0, .ref 24), (1, .int a1), (2, .int (0 : Int32))]) gX8_heldBy_0.2.1 rfl rfl ?_
  refine r_iconst (v := (0 : Int32)) gX8_heldBy_0.2.2.1 rfl ?_
  refine r_istore_n (L2 := [(0, .ref 24), (1, .int a1), (2, .int (0 : Int32)), (3, .int (0 : Int32))]) gX8_heldBy_0.2.2.2.1 rfl rfl ?_
  exact r_sub (L' := [(0, .ref 24), (1, .int a1), (2, .int (0 : Int32)), (3, .int (0 : Int32))]) (sub_c rfl (sub_c rfl (sub_c rfl (sub_c rfl sub_n)))) (rb_X8_heldBy_4 hE q a1 (0 : Int32) (0 : Int32))
def f_X4_isTold (q : SS)  : Option Int32 :=
  if (q.1 12 4) ≤ 0 then
  (some (0 : Int32))
  else
  (some (1 : Int32))
theorem e_X4_isTold {E : EE} (hE : GE E) (q : SS)  : R E (κi E q) 0 41 0 [(0, .ref 12)] [] q (f_X4_isTold q) := by
  unfold f_X4_isTold
  refine r_aload_n (x := 12) gX4_isTold_0.1 rfl ?_
  refine r_getI gX4_isTold_0.2.1 (ff_4_24_12 hE) (by decide) ?_
  refine r_if_le (t := 11) gX4_isTold_0.2.2.1 rfl (fun h1 => ?_) (fun h1 => ?_)
  · refine r_iconst (v := (0 : Int32)) gX4_isTold_0.2.2.2.2.2.1 rfl ?_
    exact r_ireturn gX4_isTold_0.2.2.2.2.2.2.1 rfl rfl
  · refine r_iconst (v := (1 : Int32)) gX4_isTold_0.2.2.2.1 rfl ?_
    refine r_goto (t := 12) gX4_isTold_0.2.2.2.2.1 rfl ?_
    exact r_ireturn gX4_isTold_0.2.2.2.2.2.2.1 rfl rfl
def f_X4_pop (q : SS)  : Option (Int32 × SS) :=
  if (q.1 12 5) ≤ 0 then
  (some ((0 : Int32), q))
  else
  (if (q.1 12 5) ≤ (121 : Int32) then
  (nm (sI q 12 5 ((q.1 12 5) - (1 : Int32))) fun q1 =>
  if vin (q1.1 12 5) 121 then
  some ((q1.1 15 (q1.1 12 5).toNatClampNeg), q1)
  else none)
  else
  (some ((0 : Int32), q)))
theorem e_X4_pop {E : EE} (hE : GE E) (q : SS)  : R E (κI E) 0 49 0 [(0, .ref 12)] [] q (f_X4_pop q) := by
  unfold f_X4_pop
  refine r_aload_n (x := 12) gX4_pop_0.1 rfl ?_
  refine r_getI gX4_pop_0.2.1 (ff_4_34_12 hE) (by decide) ?_
  refine r_if_le (t := 16) gX4_pop_0.2.2.1 rfl (fun h3 => ?_) (fun h3 => ?_)
  · refine r_iconst (v := (0 : Int32)) gX4_pop_0.2.2.2.2.2.2.2.1 rfl ?_
    exact r_ireturn gX4_pop_0.2.2.2.2.2.2.2.2.1 rfl rfl
  · refine r_aload_n (x := 12) gX4_pop_0.2.2.2.1 rfl ?_
    refine r_getI gX4_pop_0.2.2.2.2.1 (ff_4_34_12 hE) (by decide) ?_
    refine r_bipush (v := (121 : Int32)) gX4_pop_0.2.2.2.2.2.1 rfl ?_
    refine r_icmp_le (t := 18) gX4_pop_0.2.2.2.2.2.2.1 rfl (fun h2 => ?_) (fun h2 => ?_)
    · refine r_aload_n (x := 12) gX4_pop_0.2.2.2.2.2.2.2.2.2.1 rfl ?_
      refine r_dup gX4_pop_0.2.2.2.2.2.2.2.2.2.2.1 rfl ?_
      refine r_getI gX4_pop_0.2.2.2.2.2.2.2.2.2.2.2.1 (ff_4_34_12 hE) (by decide) ?_
      refine r_iconst (v := (1 : Int32)) gX4_pop_0.2.2.2.2.2.2.2.2.2.2.2.2.1 rfl ?_
      refine r_isub gX4_pop_0.2.2.2.2.2.2.2.2.2.2.2.2.2.1 ?_
      refine r_putI gX4_pop_0.2.2.2.2.2.2.2.2.2.2.2.2.2.2.1 (ff_4_34_12 hE) ?_
      refine r_nmS fun q1 _ => ?_
      refine r_aload_n (x := 12) gX4_pop_0.2.2.2.2.2.2.2.2.2.2.2.2.2.2.2.1 rfl ?_
      refine r_getA gX4_pop_29.1 (fa_4_18_12 hE) ?_
      refine r_aload_n (x := 12) gX4_pop_29.2.1 rfl ?_
      refine r_getI gX4_pop_29.2.2.1 (ff_4_34_12 hE) (by decide) ?_
      refine r_iaload gX4_pop_29.2.2.2.1 (ar_15 hE) ?_
      exact r_ireturn gX4_pop_29.2.2.2.2.1 rfl rfl
    · refine r_iconst (v := (0 : Int32)) gX4_pop_0.2.2.2.2.2.2.2.1 rfl ?_
      exact r_ireturn gX4_pop_0.2.2.2.2.2.2.2.2.1 rfl rfl
def f_X4_push (q : SS) (a1 : Int32) : Option SS :=
  if (q.1 12 5) < 0 then
  (some q)
  else
  (if (121 : Int32) ≤ (q.1 12 5) then
  (some q)
  else
  (if vin (q.1 12 5) 121 then
  nm (sI q 15 (q.1 12 5).toNatClampNeg a1) fun q1 =>
  nm (sI q1 12 5 ((q1.1 12 5) + (1 : Int32))) fun q2 =>
  some q2
  else none))
theorem e_X4_push {E : EE} (hE : GE E) (q : SS) (a1 : Int32) : R E (κV E) 0 48 0 [(0, .ref 12), (1, .int a1)] [] q (f_X4_push q a1) := by
  unfold f_X4_push
  refine r_aload_n (x := 12) gX4_push_0.1 rfl ?_
  refine r_getI gX4_push_0.2.1 (ff_4_34_12 hE) (by decide) ?_
  refine r_if_lt (t := 36) gX4_push_0.2.2.1 rfl (fun h4 => ?_) (fun h4 => ?_)
  · exact r_return gX4_push_31.2.2.2.1 rfl rfl
  · refine r_aload_n (x := 12) gX4_push_0.2.2.2.1 rfl ?_
    refine r_getI gX4_push_0.2.2.2.2.1 (ff_4_34_12 hE) (by decide) ?_
    refine r_bipush (v := (121 : Int32)) gX4_push_0.2.2.2.2.2.1 rfl ?_
    refine r_icmp_ge (t := 36) gX4_push_0.2.2.2.2.2.2.1 rfl (fun h3 => ?_) (fun h3 => ?_)
    · exact r_return gX4_push_31.2.2.2.1 rfl rfl
    · refine r_aload_n (x := 12) gX4_push_0.2.2.2.2.2.2.2.1 rfl ?_
      refine r_getA gX4_push_0.2.2.2.2.2.2.2.2.1 (fa_4_18_12 hE) ?_
      refine r_aload_n (x := 12) gX4_push_0.2.2.2.2.2.2.2.2.2.1 rfl ?_
      refine r_getI gX4_push_0.2.2.2.2.2.2.2.2.2.2.1 (ff_4_34_12 hE) (by decide) ?_
      refine r_iload_n (x := a1) gX4_push_0.2.2.2.2.2.2.2.2.2.2.2.1 rfl ?_
      refine r_iastore gX4_push_0.2.2.2.2.2.2.2.2.2.2.2.2.1 (ar_15 hE) ?_
      refine r_nmS fun q1 _ => ?_
      refine r_aload_n (x := 12) gX4_push_0.2.2.2.2.2.2.2.2.2.2.2.2.2.1 rfl ?_
      refine r_dup gX4_push_0.2.2.2.2.2.2.2.2.2.2.2.2.2.2.1 rfl ?_
      refine r_getI gX4_push_0.2.2.2.2.2.2.2.2.2.2.2.2.2.2.2.1 (ff_4_34_12 hE) (by decide) ?_
      refine r_iconst (v := (1 : Int32)) gX4_push_31.1 rfl ?_
      refine r_iadd gX4_push_31.2.1 ?_
      refine r_putI gX4_push_31.2.2.1 (ff_4_34_12 hE) ?_
      refine r_nmS fun q2 _ => ?_
      exact r_return gX4_push_31.2.2.2.1 rfl rfl
def b_X4_join_100 (q : SS)  : Option Int32 :=
  some (1 : Int32)
theorem rb_X4_join_100 {E : EE} (hE : GE E) (q : SS)  : R E (κi E q) 0 47 100 [] [] q (b_X4_join_100 q) := by
  unfold b_X4_join_100
  refine r_iconst (v := (1 : Int32)) gX4_join_92.2.2.2.2.1 rfl ?_
  refine r_goto (t := 105) gX4_join_92.2.2.2.2.2.1 rfl ?_
  exact r_ireturn gX4_join_92.2.2.2.2.2.2.2.1 rfl rfl
def f_X4_join (q : SS) (a0 : Int32) (a1 : Int32) (a2 : Int32) : Option Int32 :=
  sw a0 [(37, (if a2 = 0 then
  (some (0 : Int32))
  else
  (if a2 = 0 then none else
  some (jrem a1 a2)))), (38, (if a1 = 0 then
  (some (0 : Int32))
  else
  (if a2 = 0 then
  (some (0 : Int32))
  else
  (some (1 : Int32))))), (42, (some (a1 * a2))), (43, (some (a1 + a2))), (45, (some (a1 - a2))), (47, (if a2 = 0 then
  (some (0 : Int32))
  else
  (if a2 = 0 then none else
  some (a1 / a2)))), (60, (if a2 ≤ a1 then
  (some (0 : Int32))
  else
  (some (1 : Int32)))), (61, (if a1 = a2 then
  (some (1 : Int32))
  else
  (some (0 : Int32)))), (62, (if a1 ≤ a2 then
  (some (0 : Int32))
  else
  (some (1 : Int32)))), (124, (if a1 = 0 then
  (if a2 = 0 then
  (some (0 : Int32))
  else
  (b_X4_join_100 q))
  else
  (b_X4_join_100 q)))]
  (some (0 : Int32))
theorem e_X4_join {E : EE} (hE : GE E) (q : SS) (a0 : Int32) (a1 : Int32) (a2 : Int32) : R E (κi E q) 0 47 0 [(0, .int a0), (1, .int a1), (2, .int a2)] [] q (f_X4_join q a0 a1 a2) := by
  unfold f_X4_join
  refine r_iload_n (x := a0) gX4_join_0.1 rfl ?_
  refine r_sw1 (fun h1 => ?_) (fun h1 => ?_)
  · refine r_jmp (t := 177) dX4_join_1 rfl (by rw [h1]; rfl) ?_
    refine r_iload_n (x := a2) gX4_join_164.2.2.2.2.2.2.2.2.2.1 rfl ?_
    refine r_if_ne (t := 185) gX4_join_164.2.2.2.2.2.2.2.2.2.2.1 rfl (fun h2 => ?_) (fun h2 => ?_)
    · refine r_iconst (v := (0 : Int32)) gX4_join_164.2.2.2.2.2.2.2.2.2.2.2.1 rfl ?_
      refine r_goto (t := 188) gX4_join_164.2.2.2.2.2.2.2.2.2.2.2.2.1 rfl ?_
      exact r_ireturn gX4_join_188.1 rfl rfl
    · refine r_iload_n (x := a1) gX4_join_164.2.2.2.2.2.2.2.2.2.2.2.2.2.1 rfl ?_
      refine r_iload_n (x := a2) gX4_join_164.2.2.2.2.2.2.2.2.2.2.2.2.2.2.1 rfl ?_
      refine r_irem gX4_join_164.2.2.2.2.2.2.2.2.2.2.2.2.2.2.2.1 ?_
      exact r_ireturn gX4_join_188.1 rfl rfl
  refine r_sw1 (fun h3 => ?_) (fun h3 => ?_)
  · refine r_jmp (t := 106) dX4_join_1 rfl (by rw [h3]; rfl) ?_
    refine r_iload_n (x := a1) gX4_join_92.2.2.2.2.2.2.2.2.1 rfl ?_
    refine r_if_eq (t := 118) gX4_join_92.2.2.2.2.2.2.2.2.2.1 rfl (fun h5 => ?_) (fun h5 => ?_)
    · refine r_iconst (v := (0 : Int32)) gX4_join_92.2.2.2.2.2.2.2.2.2.2.2.2.2.2.1 rfl ?_
      exact r_ireturn gX4_join_92.2.2.2.2.2.2.2.2.2.2.2.2.2.2.2.1 rfl rfl
    · refine r_iload_n (x := a2) gX4_join_92.2.2.2.2.2.2.2.2.2.2.1 rfl ?_
      refine r_if_eq (t := 118) gX4_join_92.2.2.2.2.2.2.2.2.2.2.2.1 rfl (fun h4 => ?_) (fun h4 => ?_)
      · refine r_iconst (v := (0 : Int32)) gX4_join_92.2.2.2.2.2.2.2.2.2.2.2.2.2.2.1 rfl ?_
        exact r_ireturn gX4_join_92.2.2.2.2.2.2.2.2.2.2.2.2.2.2.2.1 rfl rfl
      · refine r_iconst (v := (1 : Int32)) gX4_join_92.2.2.2.2.2.2.2.2.2.2.2.2.1 rfl ?_
        refine r_goto (t := 119) gX4_join_92.2.2.2.2.2.2.2.2.2.2.2.2.2.1 rfl ?_
        exact r_ireturn gX4_join_92.2.2.2.2.2.2.2.2.2.2.2.2.2.2.2.1 rfl rfl
  refine r_sw1 (fun h6 => ?_) (fun h6 => ?_)
  · refine r_jmp (t := 161) dX4_join_1 rfl (by rw [h6]; rfl) ?_
    refine r_iload_n (x := a1) gX4_join_144.2.2.2.2.2.2.2.2.2.2.2.2.2.1 rfl ?_
    refine r_iload_n (x := a2) gX4_join_144.2.2.2.2.2.2.2.2.2.2.2.2.2.2.1 rfl ?_
    refine r_imul gX4_join_144.2.2.2.2.2.2.2.2.2.2.2.2.2.2.2.1 ?_
    exact r_ireturn gX4_join_164.1 rfl rfl
  refine r_sw1 (fun h7 => ?_) (fun h7 => ?_)
  · refine r_jmp (t := 153) dX4_join_1 rfl (by rw [h7]; rfl) ?_
    refine r_iload_n (x := a1) gX4_join_144.2.2.2.2.2.1 rfl ?_
    refine r_iload_n (x := a2) gX4_join_144.2.2.2.2.2.2.1 rfl ?_
    refine r_iadd gX4_join_144.2.2.2.2.2.2.2.1 ?_
    exact r_ireturn gX4_join_144.2.2.2.2.2.2.2.2.1 rfl rfl
  refine r_sw1 (fun h8 => ?_) (fun h8 => ?_)
  · refine r_jmp (t := 157) dX4_join_1 rfl (by rw [h8]; rfl) ?_
    refine r_iload_n (x := a1) gX4_join_144.2.2.2.2.2.2.2.2.2.1 rfl ?_
    refine r_iload_n (x := a2) gX4_join_144.2.2.2.2.2.2.2.2.2.2.1 rfl ?_
    refine r_isub gX4_join_144.2.2.2.2.2.2.2.2.2.2.2.1 ?_
    exact r_ireturn gX4_join_144.2.2.2.2.2.2.2.2.2.2.2.2.1 rfl rfl
  refine r_sw1 (fun h9 => ?_) (fun h9 => ?_)
  · refine r_jmp (t := 165) dX4_join_1 rfl (by rw [h9]; rfl) ?_
    refine r_iload_n (x := a2) gX4_join_164.2.1 rfl ?_
    refine r_if_ne (t := 173) gX4_join_164.2.2.1 rfl (fun h10 => ?_) (fun h10 => ?_)
    · refine r_iconst (v := (0 : Int32)) gX4_join_164.2.2.2.1 rfl ?_
      refine r_goto (t := 176) gX4_join_164.2.2.2.2.1 rfl ?_
      exact r_ireturn gX4_join_164.2.2.2.2.2.2.2.2.1 rfl rfl
    · refine r_iload_n (x := a1) gX4_join_164.2.2.2.2.2.1 rfl ?_
      refine r_iload_n (x := a2) gX4_join_164.2.2.2.2.2.2.1 rfl ?_
      refine r_idiv gX4_join_164.2.2.2.2.2.2.2.1 ?_
      exact r_ireturn gX4_join_164.2.2.2.2.2.2.2.2.1 rfl rfl
  refine r_sw1 (fun h11 => ?_) (fun h11 => ?_)
  · refine r_jmp (t := 120) dX4_join_1 rfl (by rw [h11]; rfl) ?_
    refine r_iload_n (x := a1) gX4_join_120.1 rfl ?_
    refine r_iload_n (x := a2) gX4_join_120.2.1 rfl ?_
    refine r_icmp_ge (t := 129) gX4_join_120.2.2.1 rfl (fun h12 => ?_) (fun h12 => ?_)
    · refine r_iconst (v := (0 : Int32)) gX4_join_120.2.2.2.2.2.1 rfl ?_
      exact r_ireturn gX4_join_120.2.2.2.2.2.2.1 rfl rfl
    · refine r_iconst (v := (1 : Int32)) gX4_join_120.2.2.2.1 rfl ?_
      refine r_goto (t := 130) gX4_join_120.2.2.2.2.1 rfl ?_
      exact r_ireturn gX4_join_120.2.2.2.2.2.2.1 rfl rfl
  refine r_sw1 (fun h13 => ?_) (fun h13 => ?_)
  · refine r_jmp (t := 131) dX4_join_1 rfl (by rw [h13]; rfl) ?_
    refine r_iload_n (x := a1) gX4_join_120.2.2.2.2.2.2.2.1 rfl ?_
    refine r_iload_n (x := a2) gX4_join_120.2.2.2.2.2.2.2.2.1 rfl ?_
    refine r_icmp_ne (t := 140) gX4_join_120.2.2.2.2.2.2.2.2.2.1 rfl (fun h14 => ?_) (fun h14 => ?_)
    · refine r_iconst (v := (1 : Int32)) gX4_join_120.2.2.2.2.2.2.2.2.2.2.1 rfl ?_
      refine r_goto (t := 141) gX4_join_120.2.2.2.2.2.2.2.2.2.2.2.1 rfl ?_
      exact r_ireturn gX4_join_120.2.2.2.2.2.2.2.2.2.2.2.2.2.1 rfl rfl
    · refine r_iconst (v := (0 : Int32)) gX4_join_120.2.2.2.2.2.2.2.2.2.2.2.2.1 rfl ?_
      exact r_ireturn gX4_join_120.2.2.2.2.2.2.2.2.2.2.2.2.2.1 rfl rfl
  refine r_sw1 (fun h15 => ?_) (fun h15 => ?_)
  · refine r_jmp (t := 142) dX4_join_1 rfl (by rw [h15]; rfl) ?_
    refine r_iload_n (x := a1) gX4_join_120.2.2.2.2.2.2.2.2.2.2.2.2.2.2.1 rfl ?_
    refine r_iload_n (x := a2) gX4_join_120.2.2.2.2.2.2.2.2.2.2.2.2.2.2.2.1 rfl ?_
    refine r_icmp_le (t := 151) gX4_join_144.1 rfl (fun h16 => ?_) (fun h16 => ?_)
    · refine r_iconst (v := (0 : Int32)) gX4_join_144.2.2.2.1 rfl ?_
      exact r_ireturn gX4_join_144.2.2.2.2.1 rfl rfl
    · refine r_iconst (v := (1 : Int32)) gX4_join_144.2.1 rfl ?_
      refine r_goto (t := 152) gX4_join_144.2.2.1 rfl ?_
      exact r_ireturn gX4_join_144.2.2.2.2.1 rfl rfl
  refine r_sw1 (fun h17 => ?_) (fun h17 => ?_)
  · refine r_jmp (t := 92) dX4_join_1 rfl (by rw [h17]; rfl) ?_
    refine r_iload_n (x := a1) gX4_join_92.1 rfl ?_
    refine r_if_ne (t := 100) gX4_join_92.2.1 rfl (fun h19 => ?_) (fun h19 => ?_)
    · refine r_iload_n (x := a2) gX4_join_92.2.2.1 rfl ?_
      refine r_if_eq (t := 104) gX4_join_92.2.2.2.1 rfl (fun h18 => ?_) (fun h18 => ?_)
      · refine r_iconst (v := (0 : Int32)) gX4_join_92.2.2.2.2.2.2.1 rfl ?_
        exact r_ireturn gX4_join_92.2.2.2.2.2.2.2.1 rfl rfl
      · exact r_sub (L' := []) sub_n (rb_X4_join_100 hE q)
    · exact r_sub (L' := []) sub_n (rb_X4_join_100 hE q)
  refine r_jmp (t := 189) dX4_join_1 rfl ?_ ?_
  · exact sw_lk rfl (nq_c h1 (nq_c h3 (nq_c h6 (nq_c h7 (nq_c h8 (nq_c h9 (nq_c h11 (nq_c h13 (nq_c h15 (nq_c h17 nq_n)))))))))) rfl
  refine r_iconst (v := (0 : Int32)) gX4_join_188.2.1 rfl ?_
  exact r_ireturn gX4_join_188.2.2.1 rfl rfl
def b_X4_doStep_44 (q : SS) (s0 : Int32) : Option SS :=
  (f_X4_push q s0).bind fun r2 =>
  some r2
theorem rb_X4_doStep_44 {E : EE} (hE : GE E) (q : SS) (s0 : Int32) : R E (κV E) 1 46 44 [] [.int s0, .ref 12] q (b_X4_doStep_44 q s0) := by
  unfold b_X4_doStep_44
  refine r_callV (k := 0) (idx := 45) (y := 48) (as := [.ref 12, .int s0]) (rest := []) (L0 := [(0, .ref 12), (1, .int s0)]) gX4_doStep_30.2.2.2.2.2.2.2.2.1 rfl rfl rfl rfl rfl (vok_v (ob_12 hE) rfl) rfl (r_dep (by decide) (e_X4_push hE q s0)) (fun r2 => ?_)
  refine r_goto (t := 111) gX4_doStep_30.2.2.2.2.2.2.2.2.2.1 rfl ?_
  exact r_return gX4_doStep_94.2.2.2.2.2.2.2.2.2.1 rfl rfl
def b_X4_doStep_43 (q : SS)  : Option SS :=
  b_X4_doStep_44 q (0 : Int32)
theorem rb_X4_doStep_43 {E : EE} (hE : GE E) (q : SS)  : R E (κV E) 1 46 43 [] [.ref 12] q (b_X4_doStep_43 q) := by
  unfold b_X4_doStep_43
  refine r_iconst (v := (0 : Int32)) gX4_doStep_30.2.2.2.2.2.2.2.1 rfl ?_
  exact r_sub (L' := []) sub_n (rb_X4_doStep_44 hE q (0 : Int32))
def b_X4_doStep_87 (q : SS) (s0 : Int32) : Option SS :=
  (f_X4_push q s0).bind fun r8 =>
  some r8
theorem rb_X4_doStep_87 {E : EE} (hE : GE E) (q : SS) (s0 : Int32) : R E (κV E) 1 46 87 [] [.int s0, .ref 12] q (b_X4_doStep_87 q s0) := by
  unfold b_X4_doStep_87
  refine r_callV (k := 0) (idx := 45) (y := 48) (as := [.ref 12, .int s0]) (rest := []) (L0 := [(0, .ref 12), (1, .int s0)]) gX4_doStep_61.2.2.2.2.2.2.2.2.2.2.2.2.2.1 rfl rfl rfl rfl rfl (vok_v (ob_12 hE) rfl) rfl (r_dep (by decide) (e_X4_push hE q s0)) (fun r8 => ?_)
  refine r_goto (t := 111) gX4_doStep_61.2.2.2.2.2.2.2.2.2.2.2.2.2.2.1 rfl ?_
  exact r_return gX4_doStep_94.2.2.2.2.2.2.2.2.2.1 rfl rfl
def f_X4_doStep (q : SS) (a1 : Int32) (a2 : Int32) : Option SS :=
  if a1 = (48 : Int32) then
  ((f_X4_push q a2).bind fun r1 =>
  some r1)
  else
  (if a1 = (110 : Int32) then
  (if a2 < 0 then
  (b_X4_doStep_43 q)
  else
  (if (6 : Int32) ≤ a2 then
  (b_X4_doStep_43 q)
  else
  (if vin a2 6 then
  b_X4_doStep_44 q (q.1 16 a2.toNatClampNeg)
  else none)))
  else
  (if a1 = (126 : Int32) then
  ((f_X4_pop q).bind fun r5 =>
  (f_X4_push r5.2 (-r5.1)).bind fun r6 =>
  some r6)
  else
  (if a1 = (33 : Int32) then
  ((f_X4_pop q).bind fun r7 =>
  if r7.1 = 0 then
  (b_X4_doStep_87 r7.2 (1 : Int32))
  else
  (b_X4_doStep_87 r7.2 (0 : Int32)))
  else
  ((f_X4_pop q).bind fun r10 =>
  (f_X4_pop r10.2).bind fun r11 =>
  (f_X4_join r11.2 a1 r11.1 r10.1).bind fun r12 =>
  (f_X4_push r11.2 r12).bind fun r13 =>
  some r13))))
theorem e_X4_doStep {E : EE} (hE : GE E) (q : SS) (a1 : Int32) (a2 : Int32) : R E (κV E) 1 46 0 [(0, .ref 12), (1, .int a1), (2, .int a2)] [] q (f_X4_doStep q a1 a2) := by
  unfold f_X4_doStep
  refine r_iload_n (x := a1) gX4_doStep_0.1 rfl ?_
  refine r_bipush (v := (48 : Int32)) gX4_doStep_0.2.1 rfl ?_
  refine r_icmp_ne (t := 14) gX4_doStep_0.2.2.1 rfl (fun h17 => ?_) (fun h17 => ?_)
  · refine r_aload_n (x := 12) gX4_doStep_0.2.2.2.1 rfl ?_
    refine r_iload_n (x := a2) gX4_doStep_0.2.2.2.2.1 rfl ?_
    refine r_callV (k := 0) (idx := 45) (y := 48) (as := [.ref 12, .int a2]) (rest := []) (L0 := [(0, .ref 12), (1, .int a2)]) gX4_doStep_0.2.2.2.2.2.1 rfl rfl rfl rfl rfl (vok_v (ob_12 hE) rfl) rfl (r_dep (by decide) (e_X4_push hE q a2)) (fun r1 => ?_)
    refine r_goto (t := 111) gX4_doStep_0.2.2.2.2.2.2.1 rfl ?_
    exact r_return gX4_doStep_94.2.2.2.2.2.2.2.2.2.1 rfl rfl
  · refine r_iload_n (x := a1) gX4_doStep_0.2.2.2.2.2.2.2.1 rfl ?_
    refine r_bipush (v := (110 : Int32)) gX4_doStep_0.2.2.2.2.2.2.2.2.1 rfl ?_
    refine r_icmp_ne (t := 50) gX4_doStep_0.2.2.2.2.2.2.2.2.2.1 rfl (fun h16 => ?_) (fun h16 => ?_)
    · refine r_aload_n (x := 12) gX4_doStep_0.2.2.2.2.2.2.2.2.2.2.1 rfl ?_
      refine r_iload_n (x := a2) gX4_doStep_0.2.2.2.2.2.2.2.2.2.2.2.1 rfl ?_
      refine r_if_lt (t := 43) gX4_doStep_0.2.2.2.2.2.2.2.2.2.2.2.2.1 rfl (fun h4 => ?_) (fun h4 => ?_)
      · exact r_sub (L' := []) sub_n (rb_X4_doStep_43 hE q)
      · refine r_iload_n (x := a2) gX4_doStep_0.2.2.2.2.2.2.2.2.2.2.2.2.2.1 rfl ?_
        refine r_aload_n (x := 12) gX4_doStep_0.2.2.2.2.2.2.2.2.2.2.2.2.2.2.1 rfl ?_
        refine r_getA gX4_doStep_0.2.2.2.2.2.2.2.2.2.2.2.2.2.2.2.1 (fa_4_21_12 hE) ?_
        refine r_len (v := (6 : Int32)) gX4_doStep_30.1 (ar_16 hE) (by decide) rfl ?_
        refine r_icmp_ge (t := 43) gX4_doStep_30.2.1 rfl (fun h3 => ?_) (fun h3 => ?_)
        · exact r_sub (L' := []) sub_n (rb_X4_doStep_43 hE q)
        · refine r_aload_n (x := 12) gX4_doStep_30.2.2.1 rfl ?_
          refine r_getA gX4_doStep_30.2.2.2.1 (fa_4_21_12 hE) ?_
          refine r_iload_n (x := a2) gX4_doStep_30.2.2.2.2.1 rfl ?_
          refine r_iaload gX4_doStep_30.2.2.2.2.2.1 (ar_16 hE) ?_
          refine r_goto (t := 44) gX4_doStep_30.2.2.2.2.2.2.1 rfl ?_
          exact r_sub (L' := []) sub_n (rb_X4_doStep_44 hE q (q.1 16 a2.toNatClampNeg))
    · refine r_iload_n (x := a1) gX4_doStep_30.2.2.2.2.2.2.2.2.2.2.1 rfl ?_
      refine r_bipush (v := (126 : Int32)) gX4_doStep_30.2.2.2.2.2.2.2.2.2.2.2.1 rfl ?_
      refine r_icmp_ne (t := 68) gX4_doStep_30.2.2.2.2.2.2.2.2.2.2.2.2.1 rfl (fun h15 => ?_) (fun h15 => ?_)
      · refine r_aload_n (x := 12) gX4_doStep_30.2.2.2.2.2.2.2.2.2.2.2.2.2.1 rfl ?_
        refine r_aload_n (x := 12) gX4_doStep_30.2.2.2.2.2.2.2.2.2.2.2.2.2.2.1 rfl ?_
        refine r_callI (k := 0) (idx := 37) (y := 49) (as := [.ref 12]) (rest := [.ref 12]) (L0 := [(0, .ref 12)]) gX4_doStep_30.2.2.2.2.2.2.2.2.2.2.2.2.2.2.2.1 rfl rfl rfl rfl rfl (vok_v (ob_12 hE) rfl) rfl (r_dep (by decide) (e_X4_pop hE q)) (fun r5 => ?_)
        refine r_ineg gX4_doStep_61.1 ?_
        refine r_callV (k := 0) (idx := 45) (y := 48) (as := [.ref 12, .int (-r5.1)]) (rest := []) (L0 := [(0, .ref 12), (1, .int (-r5.1))]) gX4_doStep_61.2.1 rfl rfl rfl rfl rfl (vok_v (ob_12 hE) rfl) rfl (r_dep (by decide) (e_X4_push hE r5.2 (-r5.1))) (fun r6 => ?_)
        refine r_goto (t := 111) gX4_doStep_61.2.2.1 rfl ?_
        exact r_return gX4_doStep_94.2.2.2.2.2.2.2.2.2.1 rfl rfl
      · refine r_iload_n (x := a1) gX4_doStep_61.2.2.2.1 rfl ?_
        refine r_bipush (v := (33 : Int32)) gX4_doStep_61.2.2.2.2.1 rfl ?_
        refine r_icmp_ne (t := 93) gX4_doStep_61.2.2.2.2.2.1 rfl (fun h14 => ?_) (fun h14 => ?_)
        · refine r_aload_n (x := 12) gX4_doStep_61.2.2.2.2.2.2.1 rfl ?_
          refine r_aload_n (x := 12) gX4_doStep_61.2.2.2.2.2.2.2.1 rfl ?_
          refine r_callI (k := 0) (idx := 37) (y := 49) (as := [.ref 12]) (rest := [.ref 12]) (L0 := [(0, .ref 12)]) gX4_doStep_61.2.2.2.2.2.2.2.2.1 rfl rfl rfl rfl rfl (vok_v (ob_12 hE) rfl) rfl (r_dep (by decide) (e_X4_pop hE q)) (fun r7 => ?_)
          refine r_if_ne (t := 86) gX4_doStep_61.2.2.2.2.2.2.2.2.2.1 rfl (fun h9 => ?_) (fun h9 => ?_)
          · refine r_iconst (v := (1 : Int32)) gX4_doStep_61.2.2.2.2.2.2.2.2.2.2.1 rfl ?_
            refine r_goto (t := 87) gX4_doStep_61.2.2.2.2.2.2.2.2.2.2.2.1 rfl ?_
            exact r_sub (L' := []) sub_n (rb_X4_doStep_87 hE r7.2 (1 : Int32))
          · refine r_iconst (v := (0 : Int32)) gX4_doStep_61.2.2.2.2.2.2.2.2.2.2.2.2.1 rfl ?_
            exact r_sub (L' := []) sub_n (rb_X4_doStep_87 hE r7.2 (0 : Int32))
        · refine r_aload_n (x := 12) gX4_doStep_61.2.2.2.2.2.2.2.2.2.2.2.2.2.2.2.1 rfl ?_
          refine r_callI (k := 0) (idx := 37) (y := 49) (as := [.ref 12]) (rest := []) (L0 := [(0, .ref 12)]) gX4_doStep_94.1 rfl rfl rfl rfl rfl (vok_v (ob_12 hE) rfl) rfl (r_dep (by decide) (e_X4_pop hE q)) (fun r10 => ?_)
          refine r_istore_n (L2 := [(0, .ref 12), (1, .int a1), (2, .int a2), (3, .int r10.1)]) gX4_doStep_94.2.1 rfl rfl ?_
          refine r_aload_n (x := 12) gX4_doStep_94.2.2.1 rfl ?_
          refine r_iload_n (x := a1) gX4_doStep_94.2.2.2.1 rfl ?_
          refine r_aload_n (x := 12) gX4_doStep_94.2.2.2.2.1 rfl ?_
          refine r_callI (k := 0) (idx := 37) (y := 49) (as := [.ref 12]) (rest := [.int a1, .ref 12]) (L0 := [(0, .ref 12)]) gX4_doStep_94.2.2.2.2.2.1 rfl rfl rfl rfl rfl (vok_v (ob_12 hE) rfl) rfl (r_dep (by decide) (e_X4_pop hE r10.2)) (fun r11 => ?_)
          refine r_iload_n (x := r10.1) gX4_doStep_94.2.2.2.2.2.2.1 rfl ?_
          refine r_calli (k := 2) (idx := 49) (y := 47) (as := [.int a1, .int r11.1, .int r10.1]) (rest := [.ref 12]) (L0 := [(0, .int a1), (1, .int r11.1), (2, .int r10.1)]) gX4_doStep_94.2.2.2.2.2.2.2.1 rfl rfl rfl rfl rfl vok_s rfl (r_dep (by decide) (e_X4_join hE r11.2 a1 r11.1 r10.1)) (fun r12 => ?_)
          refine r_callV (k := 0) (idx := 45) (y := 48) (as := [.ref 12, .int r12]) (rest := []) (L0 := [(0, .ref 12), (1, .int r12)]) gX4_doStep_94.2.2.2.2.2.2.2.2.1 rfl rfl rfl rfl rfl (vok_v (ob_12 hE) rfl) rfl (r_dep (by decide) (e_X4_push hE r11.2 r12)) (fun r13 => ?_)
          exact r_return gX4_doStep_94.2.2.2.2.2.2.2.2.2.1 rfl rfl

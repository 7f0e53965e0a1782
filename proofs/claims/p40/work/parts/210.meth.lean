def f_X11_odds (q : SS) (a1 : Int32) : Option (Int32 × SS) :=
  (f_X10_isSlipping q a1).bind fun r1 =>
  if r1 = 0 then
  (some ((-1 : Int32), q))
  else
  ((f_X11_now q).bind fun r2 =>
  (f_X8_oddsOf r2 (jshr a1 (3 : Int32)) (a1 &&& (7 : Int32))).bind fun r3 =>
  some (r3.1, r3.2))
theorem e_X11_odds {E : EE} (hE : GE E) (q : SS) (a1 : Int32) : R E (κI E) 5 147 0 [(0, .ref 0), (1, .int a1)] [] q (f_X11_odds q a1) := by
  unfold f_X11_odds
  refine r_aload_n (x := 0) gX11_odds_0.1 rfl ?_
  refine r_getA gX11_odds_0.2.1 (fa_11_10_0 hE) ?_
  refine r_iload_n (x := a1) gX11_odds_0.2.2.1 rfl ?_
  refine r_calli (k := 0) (idx := 171) (y := 130) (as := [.ref 1, .int a1]) (rest := []) (L0 := [(0, .ref 1), (1, .int a1)]) gX11_odds_0.2.2.2.1 rfl rfl rfl rfl rfl (vok_v (ob_1 hE) rfl) rfl (r_dep (by decide) (e_X10_isSlipping hE q a1)) (fun r1 => ?_)
  refine r_if_eq (t := 28) gX11_odds_0.2.2.2.2.1 rfl (fun h4 => ?_) (fun h4 => ?_)
  · refine r_iconst (v := (-1 : Int32)) gX11_odds_0.2.2.2.2.2.2.2.2.2.2.2.2.2.2.2.1 rfl ?_
    exact r_ireturn gX11_odds_29.1 rfl rfl
  · refine r_aload_n (x := 0) gX11_odds_0.2.2.2.2.2.1 rfl ?_
    refine r_callA (k := 0) (idx := 143) (y := 148) (as := [.ref 0]) (rest := []) (L0 := [(0, .ref 0)]) gX11_odds_0.2.2.2.2.2.2.1 rfl rfl rfl rfl rfl (vok_v (ob_0 hE) rfl) rfl (r_dep (by decide) (e_X11_now hE q)) (fun r2 => ?_)
    refine r_iload_n (x := a1) gX11_odds_0.2.2.2.2.2.2.2.1 rfl ?_
    refine r_iconst (v := (3 : Int32)) gX11_odds_0.2.2.2.2.2.2.2.2.1 rfl ?_
    refine r_ishr gX11_odds_0.2.2.2.2.2.2.2.2.2.1 ?_
    refine r_iload_n (x := a1) gX11_odds_0.2.2.2.2.2.2.2.2.2.2.1 rfl ?_
    refine r_bipush (v := (7 : Int32)) gX11_odds_0.2.2.2.2.2.2.2.2.2.2.2.1 rfl ?_
    refine r_iand gX11_odds_0.2.2.2.2.2.2.2.2.2.2.2.2.1 ?_
    refine r_callI (k := 0) (idx := 174) (y := 109) (as := [.ref 24, .int (jshr a1 (3 : Int32)), .int (a1 &&& (7 : Int32))]) (rest := []) (L0 := [(0, .ref 24), (1, .int (jshr a1 (3 : Int32))), (2, .int (a1 &&& (7 : Int32)))]) gX11_odds_0.2.2.2.2.2.2.2.2.2.2.2.2.2.1 rfl rfl rfl rfl rfl (vok_v (ob_24 hE) rfl) rfl (r_dep (by decide) (e_X8_oddsOf hE r2 (jshr a1 (3 : Int32)) (a1 &&& (7 : Int32)))) (fun r3 => ?_)
    refine r_goto (t := 29) gX11_odds_0.2.2.2.2.2.2.2.2.2.2.2.2.2.2.1 rfl ?_
    exact r_ireturn gX11_odds_29.1 rfl rfl
def f_X12_odds (q : SS) (a1 : Int32) : Option (Int32 × SS) :=
  (f_X12_areSlip q a1).bind fun r1 =>
  if r1 = 0 then
  (some ((-1 : Int32), q))
  else
  ((f_X12_layNow q).bind fun r2 =>
  (f_X12_oddsOf r2 (a1 / (8 : Int32)) (jrem a1 (8 : Int32))).bind fun r3 =>
  some (r3.1, r3.2))
theorem e_X12_odds {E : EE} (hE : GE E) (q : SS) (a1 : Int32) : R E (κI E) 4 233 0 [(0, .ref 60), (1, .int a1)] [] q (f_X12_odds q a1) := by
  unfold f_X12_odds
  refine r_aload_n (x := 60) gX12_odds_0.1 rfl ?_
  refine r_iload_n (x := a1) gX12_odds_0.2.1 rfl ?_
  refine r_calli (k := 0) (idx := 257) (y := 232) (as := [.ref 60, .int a1]) (rest := []) (L0 := [(0, .ref 60), (1, .int a1)]) gX12_odds_0.2.2.1 rfl rfl rfl rfl rfl (vok_v (ob_60 hE) rfl) rfl (r_dep (by decide) (e_X12_areSlip hE q a1)) (fun r1 => ?_)
  refine r_if_ne (t := 10) gX12_odds_0.2.2.2.1 rfl (fun h4 => ?_) (fun h4 => ?_)
  · refine r_iconst (v := (-1 : Int32)) gX12_odds_0.2.2.2.2.1 rfl ?_
    exact r_ireturn gX12_odds_0.2.2.2.2.2.1 rfl rfl
  · refine r_aload_n (x := 60) gX12_odds_0.2.2.2.2.2.2.1 rfl ?_
    refine r_callV (k := 0) (idx := 168) (y := 226) (as := [.ref 60]) (rest := []) (L0 := [(0, .ref 60)]) gX12_odds_0.2.2.2.2.2.2.2.1 rfl rfl rfl rfl rfl (vok_v (ob_60 hE) rfl) rfl (r_dep (by decide) (e_X12_layNow hE q)) (fun r2 => ?_)
    refine r_aload_n (x := 60) gX12_odds_0.2.2.2.2.2.2.2.2.1 rfl ?_
    refine r_iload_n (x := a1) gX12_odds_0.2.2.2.2.2.2.2.2.2.1 rfl ?_
    refine r_bipush (v := (8 : Int32)) gX12_odds_0.2.2.2.2.2.2.2.2.2.2.1 rfl ?_
    refine r_idivC gX12_odds_0.2.2.2.2.2.2.2.2.2.2.2.1 (by decide) ?_
    refine r_iload_n (x := a1) gX12_odds_0.2.2.2.2.2.2.2.2.2.2.2.2.1 rfl ?_
    refine r_bipush (v := (8 : Int32)) gX12_odds_0.2.2.2.2.2.2.2.2.2.2.2.2.2.1 rfl ?_
    refine r_iremC gX12_odds_0.2.2.2.2.2.2.2.2.2.2.2.2.2.2.1 (by decide) ?_
    refine r_callI (k := 0) (idx := 260) (y := 231) (as := [.ref 60, .int (a1 / (8 : Int32)), .int (jrem a1 (8 : Int32))]) (rest := []) (L0 := [(0, .ref 60), (1, .int (a1 / (8 : Int32))), (2, .int (jrem a1 (8 : Int32)))]) gX12_odds_0.2.2.2.2.2.2.2.2.2.2.2.2.2.2.2.1 rfl rfl rfl rfl rfl (vok_v (ob_60 hE) rfl) rfl (r_dep (by decide) (e_X12_oddsOf hE r2 (a1 / (8 : Int32)) (jrem a1 (8 : Int32)))) (fun r3 => ?_)
    exact r_ireturn gX12_odds_26.1 rfl rfl
def f_X4_clear (q : SS)  : Option SS :=
  nm (sI q 19 4 (0 : Int32)) fun q1 =>
  some q1
theorem e_X4_clear {E : EE} (hE : GE E) (q : SS)  : R E (κV E) 0 42 0 [(0, .ref 19)] [] q (f_X4_clear q) := by
  unfold f_X4_clear
  refine r_aload_n (x := 19) gX4_clear_0.1 rfl ?_
  refine r_iconst (v := (0 : Int32)) gX4_clear_0.2.1 rfl ?_
  refine r_putI gX4_clear_0.2.2.1 (ff_4_24_19 hE) ?_
  refine r_nmS fun q1 _ => ?_
  exact r_return gX4_clear_0.2.2.2.1 rfl rfl
def f_X5_next (q : SS)  : Option Int32 :=
  if (q.1 17 3) < 0 then
  (some (-1 : Int32))
  else
  (if (q.1 17 2) ≤ (q.1 17 3) then
  (some (-1 : Int32))
  else
  (if (120 : Int32) ≤ (q.1 17 3) then
  (some (-1 : Int32))
  else
  (if vin (q.1 17 3) 120 then
  some (q.1 18 (q.1 17 3).toNatClampNeg)
  else none)))
theorem e_X5_next {E : EE} (hE : GE E) (q : SS)  : R E (κi E q) 0 56 0 [(0, .ref 17)] [] q (f_X5_next q) := by
  unfold f_X5_next
  refine r_aload_n (x := 17) gX5_next_0.1 rfl ?_
  refine r_getI gX5_next_0.2.1 (ff_5_26_17 hE) (by decide) ?_
  refine r_if_lt (t := 39) gX5_next_0.2.2.1 rfl (fun h3 => ?_) (fun h3 => ?_)
  · refine r_iconst (v := (-1 : Int32)) gX5_next_35.2.2.1 rfl ?_
    exact r_ireturn gX5_next_35.2.2.2.1 rfl rfl
  · refine r_aload_n (x := 17) gX5_next_0.2.2.2.1 rfl ?_
    refine r_getI gX5_next_0.2.2.2.2.1 (ff_5_26_17 hE) (by decide) ?_
    refine r_aload_n (x := 17) gX5_next_0.2.2.2.2.2.1 rfl ?_
    refine r_getI gX5_next_0.2.2.2.2.2.2.1 (ff_5_22_17 hE) (by decide) ?_
    refine r_icmp_ge (t := 39) gX5_next_0.2.2.2.2.2.2.2.1 rfl (fun h2 => ?_) (fun h2 => ?_)
    · refine r_iconst (v := (-1 : Int32)) gX5_next_35.2.2.1 rfl ?_
      exact r_ireturn gX5_next_35.2.2.2.1 rfl rfl
    · refine r_aload_n (x := 17) gX5_next_0.2.2.2.2.2.2.2.2.1 rfl ?_
      refine r_getI gX5_next_0.2.2.2.2.2.2.2.2.2.1 (ff_5_26_17 hE) (by decide) ?_
      refine r_bipush (v := (120 : Int32)) gX5_next_0.2.2.2.2.2.2.2.2.2.2.1 rfl ?_
      refine r_icmp_ge (t := 39) gX5_next_0.2.2.2.2.2.2.2.2.2.2.2.1 rfl (fun h1 => ?_) (fun h1 => ?_)
      · refine r_iconst (v := (-1 : Int32)) gX5_next_35.2.2.1 rfl ?_
        exact r_ireturn gX5_next_35.2.2.2.1 rfl rfl
      · refine r_aload_n (x := 17) gX5_next_0.2.2.2.2.2.2.2.2.2.2.2.2.1 rfl ?_
        refine r_getA gX5_next_0.2.2.2.2.2.2.2.2.2.2.2.2.2.1 (fa_5_11_17 hE) ?_
        refine r_aload_n (x := 17) gX5_next_0.2.2.2.2.2.2.2.2.2.2.2.2.2.2.1 rfl ?_
        refine r_getI gX5_next_0.2.2.2.2.2.2.2.2.2.2.2.2.2.2.2.1 (ff_5_26_17 hE) (by decide) ?_
        refine r_iaload gX5_next_35.1 (ar_18 hE) ?_
        refine r_goto (t := 40) gX5_next_35.2.1 rfl ?_
        exact r_ireturn gX5_next_35.2.2.2.1 rfl rfl
def f_X5_nameOf (q : SS) (a0 : Int32) : Option Int32 :=
  sw a0 [(98, (some (1 : Int32))), (102, (some (3 : Int32))), (104, (some (4 : Int32))), (110, (some (2 : Int32))), (115, (some (5 : Int32))), (119, (some (0 : Int32)))]
  (some (-1 : Int32))
theorem e_X5_nameOf {E : EE} (hE : GE E) (q : SS) (a0 : Int32) : R E (κi E q) 0 65 0 [(0, .int a0)] [] q (f_X5_nameOf q a0) := by
  unfold f_X5_nameOf
  refine r_iload_n (x := a0) gX5_nameOf_0.1 rfl ?_
  refine r_sw1 (fun h1 => ?_) (fun h1 => ?_)
  · refine r_jmp (t := 62) dX5_nameOf_1 rfl (by rw [h1]; rfl) ?_
    refine r_iconst (v := (1 : Int32)) gX5_nameOf_60.2.2.1 rfl ?_
    exact r_ireturn gX5_nameOf_60.2.2.2.1 rfl rfl
  refine r_sw1 (fun h2 => ?_) (fun h2 => ?_)
  · refine r_jmp (t := 66) dX5_nameOf_1 rfl (by rw [h2]; rfl) ?_
    refine r_iconst (v := (3 : Int32)) gX5_nameOf_60.2.2.2.2.2.2.1 rfl ?_
    exact r_ireturn gX5_nameOf_60.2.2.2.2.2.2.2.1 rfl rfl
  refine r_sw1 (fun h3 => ?_) (fun h3 => ?_)
  · refine r_jmp (t := 68) dX5_nameOf_1 rfl (by rw [h3]; rfl) ?_
    refine r_iconst (v := (4 : Int32)) gX5_nameOf_60.2.2.2.2.2.2.2.2.1 rfl ?_
    exact r_ireturn gX5_nameOf_60.2.2.2.2.2.2.2.2.2.1 rfl rfl
  refine r_sw1 (fun h4 => ?_) (fun h4 => ?_)
  · refine r_jmp (t := 64) dX5_nameOf_1 rfl (by rw [h4]; rfl) ?_
    refine r_iconst (v := (2 : Int32)) gX5_nameOf_60.2.2.2.2.1 rfl ?_
    exact r_ireturn gX5_nameOf_60.2.2.2.2.2.1 rfl rfl
  refine r_sw1 (fun h5 => ?_) (fun h5 => ?_)
  · refine r_jmp (t := 70) dX5_nameOf_1 rfl (by rw [h5]; rfl) ?_
    refine r_iconst (v := (5 : Int32)) gX5_nameOf_60.2.2.2.2.2.2.2.2.2.2.1 rfl ?_
    exact r_ireturn gX5_nameOf_60.2.2.2.2.2.2.2.2.2.2.2.1 rfl rfl
  refine r_sw1 (fun h6 => ?_) (fun h6 => ?_)
  · refine r_jmp (t := 60) dX5_nameOf_1 rfl (by rw [h6]; rfl) ?_
    refine r_iconst (v := (0 : Int32)) gX5_nameOf_60.1 rfl ?_
    exact r_ireturn gX5_nameOf_60.2.1 rfl rfl
  refine r_jmp (t := 72) dX5_nameOf_1 rfl ?_ ?_
  · exact sw_lk rfl (nq_c h1 (nq_c h2 (nq_c h3 (nq_c h4 (nq_c h5 (nq_c h6 nq_n)))))) rfl
  refine r_iconst (v := (-1 : Int32)) gX5_nameOf_60.2.2.2.2.2.2.2.2.2.2.2.2.1 rfl ?_
  exact r_ireturn gX5_nameOf_60.2.2.2.2.2.2.2.2.2.2.2.2.2.1 rfl rfl
def f_X5_isDigit (q : SS) (a0 : Int32) : Option Int32 :=
  if a0 < (48 : Int32) then
  (some (0 : Int32))
  else
  (if (57 : Int32) < a0 then
  (some (0 : Int32))
  else
  (some (1 : Int32)))
theorem e_X5_isDigit {E : EE} (hE : GE E) (q : SS) (a0 : Int32) : R E (κi E q) 0 64 0 [(0, .int a0)] [] q (f_X5_isDigit q a0) := by
  unfold f_X5_isDigit
  refine r_iload_n (x := a0) gX5_isDigit_0.1 rfl ?_
  refine r_bipush (v := (48 : Int32)) gX5_isDigit_0.2.1 rfl ?_
  refine r_icmp_lt (t := 16) gX5_isDigit_0.2.2.1 rfl (fun h2 => ?_) (fun h2 => ?_)
  · refine r_iconst (v := (0 : Int32)) gX5_isDigit_0.2.2.2.2.2.2.2.2.1 rfl ?_
    exact r_ireturn gX5_isDigit_0.2.2.2.2.2.2.2.2.2.1 rfl rfl
  · refine r_iload_n (x := a0) gX5_isDigit_0.2.2.2.1 rfl ?_
    refine r_bipush (v := (57 : Int32)) gX5_isDigit_0.2.2.2.2.1 rfl ?_
    refine r_icmp_gt (t := 16) gX5_isDigit_0.2.2.2.2.2.1 rfl (fun h1 => ?_) (fun h1 => ?_)
    · refine r_iconst (v := (0 : Int32)) gX5_isDigit_0.2.2.2.2.2.2.2.2.1 rfl ?_
      exact r_ireturn gX5_isDigit_0.2.2.2.2.2.2.2.2.2.1 rfl rfl
    · refine r_iconst (v := (1 : Int32)) gX5_isDigit_0.2.2.2.2.2.2.1 rfl ?_
      refine r_goto (t := 17) gX5_isDigit_0.2.2.2.2.2.2.2.1 rfl ?_
      exact r_ireturn gX5_isDigit_0.2.2.2.2.2.2.2.2.2.1 rfl rfl
def f_X4_addStep (q : SS) (a1 : Int32) (a2 : Int32) : Option SS :=
  if (121 : Int32) ≤ (q.1 19 4) then
  (some q)
  else
  (if vin (q.1 19 4) 121 then
  nm (sI q 20 (q.1 19 4).toNatClampNeg a1) fun q1 =>
  if vin (q1.1 19 4) 121 then
  nm (sI q1 21 (q1.1 19 4).toNatClampNeg a2) fun q2 =>
  nm (sI q2 19 4 ((q2.1 19 4) + (1 : Int32))) fun q3 =>
  some q3
  else none
  else none)
theorem e_X4_addStep {E : EE} (hE : GE E) (q : SS) (a1 : Int32) (a2 : Int32) : R E (κV E) 0 43 0 [(0, .ref 19), (1, .int a1), (2, .int a2)] [] q (f_X4_addStep q a1 a2) := by
  unfold f_X4_addStep
  refine r_aload_n (x := 19) gX4_addStep_0.1 rfl ?_
  refine r_getI gX4_addStep_0.2.1 (ff_4_24_19 hE) (by decide) ?_
  refine r_bipush (v := (121 : Int32)) gX4_addStep_0.2.2.1 rfl ?_
  refine r_icmp_ge (t := 39) gX4_addStep_0.2.2.2.1 rfl (fun h4 => ?_) (fun h4 => ?_)
  · exact r_return gX4_addStep_29.2.2.2.2.2.2.1 rfl rfl
  · refine r_aload_n (x := 19) gX4_addStep_0.2.2.2.2.1 rfl ?_
    refine r_getA gX4_addStep_0.2.2.2.2.2.1 (fa_4_11_19 hE) ?_
    refine r_aload_n (x := 19) gX4_addStep_0.2.2.2.2.2.2.1 rfl ?_
    refine r_getI gX4_addStep_0.2.2.2.2.2.2.2.1 (ff_4_24_19 hE) (by decide) ?_
    refine r_iload_n (x := a1) gX4_addStep_0.2.2.2.2.2.2.2.2.1 rfl ?_
    refine r_iastore gX4_addStep_0.2.2.2.2.2.2.2.2.2.1 (ar_20 hE) ?_
    refine r_nmS fun q1 _ => ?_
    refine r_aload_n (x := 19) gX4_addStep_0.2.2.2.2.2.2.2.2.2.2.1 rfl ?_
    refine r_getA gX4_addStep_0.2.2.2.2.2.2.2.2.2.2.2.1 (fa_4_15_19 hE) ?_
    refine r_aload_n (x := 19) gX4_addStep_0.2.2.2.2.2.2.2.2.2.2.2.2.1 rfl ?_
    refine r_getI gX4_addStep_0.2.2.2.2.2.2.2.2.2.2.2.2.2.1 (ff_4_24_19 hE) (by decide) ?_
    refine r_iload_n (x := a2) gX4_addStep_0.2.2.2.2.2.2.2.2.2.2.2.2.2.2.1 rfl ?_
    refine r_iastore gX4_addStep_0.2.2.2.2.2.2.2.2.2.2.2.2.2.2.2.1 (ar_21 hE) ?_
    refine r_nmS fun q2 _ => ?_
    refine r_aload_n (x := 19) gX4_addStep_29.1 rfl ?_
    refine r_dup gX4_addStep_29.2.1 rfl ?_
    refine r_getI gX4_addStep_29.2.2.1 (ff_4_24_19 hE) (by decide) ?_
    refine r_iconst (v := (1 : Int32)) gX4_addStep_29.2.2.2.1 rfl ?_
    refine r_iadd gX4_addStep_29.2.2.2.2.1 ?_
    refine r_putI gX4_addStep_29.2.2.2.2.2.1 (ff_4_24_19 hE) ?_
    refine r_nmS fun q3 _ => ?_
    exact r_return gX4_addStep_29.2.2.2.2.2.2.1 rfl rfl
def b_X5_readNumber_48 (q : SS) (l1 : Int32) : Option SS :=
  (f_X4_addStep q (48 : Int32) l1).bind fun r1 =>
  some r1
theorem rb_X5_readNumber_48 {E : EE} (hE : GE E) (q : SS) (l1 : Int32) : R E (κV E) 1 63 48 [(0, .ref 17), (1, .int l1)] [] q (b_X5_readNumber_48 q l1) := by
  unfold b_X5_readNumber_48
  refine r_aload_n (x := 17) gX5_readNumber_27.2.2.2.2.2.2.2.2.2.2.2.2.1 rfl ?_
  refine r_getA gX5_readNumber_27.2.2.2.2.2.2.2.2.2.2.2.2.2.1 (fa_5_18_17 hE) ?_
  refine r_bipush (v := (48 : Int32)) gX5_readNumber_27.2.2.2.2.2.2.2.2.2.2.2.2.2.2.1 rfl ?_
  refine r_iload_n (x := l1) gX5_readNumber_27.2.2.2.2.2.2.2.2.2.2.2.2.2.2.2.1 rfl ?_
  refine r_callV (k := 0) (idx := 44) (y := 43) (as := [.ref 19, .int (48 : Int32), .int l1]) (rest := []) (L0 := [(0, .ref 19), (1, .int (48 : Int32)), (2, .int l1)]) gX5_readNumber_55.1 rfl rfl rfl rfl rfl (vok_v (ob_19 hE) rfl) rfl (r_dep (by decide) (e_X4_addStep hE q (48 : Int32) l1)) (fun r1 => ?_)
  exact r_return gX5_readNumber_55.2.1 rfl rfl
def b_X5_readNumber_4 : SS → Int32 → Int32 → Option SS :=
  fx3 (fun (rec_4 : SS → Int32 → Int32 → Option SS) (q : SS) (l1 : Int32) (l2 : Int32) =>
  if (4 : Int32) ≤ l2 then
  (b_X5_readNumber_48 q l1)
  else
  ((f_X5_next q).bind fun r2 =>
  (f_X5_isDigit q r2).bind fun r3 =>
  if r3 = 0 then
  (b_X5_readNumber_48 q l1)
  else
  ((f_X5_next q).bind fun r4 =>
  nm ((((10 : Int32) * l1) + r4) - (48 : Int32)) fun v5 =>
  nm (sI q 17 3 ((q.1 17 3) + (1 : Int32))) fun q6 =>
  rec_4 q6 v5 (l2 + (1 : Int32))))) FU
theorem rb_X5_readNumber_4 {E : EE} (hE : GE E) (q : SS) (l1 : Int32) (l2 : Int32) : R E (κV E) 1 63 4 [(0, .ref 17), (1, .int l1), (2, .int l2)] [] q (b_X5_readNumber_4 q l1 l2) := by
  unfold b_X5_readNumber_4
  refine fx3_ok (P := fun q l1 l2 o => R E (κV E) 1 63 4 [(0, .ref 17), (1, .int l1), (2, .int l2)] [] q o) (fun _ _ _ => r_no) (fun rec_4 hrec_4 q l1 l2 => ?_) _ _ _ _
  refine r_iload_n (x := l2) gX5_readNumber_0.2.2.2.2.1 rfl ?_
  refine r_iconst (v := (4 : Int32)) gX5_readNumber_0.2.2.2.2.2.1 rfl ?_
  refine r_icmp_ge (t := 48) gX5_readNumber_0.2.2.2.2.2.2.1 rfl (fun h8 => ?_) (fun h8 => ?_)
  · exact r_sub (L' := [(0, .ref 17), (1, .int l1)]) (sub_c rfl (sub_c rfl sub_n)) (rb_X5_readNumber_48 hE q l1)
  · refine r_aload_n (x := 17) gX5_readNumber_0.2.2.2.2.2.2.2.1 rfl ?_
    refine r_calli (k := 0) (idx := 36) (y := 56) (as := [.ref 17]) (rest := []) (L0 := [(0, .ref 17)]) gX5_readNumber_0.2.2.2.2.2.2.2.2.1 rfl rfl rfl rfl rfl (vok_v (ob_17 hE) rfl) rfl (r_dep (by decide) (e_X5_next hE q)) (fun r2 => ?_)
    refine r_calli (k := 2) (idx := 59) (y := 64) (as := [.int r2]) (rest := []) (L0 := [(0, .int r2)]) gX5_readNumber_0.2.2.2.2.2.2.2.2.2.1 rfl rfl rfl rfl rfl vok_s rfl (r_dep (by decide) (e_X5_isDigit hE q r2)) (fun r3 => ?_)
    refine r_if_eq (t := 48) gX5_readNumber_0.2.2.2.2.2.2.2.2.2.2.1 rfl (fun h7 => ?_) (fun h7 => ?_)
    · exact r_sub (L' := [(0, .ref 17), (1, .int l1)]) (sub_c rfl (sub_c rfl sub_n)) (rb_X5_readNumber_48 hE q l1)
    · refine r_bipush (v := (10 : Int32)) gX5_readNumber_0.2.2.2.2.2.2.2.2.2.2.2.1 rfl ?_
      refine r_iload_n (x := l1) gX5_readNumber_0.2.2.2.2.2.2.2.2.2.2.2.2.1 rfl ?_
      refine r_imul gX5_readNumber_0.2.2.2.2.2.2.2.2.2.2.2.2.2.1 ?_
      refine r_aload_n (x := 17) gX5_readNumber_0.2.2.2.2.2.2.2.2.2.2.2.2.2.2.1 rfl ?_
      refine r_calli (k := 0) (idx := 36) (y := 56) (as := [.ref 17]) (rest := [.int ((10 : Int32) * l1)]) (L0 := [(0, .ref 17)]) gX5_readNumber_0.2.2.2.2.2.2.2.2.2.2.2.2.2.2.2.1 rfl rfl rfl rfl rfl (vok_v (ob_17 hE) rfl) rfl (r_dep (by decide) (e_X5_next hE q)) (fun r4 => ?_)
      refine r_iadd gX5_readNumber_27.1 ?_
      refine r_bipush (v := (48 : Int32)) gX5_readNumber_27.2.1 rfl ?_
      refine r_isub gX5_readNumber_27.2.2.1 ?_
      refine r_nmI fun v5 _ => ?_
      refine r_istore_n (L2 := [(0, .ref 17), (1, .int v5), (2, .int l2)]) gX5_readNumber_27.2.2.2.1 rfl rfl ?_
      refine r_aload_n (x := 17) gX5_readNumber_27.2.2.2.2.1 rfl ?_
      refine r_dup gX5_readNumber_27.2.2.2.2.2.1 rfl ?_
      refine r_getI gX5_readNumber_27.2.2.2.2.2.2.1 (ff_5_26_17 hE) (by decide) ?_
      refine r_iconst (v := (1 : Int32)) gX5_readNumber_27.2.2.2.2.2.2.2.1 rfl ?_
      refine r_iadd gX5_readNumber_27.2.2.2.2.2.2.2.2.1 ?_
      refine r_putI gX5_readNumber_27.2.2.2.2.2.2.2.2.2.1 (ff_5_26_17 hE) ?_
      refine r_nmS fun q6 _ => ?_
      refine r_iinc (x := l2) (v := (l2 + (1 : Int32))) (L2 := [(0, .ref 17), (1, .int v5), (2, .int (l2 + (1 : Int32)))]) gX5_readNumber_27.2.2.2.2.2.2.2.2.2.2.1 rfl rfl rfl rfl ?_
      refine r_goto (t := 4) gX5_readNumber_27.2.2.2.2.2.2.2.2.2.2.2.1 rfl ?_
      exact r_sub (L' := [(0, .ref 17), (1, .int v5), (2, .int (l2 + (1 : Int32)))]) (sub_c rfl (sub_c rfl (sub_c rfl sub_n))) (hrec_4 q6 v5 (l2 + (1 : Int32)))
def f_X5_readNumber (q : SS)  : Option SS :=
  b_X5_readNumber_4 q (0 : Int32) (0 : Int32)
theorem e_X5_readNumber {E : EE} (hE : GE E) (q : SS)  : R E (κV E) 1 63 0 [(0, .ref 17)] [] q (f_X5_readNumber q) := by
  unfold f_X5_readNumber
  refine r_iconst (v := (0 : Int32)) gX5_readNumber_0.1 rfl ?_
  refine r_istore_n (L2 := [(0, .ref 17), (1, .int (0 : Int32))]) gX5_readNumber_0.2.1 rfl rfl ?_
  refine r_iconst (v := (0 : Int32)) gX5_readNumber_0.2.2.1 rfl ?_
  refine r_istore_n (L2 := [(0, .ref 17), (1, .int (0 : Int32)), (2, .int (0 : Int32))]) gX5_readNumber_0.2.2.2.1 rfl rfl ?_
  exact r_sub (L' := [(0, .ref 17), (1, .int (0 : Int32)), (2, .int (0 : Int32))]) (sub_c rfl (sub_c rfl (sub_c rfl sub_n))) (rb_X5_readNumber_4 hE q (0 : Int32) (0 : Int32))
def f_X5_levelOf (q : SS) (a0 : Int32) : Option Int32 :=
  sw a0 [(37, (some (5 : Int32))), (38, (some (2 : Int32))), (42, (some (5 : Int32))), (43, (some (4 : Int32))), (45, (some (4 : Int32))), (47, (some (5 : Int32))), (60, (some (3 : Int32))), (61, (some (3 : Int32))), (62, (some (3 : Int32))), (124, (some (1 : Int32)))]
  (some (0 : Int32))
theorem e_X5_levelOf {E : EE} (hE : GE E) (q : SS) (a0 : Int32) : R E (κi E q) 0 59 0 [(0, .int a0)] [] q (f_X5_levelOf q a0) := by
  unfold f_X5_levelOf
  refine r_iload_n (x := a0) gX5_levelOf_0.1 rfl ?_
  refine r_sw1 (fun h1 => ?_) (fun h1 => ?_)
  · refine r_jmp (t := 100) dX5_levelOf_1 rfl (by rw [h1]; rfl) ?_
    refine r_iconst (v := (5 : Int32)) gX5_levelOf_92.2.2.2.2.2.2.2.2.1 rfl ?_
    exact r_ireturn gX5_levelOf_92.2.2.2.2.2.2.2.2.2.1 rfl rfl
  refine r_sw1 (fun h2 => ?_) (fun h2 => ?_)
  · refine r_jmp (t := 94) dX5_levelOf_1 rfl (by rw [h2]; rfl) ?_
    refine r_iconst (v := (2 : Int32)) gX5_levelOf_92.2.2.1 rfl ?_
    exact r_ireturn gX5_levelOf_92.2.2.2.1 rfl rfl
  refine r_sw1 (fun h3 => ?_) (fun h3 => ?_)
  · refine r_jmp (t := 100) dX5_levelOf_1 rfl (by rw [h3]; rfl) ?_
    refine r_iconst (v := (5 : Int32)) gX5_levelOf_92.2.2.2.2.2.2.2.2.1 rfl ?_
    exact r_ireturn gX5_levelOf_92.2.2.2.2.2.2.2.2.2.1 rfl rfl
  refine r_sw1 (fun h4 => ?_) (fun h4 => ?_)
  · refine r_jmp (t := 98) dX5_levelOf_1 rfl (by rw [h4]; rfl) ?_
    refine r_iconst (v := (4 : Int32)) gX5_levelOf_92.2.2.2.2.2.2.1 rfl ?_
    exact r_ireturn gX5_levelOf_92.2.2.2.2.2.2.2.1 rfl rfl
  refine r_sw1 (fun h5 => ?_) (fun h5 => ?_)
  · refine r_jmp (t := 98) dX5_levelOf_1 rfl (by rw [h5]; rfl) ?_
    refine r_iconst (v := (4 : Int32)) gX5_levelOf_92.2.2.2.2.2.2.1 rfl ?_
    exact r_ireturn gX5_levelOf_92.2.2.2.2.2.2.2.1 rfl rfl
  refine r_sw1 (fun h6 => ?_) (fun h6 => ?_)
  · refine r_jmp (t := 100) dX5_levelOf_1 rfl (by rw [h6]; rfl) ?_
    refine r_iconst (v := (5 : Int32)) gX5_levelOf_92.2.2.2.2.2.2.2.2.1 rfl ?_
    exact r_ireturn gX5_levelOf_92.2.2.2.2.2.2.2.2.2.1 rfl rfl
  refine r_sw1 (fun h7 => ?_) (fun h7 => ?_)
  · refine r_jmp (t := 96) dX5_levelOf_1 rfl (by rw [h7]; rfl) ?_
    refine r_iconst (v := (3 : Int32)) gX5_levelOf_92.2.2.2.2.1 rfl ?_
    exact r_ireturn gX5_levelOf_92.2.2.2.2.2.1 rfl rfl
  refine r_sw1 (fun h8 => ?_) (fun h8 => ?_)
  · refine r_jmp (t := 96) dX5_levelOf_1 rfl (by rw [h8]; rfl) ?_
    refine r_iconst (v := (3 : Int32)) gX5_levelOf_92.2.2.2.2.1 rfl ?_
    exact r_ireturn gX5_levelOf_92.2.2.2.2.2.1 rfl rfl
  refine r_sw1 (fun h9 => ?_) (fun h9 => ?_)
  · refine r_jmp (t := 96) dX5_levelOf_1 rfl (by rw [h9]; rfl) ?_
    refine r_iconst (v := (3 : Int32)) gX5_levelOf_92.2.2.2.2.1 rfl ?_
    exact r_ireturn gX5_levelOf_92.2.2.2.2.2.1 rfl rfl
  refine r_sw1 (fun h10 => ?_) (fun h10 => ?_)
  · refine r_jmp (t := 92) dX5_levelOf_1 rfl (by rw [h10]; rfl) ?_
    refine r_iconst (v := (1 : Int32)) gX5_levelOf_92.1 rfl ?_
    exact r_ireturn gX5_levelOf_92.2.1 rfl rfl
  refine r_jmp (t := 102) dX5_levelOf_1 rfl ?_ ?_
  · exact sw_lk rfl (nq_c h1 (nq_c h2 (nq_c h3 (nq_c h4 (nq_c h5 (nq_c h6 (nq_c h7 (nq_c h8 (nq_c h9 (nq_c h10 nq_n)))))))))) rfl
  refine r_iconst (v := (0 : Int32)) gX5_levelOf_92.2.2.2.2.2.2.2.2.2.2.1 rfl ?_
  exact r_ireturn gX5_levelOf_92.2.2.2.2.2.2.2.2.2.2.2.1 rfl rfl
abbrev GT_X5_readJoined : Type := (SS → Int32 → Int32 → Option (Int32 × SS)) × (SS → Int32 → Option (Int32 × SS)) × (SS → Int32 → Int32 → Option (Int32 × SS)) × (SS → Int32 → Option (Int32 × SS))
def GS_X5_readJoined (E : EE) (n : Nat) (r : GT_X5_readJoined) : Prop := (∀ (q : SS) (a1 : Int32) (a2 : Int32), R E (κI E) (2 + n) 58 0 [(0, .ref 17), (1, .int a1), (2, .int a2)] [] q (r.1 q a1 a2)) ∧ (∀ (q : SS) (a1 : Int32), R E (κI E) (2 + n) 60 0 [(0, .ref 17), (1, .int a1)] [] q (r.2.1 q a1)) ∧ (∀ (q : SS) (a1 : Int32) (a2 : Int32), R E (κI E) (2 + n) 61 0 [(0, .ref 17), (1, .int a1), (2, .int a2)] [] q (r.2.2.1 q a1 a2)) ∧ (∀ (q : SS) (a1 : Int32), R E (κI E) (2 + n) 62 0 [(0, .ref 17), (1, .int a1)] [] q (r.2.2.2 q a1))
def b_X5_readJoined_97 (r : GT_X5_readJoined) (rec_12 : SS → Int32 → Int32 → Int32 → Int32 → Int32 → Option (Int32 × SS)) (q : SS) (l1 : Int32) (l2 : Int32) (l4 : Int32) (l5 : Int32) (s0 : Int32) : Option (Int32 × SS) :=
  rec_12 q l1 l2 s0 l4 (l5 + (1 : Int32))
theorem rb_X5_readJoined_97 {E : EE} (hE : GE E) {r : GT_X5_readJoined} (n : Nat) (hr : GS_X5_readJoined E n r) {rec_12 : SS → Int32 → Int32 → Int32 → Int32 → Int32 → Option (Int32 × SS)} (hrec_12 : ∀ (yq : SS) (yl1 : Int32) (yl2 : Int32) (yl3 : Int32) (yl4 : Int32) (yl5 : Int32), R E (κI E) (2 + n + 1) 58 12 [(0, .ref 17), (1, .int yl1), (2, .int yl2), (3, .int yl3), (4, .int yl4), (5, .int yl5)] [] yq (rec_12 yq yl1 yl2 yl3 yl4 yl5)) (q : SS) (l1 : Int32) (l2 : Int32) (l4 : Int32) (l5 : Int32) (s0 : Int32) : R E (κI E) (2 + n + 1) 58 97 [(0, .ref 17), (1, .int l1), (2, .int l2), (4, .int l4), (5, .int l5)] [.int s0] q (b_X5_readJoined_97 r rec_12 q l1 l2 l4 l5 s0) := by
  unfold b_X5_readJoined_97
  refine r_istore_n (L2 := [(0, .ref 17), (1, .int l1), (2, .int l2), (3, .int s0), (4, .int l4), (5, .int l5)]) gX5_readJoined_88.2.2.2.2.2.1 rfl rfl ?_
  refine r_iinc (x := l5) (v := (l5 + (1 : Int32))) (L2 := [(0, .ref 17), (1, .int l1), (2, .int l2), (3, .int s0), (4, .int l4), (5, .int (l5 + (1 : Int32)))]) gX5_readJoined_88.2.2.2.2.2.2.1 rfl rfl rfl rfl ?_
  refine r_goto (t := 12) gX5_readJoined_88.2.2.2.2.2.2.2.1 rfl ?_
  exact r_sub (L' := [(0, .ref 17), (1, .int l1), (2, .int l2), (3, .int s0), (4, .int l4), (5, .int (l5 + (1 : Int32)))]) (sub_c rfl (sub_c rfl (sub_c rfl (sub_c rfl (sub_c rfl (sub_c rfl sub_n)))))) (hrec_12 q l1 l2 s0 l4 (l5 + (1 : Int32)))
def b_X5_readJoined_12 (r : GT_X5_readJoined) : SS → Int32 → Int32 → Int32 → Int32 → Int32 → Option (Int32 × SS) :=
  fx6 (fun (rec_12 : SS → Int32 → Int32 → Int32 → Int32 → Int32 → Option (Int32 × SS)) (q : SS) (l1 : Int32) (l2 : Int32) (l3 : Int32) (l4 : Int32) (l5 : Int32) =>
  if (120 : Int32) ≤ l5 then
  (if l4 = 0 ∨ l4 = 1 then some (l4, q) else none)
  else
  (if l4 = 0 then
  (if l4 = 0 ∨ l4 = 1 then some (l4, q) else none)
  else
  ((f_X5_next q).bind fun r2 =>
  (f_X5_levelOf q r2).bind fun r3 =>
  if r3 < l1 then
  (some ((1 : Int32), q))
  else
  (if r3 ≤ l3 then
  (nm (sI q 17 3 ((q.1 17 3) + (1 : Int32))) fun q4 =>
  (r.1 q4 (r3 + (1 : Int32)) l2).bind fun r5 =>
  (f_X4_addStep r5.2 r2 (0 : Int32)).bind fun r6 =>
  if r3 = (3 : Int32) then
  (b_X5_readJoined_97 r rec_12 r6 l1 l2 r5.1 l5 (r3 - (1 : Int32)))
  else
  (b_X5_readJoined_97 r rec_12 r6 l1 l2 r5.1 l5 r3))
  else
  (some ((1 : Int32), q)))))) FU
theorem rb_X5_readJoined_12 {E : EE} (hE : GE E) {r : GT_X5_readJoined} (n : Nat) (hr : GS_X5_readJoined E n r) (q : SS) (l1 : Int32) (l2 : Int32) (l3 : Int32) (l4 : Int32) (l5 : Int32) : R E (κI E) (2 + n + 1) 58 12 [(0, .ref 17), (1, .int l1), (2, .int l2), (3, .int l3), (4, .int l4), (5, .int l5)] [] q (b_X5_readJoined_12 r q l1 l2 l3 l4 l5) := by
  unfold b_X5_readJoined_12
  refine fx6_ok (P := fun q l1 l2 l3 l4 l5 o => R E (κI E) (2 + n + 1) 58 12 [(0, .ref 17), (1, .int l1), (2, .int l2), (3, .int l3), (4, .int l4), (5, .int l5)] [] q o) (fun _ _ _ _ _ _ => r_no) (fun rec_12 hrec_12 q l1 l2 l3 l4 l5 => ?_) _ _ _ _ _ _ _
  refine r_iload (x := l5) gX5_readJoined_0.2.2.2.2.2.2.2.2.1 rfl ?_
  refine r_bipush (v := (120 : Int32)) gX5_readJoined_0.2.2.2.2.2.2.2.2.2.1 rfl ?_
  refine r_icmp_ge (t := 104) gX5_readJoined_0.2.2.2.2.2.2.2.2.2.2.1 rfl (fun h11 => ?_) (fun h11 => ?_)
  · refine r_iload (x := l4) gX5_readJoined_88.2.2.2.2.2.2.2.2.1 rfl ?_
    exact r_zreturn gX5_readJoined_88.2.2.2.2.2.2.2.2.2.1 rfl rfl
  · refine r_iload (x := l4) gX5_readJoined_0.2.2.2.2.2.2.2.2.2.2.2.1 rfl ?_
    refine r_if_eq (t := 104) gX5_readJoined_0.2.2.2.2.2.2.2.2.2.2.2.2.1 rfl (fun h10 => ?_) (fun h10 => ?_)
    · refine r_iload (x := l4) gX5_readJoined_88.2.2.2.2.2.2.2.2.1 rfl ?_
      exact r_zreturn gX5_readJoined_88.2.2.2.2.2.2.2.2.2.1 rfl rfl
    · refine r_aload_n (x := 17) gX5_readJoined_0.2.2.2.2.2.2.2.2.2.2.2.2.2.1 rfl ?_
      refine r_calli (k := 0) (idx := 36) (y := 56) (as := [.ref 17]) (rest := []) (L0 := [(0, .ref 17)]) gX5_readJoined_0.2.2.2.2.2.2.2.2.2.2.2.2.2.2.1 rfl rfl rfl rfl rfl (vok_v (ob_17 hE) rfl) rfl (r_dep (by omega) (e_X5_next hE q)) (fun r2 => ?_)
      refine r_istore (L2 := [(0, .ref 17), (1, .int l1), (2, .int l2), (3, .int l3), (4, .int l4), (5, .int l5), (6, .int r2)]) gX5_readJoined_0.2.2.2.2.2.2.2.2.2.2.2.2.2.2.2.1 rfl rfl ?_
      refine r_iload (x := r2) gX5_readJoined_30.1 rfl ?_
      refine r_calli (k := 2) (idx := 52) (y := 59) (as := [.int r2]) (rest := []) (L0 := [(0, .int r2)]) gX5_readJoined_30.2.1 rfl rfl rfl rfl rfl vok_s rfl (r_dep (by omega) (e_X5_levelOf hE q r2)) (fun r3 => ?_)
      refine r_istore (L2 := [(0, .ref 17), (1, .int l1), (2, .int l2), (3, .int l3), (4, .int l4), (5, .int l5), (6, .int r2), (7, .int r3)]) gX5_readJoined_30.2.2.1 rfl rfl ?_
      refine r_iload (x := r3) gX5_readJoined_30.2.2.2.1 rfl ?_
      refine r_iload_n (x := l1) gX5_readJoined_30.2.2.2.2.1 rfl ?_
      refine r_icmp_lt (t := 49) gX5_readJoined_30.2.2.2.2.2.1 rfl (fun h9 => ?_) (fun h9 => ?_)
      · refine r_iconst (v := (1 : Int32)) gX5_readJoined_30.2.2.2.2.2.2.2.2.2.1 rfl ?_
        exact r_ireturn gX5_readJoined_30.2.2.2.2.2.2.2.2.2.2.1 rfl rfl
      · refine r_iload (x := r3) gX5_readJoined_30.2.2.2.2.2.2.1 rfl ?_
        refine r_iload_n (x := l3) gX5_readJoined_30.2.2.2.2.2.2.2.1 rfl ?_
        refine r_icmp_le (t := 51) gX5_readJoined_30.2.2.2.2.2.2.2.2.1 rfl (fun h8 => ?_) (fun h8 => ?_)
        · refine r_aload_n (x := 17) gX5_readJoined_30.2.2.2.2.2.2.2.2.2.2.2.1 rfl ?_
          refine r_dup gX5_readJoined_30.2.2.2.2.2.2.2.2.2.2.2.2.1 rfl ?_
          refine r_getI gX5_readJoined_30.2.2.2.2.2.2.2.2.2.2.2.2.2.1 (ff_5_26_17 hE) (by decide) ?_
          refine r_iconst (v := (1 : Int32)) gX5_readJoined_30.2.2.2.2.2.2.2.2.2.2.2.2.2.2.1 rfl ?_
          refine r_iadd gX5_readJoined_30.2.2.2.2.2.2.2.2.2.2.2.2.2.2.2.1 ?_
          refine r_putI gX5_readJoined_58.1 (ff_5_26_17 hE) ?_
          refine r_nmS fun q4 _ => ?_
          refine r_aload_n (x := 17) gX5_readJoined_58.2.1 rfl ?_
          refine r_iload (x := r3) gX5_readJoined_58.2.2.1 rfl ?_
          refine r_iconst (v := (1 : Int32)) gX5_readJoined_58.2.2.2.1 rfl ?_
          refine r_iadd gX5_readJoined_58.2.2.2.2.1 ?_
          refine r_iload_n (x := l2) gX5_readJoined_58.2.2.2.2.2.1 rfl ?_
          refine r_callI (k := 0) (idx := 40) (y := 58) (as := [.ref 17, .int (r3 + (1 : Int32)), .int l2]) (rest := []) (L0 := [(0, .ref 17), (1, .int (r3 + (1 : Int32))), (2, .int l2)]) gX5_readJoined_58.2.2.2.2.2.2.1 rfl rfl rfl rfl rfl (vok_v (ob_17 hE) rfl) rfl (hr.1 q4 (r3 + (1 : Int32)) l2) (fun r5 => ?_)
          refine r_istore (L2 := [(0, .ref 17), (1, .int l1), (2, .int l2), (3, .int l3), (4, .int r5.1), (5, .int l5), (6, .int r2), (7, .int r3)]) gX5_readJoined_58.2.2.2.2.2.2.2.1 rfl rfl ?_
          refine r_aload_n (x := 17) gX5_readJoined_58.2.2.2.2.2.2.2.2.1 rfl ?_
          refine r_getA gX5_readJoined_58.2.2.2.2.2.2.2.2.2.1 (fa_5_18_17 hE) ?_
          refine r_iload (x := r2) gX5_readJoined_58.2.2.2.2.2.2.2.2.2.2.1 rfl ?_
          refine r_iconst (v := (0 : Int32)) gX5_readJoined_58.2.2.2.2.2.2.2.2.2.2.2.1 rfl ?_
          refine r_callV (k := 0) (idx := 44) (y := 43) (as := [.ref 19, .int r2, .int (0 : Int32)]) (rest := []) (L0 := [(0, .ref 19), (1, .int r2), (2, .int (0 : Int32))]) gX5_readJoined_58.2.2.2.2.2.2.2.2.2.2.2.2.1 rfl rfl rfl rfl rfl (vok_v (ob_19 hE) rfl) rfl (r_dep (by omega) (e_X4_addStep hE r5.2 r2 (0 : Int32))) (fun r6 => ?_)
          refine r_iload (x := r3) gX5_readJoined_58.2.2.2.2.2.2.2.2.2.2.2.2.2.1 rfl ?_
          refine r_iconst (v := (3 : Int32)) gX5_readJoined_58.2.2.2.2.2.2.2.2.2.2.2.2.2.2.1 rfl ?_
          refine r_icmp_ne (t := 95) gX5_readJoined_58.2.2.2.2.2.2.2.2.2.2.2.2.2.2.2.1 rfl (fun h7 => ?_) (fun h7 => ?_)
          · refine r_iload (x := r3) gX5_readJoined_88.1 rfl ?_
            refine r_iconst (v := (1 : Int32)) gX5_readJoined_88.2.1 rfl ?_
            refine r_isub gX5_readJoined_88.2.2.1 ?_
            refine r_goto (t := 97) gX5_readJoined_88.2.2.2.1 rfl ?_
            exact r_sub (L' := [(0, .ref 17), (1, .int l1), (2, .int l2), (4, .int r5.1), (5, .int l5)]) (sub_c rfl (sub_c rfl (sub_c rfl (sub_c rfl (sub_c rfl sub_n))))) (rb_X5_readJoined_97 hE n hr hrec_12 r6 l1 l2 r5.1 l5 (r3 - (1 : Int32)))
          · refine r_iload (x := r3) gX5_readJoined_88.2.2.2.2.1 rfl ?_
            exact r_sub (L' := [(0, .ref 17), (1, .int l1), (2, .int l2), (4, .int r5.1), (5, .int l5)]) (sub_c rfl (sub_c rfl (sub_c rfl (sub_c rfl (sub_c rfl sub_n))))) (rb_X5_readJoined_97 hE n hr hrec_12 r6 l1 l2 r5.1 l5 r3)
        · refine r_iconst (v := (1 : Int32)) gX5_readJoined_30.2.2.2.2.2.2.2.2.2.1 rfl ?_
          exact r_ireturn gX5_readJoined_30.2.2.2.2.2.2.2.2.2.2.1 rfl rfl
def fb_X5_readJoined (r : GT_X5_readJoined) (q : SS) (a1 : Int32) (a2 : Int32) : Option (Int32 × SS) :=
  (r.2.1 q a2).bind fun r1 =>
  b_X5_readJoined_12 r r1.2 a1 a2 (5 : Int32) r1.1 (0 : Int32)
theorem eb_X5_readJoined {E : EE} (hE : GE E) {r : GT_X5_readJoined} (n : Nat) (hr : GS_X5_readJoined E n r) (q : SS) (a1 : Int32) (a2 : Int32) : R E (κI E) (2 + n + 1) 58 0 [(0, .ref 17), (1, .int a1), (2, .int a2)] [] q (fb_X5_readJoined r q a1 a2) := by
  unfold fb_X5_readJoined
  refine r_iconst (v := (5 : Int32)) gX5_readJoined_0.1 rfl ?_
  refine r_istore_n (L2 := [(0, .ref 17), (1, .int a1), (2, .int a2), (3, .int (5 : Int32))]) gX5_readJoined_0.2.1 rfl rfl ?_
  refine r_aload_n (x := 17) gX5_readJoined_0.2.2.1 rfl ?_
  refine r_iload_n (x := a2) gX5_readJoined_0.2.2.2.1 rfl ?_
  refine r_callI (k := 0) (idx := 48) (y := 60) (as := [.ref 17, .int a2]) (rest := []) (L0 := [(0, .ref 17), (1, .int a2)]) gX5_readJoined_0.2.2.2.2.1 rfl rfl rfl rfl rfl (vok_v (ob_17 hE) rfl) rfl (hr.2.1 q a2) (fun r1 => ?_)
  refine r_istore (L2 := [(0, .ref 17), (1, .int a1), (2, .int a2), (3, .int (5 : Int32)), (4, .int r1.1)]) gX5_readJoined_0.2.2.2.2.2.1 rfl rfl ?_
  refine r_iconst (v := (0 : Int32)) gX5_readJoined_0.2.2.2.2.2.2.1 rfl ?_
  refine r_istore (L2 := [(0, .ref 17), (1, .int a1), (2, .int a2), (3, .int (5 : Int32)), (4, .int r1.1), (5, .int (0 : Int32))]) gX5_readJoined_0.2.2.2.2.2.2.2.1 rfl rfl ?_
  exact r_sub (L' := [(0, .ref 17), (1, .int a1), (2, .int a2), (3, .int (5 : Int32)), (4, .int r1.1), (5, .int (0 : Int32))]) (sub_c rfl (sub_c rfl (sub_c rfl (sub_c rfl (sub_c rfl (sub_c rfl sub_n)))))) (rb_X5_readJoined_12 hE n hr r1.2 a1 a2 (5 : Int32) r1.1 (0 : Int32))
def b_X5_readOperand_75 (r : GT_X5_readJoined) (q : SS) (l1 : Int32) (l2 : Int32) : Option (Int32 × SS) :=
  nm (sI q 17 3 ((q.1 17 3) + (1 : Int32))) fun q4 =>
  if l2 = (40 : Int32) then
  ((r.2.2.2 q4 (l1 + (1 : Int32))).bind fun r5 =>
  if r5.1 = 0 ∨ r5.1 = 1 then some (r5.1, r5.2) else none)
  else
  ((r.2.2.1 q4 l2 (l1 + (1 : Int32))).bind fun r6 =>
  if r6.1 = 0 ∨ r6.1 = 1 then some (r6.1, r6.2) else none)
theorem rb_X5_readOperand_75 {E : EE} (hE : GE E) {r : GT_X5_readJoined} (n : Nat) (hr : GS_X5_readJoined E n r) (q : SS) (l1 : Int32) (l2 : Int32) : R E (κI E) (2 + n + 1) 60 75 [(0, .ref 17), (1, .int l1), (2, .int l2)] [] q (b_X5_readOperand_75 r q l1 l2) := by
  unfold b_X5_readOperand_75
  refine r_aload_n (x := 17) gX5_readOperand_56.2.2.2.2.2.2.2.2.2.2.1 rfl ?_
  refine r_dup gX5_readOperand_56.2.2.2.2.2.2.2.2.2.2.2.1 rfl ?_
  refine r_getI gX5_readOperand_56.2.2.2.2.2.2.2.2.2.2.2.2.1 (ff_5_26_17 hE) (by decide) ?_
  refine r_iconst (v := (1 : Int32)) gX5_readOperand_56.2.2.2.2.2.2.2.2.2.2.2.2.2.1 rfl ?_
  refine r_iadd gX5_readOperand_56.2.2.2.2.2.2.2.2.2.2.2.2.2.2.1 ?_
  refine r_putI gX5_readOperand_56.2.2.2.2.2.2.2.2.2.2.2.2.2.2.2.1 (ff_5_26_17 hE) ?_
  refine r_nmS fun q4 _ => ?_
  refine r_iload_n (x := l2) gX5_readOperand_85.1 rfl ?_
  refine r_bipush (v := (40 : Int32)) gX5_readOperand_85.2.1 rfl ?_
  refine r_icmp_ne (t := 101) gX5_readOperand_85.2.2.1 rfl (fun h7 => ?_) (fun h7 => ?_)
  · refine r_aload_n (x := 17) gX5_readOperand_85.2.2.2.1 rfl ?_
    refine r_iload_n (x := l1) gX5_readOperand_85.2.2.2.2.1 rfl ?_
    refine r_iconst (v := (1 : Int32)) gX5_readOperand_85.2.2.2.2.2.1 rfl ?_
    refine r_iadd gX5_readOperand_85.2.2.2.2.2.2.1 ?_
    refine r_callI (k := 0) (idx := 65) (y := 62) (as := [.ref 17, .int (l1 + (1 : Int32))]) (rest := []) (L0 := [(0, .ref 17), (1, .int (l1 + (1 : Int32)))]) gX5_readOperand_85.2.2.2.2.2.2.2.1 rfl rfl rfl rfl rfl (vok_v (ob_17 hE) rfl) rfl (hr.2.2.2 q4 (l1 + (1 : Int32))) (fun r5 => ?_)
    refine r_goto (t := 109) gX5_readOperand_85.2.2.2.2.2.2.2.2.1 rfl ?_
    exact r_zreturn gX5_readOperand_85.2.2.2.2.2.2.2.2.2.2.2.2.2.2.2.1 rfl rfl
  · refine r_aload_n (x := 17) gX5_readOperand_85.2.2.2.2.2.2.2.2.2.1 rfl ?_
    refine r_iload_n (x := l2) gX5_readOperand_85.2.2.2.2.2.2.2.2.2.2.1 rfl ?_
    refine r_iload_n (x := l1) gX5_readOperand_85.2.2.2.2.2.2.2.2.2.2.2.1 rfl ?_
    refine r_iconst (v := (1 : Int32)) gX5_readOperand_85.2.2.2.2.2.2.2.2.2.2.2.2.1 rfl ?_
    refine r_iadd gX5_readOperand_85.2.2.2.2.2.2.2.2.2.2.2.2.2.1 ?_
    refine r_callI (k := 0) (idx := 68) (y := 61) (as := [.ref 17, .int l2, .int (l1 + (1 : Int32))]) (rest := []) (L0 := [(0, .ref 17), (1, .int l2), (2, .int (l1 + (1 : Int32)))]) gX5_readOperand_85.2.2.2.2.2.2.2.2.2.2.2.2.2.2.1 rfl rfl rfl rfl rfl (vok_v (ob_17 hE) rfl) rfl (hr.2.2.1 q4 l2 (l1 + (1 : Int32))) (fun r6 => ?_)
    exact r_zreturn gX5_readOperand_85.2.2.2.2.2.2.2.2.2.2.2.2.2.2.2.1 rfl rfl
def fb_X5_readOperand (r : GT_X5_readJoined) (q : SS) (a1 : Int32) : Option (Int32 × SS) :=
  (f_X5_next q).bind fun r1 =>
  (f_X5_nameOf q r1).bind fun r2 =>
  (f_X5_isDigit q r1).bind fun r3 =>
  if r3 = 0 then
  (if r2 < 0 then
  (if (6 : Int32) ≤ a1 then
  (some ((0 : Int32), q))
  else
  (if r1 = (33 : Int32) then
  (b_X5_readOperand_75 r q a1 r1)
  else
  (if r1 = (45 : Int32) then
  (b_X5_readOperand_75 r q a1 r1)
  else
  (if r1 = (40 : Int32) then
  (b_X5_readOperand_75 r q a1 r1)
  else
  (some ((0 : Int32), q))))))
  else
  (nm (sI q 17 3 ((q.1 17 3) + (1 : Int32))) fun q12 =>
  (f_X4_addStep q12 (110 : Int32) r2).bind fun r13 =>
  some ((1 : Int32), r13)))
  else
  ((f_X5_readNumber q).bind fun r15 =>
  some ((1 : Int32), r15))
theorem eb_X5_readOperand {E : EE} (hE : GE E) {r : GT_X5_readJoined} (n : Nat) (hr : GS_X5_readJoined E n r) (q : SS) (a1 : Int32) : R E (κI E) (2 + n + 1) 60 0 [(0, .ref 17), (1, .int a1)] [] q (fb_X5_readOperand r q a1) := by
  unfold fb_X5_readOperand
  refine r_aload_n (x := 17) gX5_readOperand_0.1 rfl ?_
  refine r_calli (k := 0) (idx := 36) (y := 56) (as := [.ref 17]) (rest := []) (L0 := [(0, .ref 17)]) gX5_readOperand_0.2.1 rfl rfl rfl rfl rfl (vok_v (ob_17 hE) rfl) rfl (r_dep (by omega) (e_X5_next hE q)) (fun r1 => ?_)
  refine r_istore_n (L2 := [(0, .ref 17), (1, .int a1), (2, .int r1)]) gX5_readOperand_0.2.2.1 rfl rfl ?_
  refine r_iload_n (x := r1) gX5_readOperand_0.2.2.2.1 rfl ?_
  refine r_calli (k := 2) (idx := 56) (y := 65) (as := [.int r1]) (rest := []) (L0 := [(0, .int r1)]) gX5_readOperand_0.2.2.2.2.1 rfl rfl rfl rfl rfl vok_s rfl (r_dep (by omega) (e_X5_nameOf hE q r1)) (fun r2 => ?_)
  refine r_istore_n (L2 := [(0, .ref 17), (1, .int a1), (2, .int r1), (3, .int r2)]) gX5_readOperand_0.2.2.2.2.2.1 rfl rfl ?_
  refine r_iload_n (x := r1) gX5_readOperand_0.2.2.2.2.2.2.1 rfl ?_
  refine r_calli (k := 2) (idx := 59) (y := 64) (as := [.int r1]) (rest := []) (L0 := [(0, .int r1)]) gX5_readOperand_0.2.2.2.2.2.2.2.1 rfl rfl rfl rfl rfl vok_s rfl (r_dep (by omega) (e_X5_isDigit hE q r1)) (fun r3 => ?_)
  refine r_if_eq (t := 23) gX5_readOperand_0.2.2.2.2.2.2.2.2.1 rfl (fun h16 => ?_) (fun h16 => ?_)
  · refine r_iload_n (x := r2) gX5_readOperand_0.2.2.2.2.2.2.2.2.2.2.2.2.2.1 rfl ?_
    refine r_if_lt (t := 49) gX5_readOperand_0.2.2.2.2.2.2.2.2.2.2.2.2.2.2.1 rfl (fun h14 => ?_) (fun h14 => ?_)
    · refine r_iload_n (x := a1) gX5_readOperand_28.2.2.2.2.2.2.2.2.2.2.2.2.1 rfl ?_
      refine r_bipush (v := (6 : Int32)) gX5_readOperand_28.2.2.2.2.2.2.2.2.2.2.2.2.2.1 rfl ?_
      refine r_icmp_ge (t := 73) gX5_readOperand_28.2.2.2.2.2.2.2.2.2.2.2.2.2.2.1 rfl (fun h11 => ?_) (fun h11 => ?_)
      · refine r_iconst (v := (0 : Int32)) gX5_readOperand_56.2.2.2.2.2.2.2.2.1 rfl ?_
        exact r_ireturn gX5_readOperand_56.2.2.2.2.2.2.2.2.2.1 rfl rfl
      · refine r_iload_n (x := r1) gX5_readOperand_28.2.2.2.2.2.2.2.2.2.2.2.2.2.2.2.1 rfl ?_
        refine r_bipush (v := (33 : Int32)) gX5_readOperand_56.1 rfl ?_
        refine r_icmp_eq (t := 75) gX5_readOperand_56.2.1 rfl (fun h10 => ?_) (fun h10 => ?_)
        · exact r_sub (L' := [(0, .ref 17), (1, .int a1), (2, .int r1)]) (sub_c rfl (sub_c rfl (sub_c rfl sub_n))) (rb_X5_readOperand_75 hE n hr q a1 r1)
        · refine r_iload_n (x := r1) gX5_readOperand_56.2.2.1 rfl ?_
          refine r_bipush (v := (45 : Int32)) gX5_readOperand_56.2.2.2.1 rfl ?_
          refine r_icmp_eq (t := 75) gX5_readOperand_56.2.2.2.2.1 rfl (fun h9 => ?_) (fun h9 => ?_)
          · exact r_sub (L' := [(0, .ref 17), (1, .int a1), (2, .int r1)]) (sub_c rfl (sub_c rfl (sub_c rfl sub_n))) (rb_X5_readOperand_75 hE n hr q a1 r1)
          · refine r_iload_n (x := r1) gX5_readOperand_56.2.2.2.2.2.1 rfl ?_
            refine r_bipush (v := (40 : Int32)) gX5_readOperand_56.2.2.2.2.2.2.1 rfl ?_
            refine r_icmp_eq (t := 75) gX5_readOperand_56.2.2.2.2.2.2.2.1 rfl (fun h8 => ?_) (fun h8 => ?_)
            · exact r_sub (L' := [(0, .ref 17), (1, .int a1), (2, .int r1)]) (sub_c rfl (sub_c rfl (sub_c rfl sub_n))) (rb_X5_readOperand_75 hE n hr q a1 r1)
            · refine r_iconst (v := (0 : Int32)) gX5_readOperand_56.2.2.2.2.2.2.2.2.1 rfl ?_
              exact r_ireturn gX5_readOperand_56.2.2.2.2.2.2.2.2.2.1 rfl rfl
    · refine r_aload_n (x := 17) gX5_readOperand_0.2.2.2.2.2.2.2.2.2.2.2.2.2.2.2.1 rfl ?_
      refine r_dup gX5_readOperand_28.1 rfl ?_
      refine r_getI gX5_readOperand_28.2.1 (ff_5_26_17 hE) (by decide) ?_
      refine r_iconst (v := (1 : Int32)) gX5_readOperand_28.2.2.1 rfl ?_
      refine r_iadd gX5_readOperand_28.2.2.2.1 ?_
      refine r_putI gX5_readOperand_28.2.2.2.2.1 (ff_5_26_17 hE) ?_
      refine r_nmS fun q12 _ => ?_
      refine r_aload_n (x := 17) gX5_readOperand_28.2.2.2.2.2.1 rfl ?_
      refine r_getA gX5_readOperand_28.2.2.2.2.2.2.1 (fa_5_18_17 hE) ?_
      refine r_bipush (v := (110 : Int32)) gX5_readOperand_28.2.2.2.2.2.2.2.1 rfl ?_
      refine r_iload_n (x := r2) gX5_readOperand_28.2.2.2.2.2.2.2.2.1 rfl ?_
      refine r_callV (k := 0) (idx := 44) (y := 43) (as := [.ref 19, .int (110 : Int32), .int r2]) (rest := []) (L0 := [(0, .ref 19), (1, .int (110 : Int32)), (2, .int r2)]) gX5_readOperand_28.2.2.2.2.2.2.2.2.2.1 rfl rfl rfl rfl rfl (vok_v (ob_19 hE) rfl) rfl (r_dep (by omega) (e_X4_addStep hE q12 (110 : Int32) r2)) (fun r13 => ?_)
      refine r_iconst (v := (1 : Int32)) gX5_readOperand_28.2.2.2.2.2.2.2.2.2.2.1 rfl ?_
      exact r_ireturn gX5_readOperand_28.2.2.2.2.2.2.2.2.2.2.2.1 rfl rfl
  · refine r_aload_n (x := 17) gX5_readOperand_0.2.2.2.2.2.2.2.2.2.1 rfl ?_
    refine r_callV (k := 0) (idx := 62) (y := 63) (as := [.ref 17]) (rest := []) (L0 := [(0, .ref 17)]) gX5_readOperand_0.2.2.2.2.2.2.2.2.2.2.1 rfl rfl rfl rfl rfl (vok_v (ob_17 hE) rfl) rfl (r_dep (by omega) (e_X5_readNumber hE q)) (fun r15 => ?_)
    refine r_iconst (v := (1 : Int32)) gX5_readOperand_0.2.2.2.2.2.2.2.2.2.2.2.1 rfl ?_
    exact r_ireturn gX5_readOperand_0.2.2.2.2.2.2.2.2.2.2.2.2.1 rfl rfl
def b_X5_readTurned_23 (r : GT_X5_readJoined) (q : SS) (l3 : Int32) (s0 : Int32) : Option (Int32 × SS) :=
  (f_X4_addStep q s0 (0 : Int32)).bind fun r2 =>
  if l3 = 0 ∨ l3 = 1 then some (l3, r2) else none
theorem rb_X5_readTurned_23 {E : EE} (hE : GE E) {r : GT_X5_readJoined} (n : Nat) (hr : GS_X5_readJoined E n r) (q : SS) (l3 : Int32) (s0 : Int32) : R E (κI E) (2 + n + 1) 61 23 [(3, .int l3)] [.int s0, .ref 19] q (b_X5_readTurned_23 r q l3 s0) := by
  unfold b_X5_readTurned_23
  refine r_iconst (v := (0 : Int32)) gX5_readTurned_0.2.2.2.2.2.2.2.2.2.2.2.2.1 rfl ?_
  refine r_callV (k := 0) (idx := 44) (y := 43) (as := [.ref 19, .int s0, .int (0 : Int32)]) (rest := []) (L0 := [(0, .ref 19), (1, .int s0), (2, .int (0 : Int32))]) gX5_readTurned_0.2.2.2.2.2.2.2.2.2.2.2.2.2.1 rfl rfl rfl rfl rfl (vok_v (ob_19 hE) rfl) rfl (r_dep (by omega) (e_X4_addStep hE q s0 (0 : Int32))) (fun r2 => ?_)
  refine r_iload_n (x := l3) gX5_readTurned_0.2.2.2.2.2.2.2.2.2.2.2.2.2.2.1 rfl ?_
  exact r_zreturn gX5_readTurned_0.2.2.2.2.2.2.2.2.2.2.2.2.2.2.2.1 rfl rfl
def fb_X5_readTurned (r : GT_X5_readJoined) (q : SS) (a1 : Int32) (a2 : Int32) : Option (Int32 × SS) :=
  (r.2.1 q a2).bind fun r1 =>
  if a1 = (33 : Int32) then
  (b_X5_readTurned_23 r r1.2 r1.1 (33 : Int32))
  else
  (b_X5_readTurned_23 r r1.2 r1.1 (126 : Int32))
theorem eb_X5_readTurned {E : EE} (hE : GE E) {r : GT_X5_readJoined} (n : Nat) (hr : GS_X5_readJoined E n r) (q : SS) (a1 : Int32) (a2 : Int32) : R E (κI E) (2 + n + 1) 61 0 [(0, .ref 17), (1, .int a1), (2, .int a2)] [] q (fb_X5_readTurned r q a1 a2) := by
  unfold fb_X5_readTurned
  refine r_aload_n (x := 17) gX5_readTurned_0.1 rfl ?_
  refine r_iload_n (x := a2) gX5_readTurned_0.2.1 rfl ?_
  refine r_callI (k := 0) (idx := 48) (y := 60) (as := [.ref 17, .int a2]) (rest := []) (L0 := [(0, .ref 17), (1, .int a2)]) gX5_readTurned_0.2.2.1 rfl rfl rfl rfl rfl (vok_v (ob_17 hE) rfl) rfl (hr.2.1 q a2) (fun r1 => ?_)
  refine r_istore_n (L2 := [(0, .ref 17), (1, .int a1), (2, .int a2), (3, .int r1.1)]) gX5_readTurned_0.2.2.2.1 rfl rfl ?_
  refine r_aload_n (x := 17) gX5_readTurned_0.2.2.2.2.1 rfl ?_
  refine r_getA gX5_readTurned_0.2.2.2.2.2.1 (fa_5_18_17 hE) ?_
  refine r_iload_n (x := a1) gX5_readTurned_0.2.2.2.2.2.2.1 rfl ?_
  refine r_bipush (v := (33 : Int32)) gX5_readTurned_0.2.2.2.2.2.2.2.1 rfl ?_
  refine r_icmp_ne (t := 21) gX5_readTurned_0.2.2.2.2.2.2.2.2.1 rfl (fun h3 => ?_) (fun h3 => ?_)
  · refine r_bipush (v := (33 : Int32)) gX5_readTurned_0.2.2.2.2.2.2.2.2.2.1 rfl ?_
    refine r_goto (t := 23) gX5_readTurned_0.2.2.2.2.2.2.2.2.2.2.1 rfl ?_
    exact r_sub (L' := [(3, .int r1.1)]) (sub_c rfl sub_n) (rb_X5_readTurned_23 hE n hr r1.2 r1.1 (33 : Int32))
  · refine r_bipush (v := (126 : Int32)) gX5_readTurned_0.2.2.2.2.2.2.2.2.2.2.2.1 rfl ?_
    exact r_sub (L' := [(3, .int r1.1)]) (sub_c rfl sub_n) (rb_X5_readTurned_23 hE n hr r1.2 r1.1 (126 : Int32))
def fb_X5_readEnclosed (r : GT_X5_readJoined) (q : SS) (a1 : Int32) : Option (Int32 × SS) :=
  (r.1 q (1 : Int32) a1).bind fun r1 =>
  if r1.1 = 0 then
  (some ((0 : Int32), r1.2))
  else
  ((f_X5_next r1.2).bind fun r2 =>
  if r2 = (41 : Int32) then
  (nm (sI r1.2 17 3 ((r1.2.1 17 3) + (1 : Int32))) fun q3 =>
  some ((1 : Int32), q3))
  else
  (some ((0 : Int32), r1.2)))
theorem eb_X5_readEnclosed {E : EE} (hE : GE E) {r : GT_X5_readJoined} (n : Nat) (hr : GS_X5_readJoined E n r) (q : SS) (a1 : Int32) : R E (κI E) (2 + n + 1) 62 0 [(0, .ref 17), (1, .int a1)] [] q (fb_X5_readEnclosed r q a1) := by
  unfold fb_X5_readEnclosed
  refine r_aload_n (x := 17) gX5_readEnclosed_0.1 rfl ?_
  refine r_iconst (v := (1 : Int32)) gX5_readEnclosed_0.2.1 rfl ?_
  refine r_iload_n (x := a1) gX5_readEnclosed_0.2.2.1 rfl ?_
  refine r_callI (k := 0) (idx := 40) (y := 58) (as := [.ref 17, .int (1 : Int32), .int a1]) (rest := []) (L0 := [(0, .ref 17), (1, .int (1 : Int32)), (2, .int a1)]) gX5_readEnclosed_0.2.2.2.1 rfl rfl rfl rfl rfl (vok_v (ob_17 hE) rfl) rfl (hr.1 q (1 : Int32) a1) (fun r1 => ?_)
  refine r_if_eq (t := 18) gX5_readEnclosed_0.2.2.2.2.1 rfl (fun h5 => ?_) (fun h5 => ?_)
  · refine r_iconst (v := (0 : Int32)) gX5_readEnclosed_0.2.2.2.2.2.2.2.2.2.1 rfl ?_
    exact r_ireturn gX5_readEnclosed_0.2.2.2.2.2.2.2.2.2.2.1 rfl rfl
  · refine r_aload_n (x := 17) gX5_readEnclosed_0.2.2.2.2.2.1 rfl ?_
    refine r_calli (k := 0) (idx := 36) (y := 56) (as := [.ref 17]) (rest := []) (L0 := [(0, .ref 17)]) gX5_readEnclosed_0.2.2.2.2.2.2.1 rfl rfl rfl rfl rfl (vok_v (ob_17 hE) rfl) rfl (r_dep (by omega) (e_X5_next hE r1.2)) (fun r2 => ?_)
    refine r_bipush (v := (41 : Int32)) gX5_readEnclosed_0.2.2.2.2.2.2.2.1 rfl ?_
    refine r_icmp_eq (t := 20) gX5_readEnclosed_0.2.2.2.2.2.2.2.2.1 rfl (fun h4 => ?_) (fun h4 => ?_)
    · refine r_aload_n (x := 17) gX5_readEnclosed_0.2.2.2.2.2.2.2.2.2.2.2.1 rfl ?_
      refine r_dup gX5_readEnclosed_0.2.2.2.2.2.2.2.2.2.2.2.2.1 rfl ?_
      refine r_getI gX5_readEnclosed_0.2.2.2.2.2.2.2.2.2.2.2.2.2.1 (ff_5_26_17 hE) (by decide) ?_
      refine r_iconst (v := (1 : Int32)) gX5_readEnclosed_0.2.2.2.2.2.2.2.2.2.2.2.2.2.2.1 rfl ?_
      refine r_iadd gX5_readEnclosed_0.2.2.2.2.2.2.2.2.2.2.2.2.2.2.2.1 ?_
      refine r_putI gX5_readEnclosed_27.1 (ff_5_26_17 hE) ?_
      refine r_nmS fun q3 _ => ?_
      refine r_iconst (v := (1 : Int32)) gX5_readEnclosed_27.2.1 rfl ?_
      exact r_ireturn gX5_readEnclosed_27.2.2.1 rfl rfl
    · refine r_iconst (v := (0 : Int32)) gX5_readEnclosed_0.2.2.2.2.2.2.2.2.2.1 rfl ?_
      exact r_ireturn gX5_readEnclosed_0.2.2.2.2.2.2.2.2.2.2.1 rfl rfl
def g_X5_readJoined : Nat → GT_X5_readJoined
  | 0 => (fun _ _ _ => none, fun _ _ => none, fun _ _ _ => none, fun _ _ => none)
  | n + 1 => (fb_X5_readJoined (g_X5_readJoined n), fb_X5_readOperand (g_X5_readJoined n), fb_X5_readTurned (g_X5_readJoined n), fb_X5_readEnclosed (g_X5_readJoined n))
theorem gs_X5_readJoined {E : EE} (hE : GE E) : ∀ n, GS_X5_readJoined E n (g_X5_readJoined n)
  | 0 => ⟨fun _ _ _ => r_no, fun _ _ => r_no, fun _ _ _ => r_no, fun _ _ => r_no⟩
  | n + 1 => ⟨eb_X5_readJoined hE n (gs_X5_readJoined hE n), eb_X5_readOperand hE n (gs_X5_readJoined hE n), eb_X5_readTurned hE n (gs_X5_readJoined hE n), eb_X5_readEnclosed hE n (gs_X5_readJoined hE n)⟩
def f_X5_readJoined : SS → Int32 → Int32 → Option (Int32 × SS) := (g_X5_readJoined 900).1
theorem e_X5_readJoined {E : EE} (hE : GE E) : ∀ (q : SS) (a1 : Int32) (a2 : Int32), R E (κI E) 902 58 0 [(0, .ref 17), (1, .int a1), (2, .int a2)] [] q (f_X5_readJoined q a1 a2) := (gs_X5_readJoined hE 900).1
def f_X5_readOperand : SS → Int32 → Option (Int32 × SS) := (g_X5_readJoined 900).2.1
theorem e_X5_readOperand {E : EE} (hE : GE E) : ∀ (q : SS) (a1 : Int32), R E (κI E) 902 60 0 [(0, .ref 17), (1, .int a1)] [] q (f_X5_readOperand q a1) := (gs_X5_readJoined hE 900).2.1
def f_X5_readTurned : SS → Int32 → Int32 → Option (Int32 × SS) := (g_X5_readJoined 900).2.2.1
theorem e_X5_readTurned {E : EE} (hE : GE E) : ∀ (q : SS) (a1 : Int32) (a2 : Int32), R E (κI E) 902 61 0 [(0, .ref 17), (1, .int a1), (2, .int a2)] [] q (f_X5_readTurned q a1 a2) := (gs_X5_readJoined hE 900).2.2.1
def f_X5_readEnclosed : SS → Int32 → Option (Int32 × SS) := (g_X5_readJoined 900).2.2.2
theorem e_X5_readEnclosed {E : EE} (hE : GE E) : ∀ (q : SS) (a1 : Int32), R E (κI E) 902 62 0 [(0, .ref 17), (1, .int a1)] [] q (f_X5_readEnclosed q a1) := (gs_X5_readJoined hE 900).2.2.2
def b_X5_readLine_47 (q : SS) (l1 : Int32) : Option (Int32 × SS) :=
  (f_X4_addStep q (59 : Int32) (0 : Int32)).bind fun r2 =>
  if l1 = 0 ∨ l1 = 1 then some (l1, r2) else none
theorem rb_X5_readLine_47 {E : EE} (hE : GE E) (q : SS) (l1 : Int32) : R E (κI E) 903 57 47 [(0, .ref 17), (1, .int l1)] [] q (b_X5_readLine_47 q l1) := by
  unfold b_X5_readLine_47
  refine r_aload_n (x := 17) gX5_readLine_27.2.2.2.2.2.2.2.2.2.2.2.1 rfl ?_
  refine r_getA gX5_readLine_27.2.2.2.2.2.2.2.2.2.2.2.2.1 (fa_5_18_17 hE) ?_
  refine r_bipush (v := (59 : Int32)) gX5_readLine_27.2.2.2.2.2.2.2.2.2.2.2.2.2.1 rfl ?_
  refine r_iconst (v := (0 : Int32)) gX5_readLine_27.2.2.2.2.2.2.2.2.2.2.2.2.2.2.1 rfl ?_
  refine r_callV (k := 0) (idx := 44) (y := 43) (as := [.ref 19, .int (59 : Int32), .int (0 : Int32)]) (rest := []) (L0 := [(0, .ref 19), (1, .int (59 : Int32)), (2, .int (0 : Int32))]) gX5_readLine_27.2.2.2.2.2.2.2.2.2.2.2.2.2.2.2.1 rfl rfl rfl rfl rfl (vok_v (ob_19 hE) rfl) rfl (r_dep (by decide) (e_X4_addStep hE q (59 : Int32) (0 : Int32))) (fun r2 => ?_)
  refine r_iload_n (x := l1) gX5_readLine_57.1 rfl ?_
  exact r_zreturn gX5_readLine_57.2.1 rfl rfl
def f_X5_readLine (q : SS)  : Option (Int32 × SS) :=
  (f_X5_readJoined q (1 : Int32) (0 : Int32)).bind fun r1 =>
  if r1.1 = 0 then
  (b_X5_readLine_47 r1.2 r1.1)
  else
  ((f_X5_next r1.2).bind fun r3 =>
  if r3 = (63 : Int32) then
  (nm (sI r1.2 17 3 ((r1.2.1 17 3) + (1 : Int32))) fun q4 =>
  (f_X4_addStep q4 (63 : Int32) (0 : Int32)).bind fun r5 =>
  (f_X5_readJoined r5 (1 : Int32) (0 : Int32)).bind fun r6 =>
  b_X5_readLine_47 r6.2 r6.1)
  else
  (b_X5_readLine_47 r1.2 r1.1))
theorem e_X5_readLine {E : EE} (hE : GE E) (q : SS)  : R E (κI E) 903 57 0 [(0, .ref 17)] [] q (f_X5_readLine q) := by
  unfold f_X5_readLine
  refine r_aload_n (x := 17) gX5_readLine_0.1 rfl ?_
  refine r_iconst (v := (1 : Int32)) gX5_readLine_0.2.1 rfl ?_
  refine r_iconst (v := (0 : Int32)) gX5_readLine_0.2.2.1 rfl ?_
  refine r_callI (k := 0) (idx := 40) (y := 58) (as := [.ref 17, .int (1 : Int32), .int (0 : Int32)]) (rest := []) (L0 := [(0, .ref 17), (1, .int (1 : Int32)), (2, .int (0 : Int32))]) gX5_readLine_0.2.2.2.1 rfl rfl rfl rfl rfl (vok_v (ob_17 hE) rfl) rfl (r_dep (by decide) (e_X5_readJoined hE q (1 : Int32) (0 : Int32))) (fun r1 => ?_)
  refine r_istore_n (L2 := [(0, .ref 17), (1, .int r1.1)]) gX5_readLine_0.2.2.2.2.1 rfl rfl ?_
  refine r_iload_n (x := r1.1) gX5_readLine_0.2.2.2.2.2.1 rfl ?_
  refine r_if_eq (t := 47) gX5_readLine_0.2.2.2.2.2.2.1 rfl (fun h8 => ?_) (fun h8 => ?_)
  · exact r_sub (L' := [(0, .ref 17), (1, .int r1.1)]) (sub_c rfl (sub_c rfl sub_n)) (rb_X5_readLine_47 hE r1.2 r1.1)
  · refine r_aload_n (x := 17) gX5_readLine_0.2.2.2.2.2.2.2.1 rfl ?_
    refine r_calli (k := 0) (idx := 36) (y := 56) (as := [.ref 17]) (rest := []) (L0 := [(0, .ref 17)]) gX5_readLine_0.2.2.2.2.2.2.2.2.1 rfl rfl rfl rfl rfl (vok_v (ob_17 hE) rfl) rfl (r_dep (by decide) (e_X5_next hE r1.2)) (fun r3 => ?_)
    refine r_bipush (v := (63 : Int32)) gX5_readLine_0.2.2.2.2.2.2.2.2.2.1 rfl ?_
    refine r_icmp_ne (t := 47) gX5_readLine_0.2.2.2.2.2.2.2.2.2.2.1 rfl (fun h7 => ?_) (fun h7 => ?_)
    · refine r_aload_n (x := 17) gX5_readLine_0.2.2.2.2.2.2.2.2.2.2.2.1 rfl ?_
      refine r_dup gX5_readLine_0.2.2.2.2.2.2.2.2.2.2.2.2.1 rfl ?_
      refine r_getI gX5_readLine_0.2.2.2.2.2.2.2.2.2.2.2.2.2.1 (ff_5_26_17 hE) (by decide) ?_
      refine r_iconst (v := (1 : Int32)) gX5_readLine_0.2.2.2.2.2.2.2.2.2.2.2.2.2.2.1 rfl ?_
      refine r_iadd gX5_readLine_0.2.2.2.2.2.2.2.2.2.2.2.2.2.2.2.1 ?_
      refine r_putI gX5_readLine_27.1 (ff_5_26_17 hE) ?_
      refine r_nmS fun q4 _ => ?_
      refine r_aload_n (x := 17) gX5_readLine_27.2.1 rfl ?_
      refine r_getA gX5_readLine_27.2.2.1 (fa_5_18_17 hE) ?_
      refine r_bipush (v := (63 : Int32)) gX5_readLine_27.2.2.2.1 rfl ?_
      refine r_iconst (v := (0 : Int32)) gX5_readLine_27.2.2.2.2.1 rfl ?_
      refine r_callV (k := 0) (idx := 44) (y := 43) (as := [.ref 19, .int (63 : Int32), .int (0 : Int32)]) (rest := []) (L0 := [(0, .ref 19), (1, .int (63 : Int32)), (2, .int (0 : Int32))]) gX5_readLine_27.2.2.2.2.2.1 rfl rfl rfl rfl rfl (vok_v (ob_19 hE) rfl) rfl (r_dep (by decide) (e_X4_addStep hE q4 (63 : Int32) (0 : Int32))) (fun r5 => ?_)
      refine r_aload_n (x := 17) gX5_readLine_27.2.2.2.2.2.2.1 rfl ?_
      refine r_iconst (v := (1 : Int32)) gX5_readLine_27.2.2.2.2.2.2.2.1 rfl ?_
      refine r_iconst (v := (0 : Int32)) gX5_readLine_27.2.2.2.2.2.2.2.2.1 rfl ?_
      refine r_callI (k := 0) (idx := 40) (y := 58) (as := [.ref 17, .int (1 : Int32), .int (0 : Int32)]) (rest := []) (L0 := [(0, .ref 17), (1, .int (1 : Int32)), (2, .int (0 : Int32))]) gX5_readLine_27.2.2.2.2.2.2.2.2.2.1 rfl rfl rfl rfl rfl (vok_v (ob_17 hE) rfl) rfl (r_dep (by decide) (e_X5_readJoined hE r5 (1 : Int32) (0 : Int32))) (fun r6 => ?_)
      refine r_istore_n (L2 := [(0, .ref 17), (1, .int r6.1)]) gX5_readLine_27.2.2.2.2.2.2.2.2.2.2.1 rfl rfl ?_
      exact r_sub (L' := [(0, .ref 17), (1, .int r6.1)]) (sub_c rfl (sub_c rfl sub_n)) (rb_X5_readLine_47 hE r6.2 r6.1)
    · exact r_sub (L' := [(0, .ref 17), (1, .int r1.1)]) (sub_c rfl (sub_c rfl sub_n)) (rb_X5_readLine_47 hE r1.2 r1.1)
def b_X5_readText_59 (q : SS) (l1 : Int32) : Option (Int32 × SS) :=
  if l1 = 0 then
  (some ((q.1 17 3), q))
  else
  (if (q.1 17 3) < (q.1 17 2) then
  (some ((q.1 17 3), q))
  else
  (some ((-1 : Int32), q)))
theorem rb_X5_readText_59 {E : EE} (hE : GE E) (q : SS) (l1 : Int32) : R E (κI E) 904 55 59 [(0, .ref 17), (1, .int l1)] [] q (b_X5_readText_59 q l1) := by
  unfold b_X5_readText_59
  refine r_iload_n (x := l1) gX5_readText_29.2.2.2.2.2.2.2.2.2.2.2.2.2.2.2.1 rfl ?_
  refine r_if_eq (t := 78) gX5_readText_60.1 rfl (fun h5 => ?_) (fun h5 => ?_)
  · refine r_aload_n (x := 17) gX5_readText_60.2.2.2.2.2.2.2.2.1 rfl ?_
    refine r_getI gX5_readText_60.2.2.2.2.2.2.2.2.2.1 (ff_5_26_17 hE) (by decide) ?_
    exact r_ireturn gX5_readText_60.2.2.2.2.2.2.2.2.2.2.1 rfl rfl
  · refine r_aload_n (x := 17) gX5_readText_60.2.1 rfl ?_
    refine r_getI gX5_readText_60.2.2.1 (ff_5_26_17 hE) (by decide) ?_
    refine r_aload_n (x := 17) gX5_readText_60.2.2.2.1 rfl ?_
    refine r_getI gX5_readText_60.2.2.2.2.1 (ff_5_22_17 hE) (by decide) ?_
    refine r_icmp_lt (t := 78) gX5_readText_60.2.2.2.2.2.1 rfl (fun h4 => ?_) (fun h4 => ?_)
    · refine r_aload_n (x := 17) gX5_readText_60.2.2.2.2.2.2.2.2.1 rfl ?_
      refine r_getI gX5_readText_60.2.2.2.2.2.2.2.2.2.1 (ff_5_26_17 hE) (by decide) ?_
      exact r_ireturn gX5_readText_60.2.2.2.2.2.2.2.2.2.2.1 rfl rfl
    · refine r_iconst (v := (-1 : Int32)) gX5_readText_60.2.2.2.2.2.2.1 rfl ?_
      refine r_goto (t := 82) gX5_readText_60.2.2.2.2.2.2.2.1 rfl ?_
      exact r_ireturn gX5_readText_60.2.2.2.2.2.2.2.2.2.2.1 rfl rfl
def b_X5_readText_19 : SS → Int32 → Int32 → Option (Int32 × SS) :=
  fx3 (fun (rec_19 : SS → Int32 → Int32 → Option (Int32 × SS)) (q : SS) (l1 : Int32) (l2 : Int32) =>
  if (120 : Int32) ≤ l2 then
  (b_X5_readText_59 q l1)
  else
  (if l1 = 0 then
  (b_X5_readText_59 q l1)
  else
  ((f_X5_next q).bind fun r6 =>
  if r6 = (59 : Int32) then
  (nm (sI q 17 3 ((q.1 17 3) + (1 : Int32))) fun q7 =>
  (f_X5_readLine q7).bind fun r8 =>
  rec_19 r8.2 r8.1 (l2 + (1 : Int32)))
  else
  (b_X5_readText_59 q l1)))) FU
theorem rb_X5_readText_19 {E : EE} (hE : GE E) (q : SS) (l1 : Int32) (l2 : Int32) : R E (κI E) 904 55 19 [(0, .ref 17), (1, .int l1), (2, .int l2)] [] q (b_X5_readText_19 q l1 l2) := by
  unfold b_X5_readText_19
  refine fx3_ok (P := fun q l1 l2 o => R E (κI E) 904 55 19 [(0, .ref 17), (1, .int l1), (2, .int l2)] [] q o) (fun _ _ _ => r_no) (fun rec_19 hrec_19 q l1 l2 => ?_) _ _ _ _
  refine r_iload_n (x := l2) gX5_readText_0.2.2.2.2.2.2.2.2.2.2.2.1 rfl ?_
  refine r_bipush (v := (120 : Int32)) gX5_readText_0.2.2.2.2.2.2.2.2.2.2.2.2.1 rfl ?_
  refine r_icmp_ge (t := 59) gX5_readText_0.2.2.2.2.2.2.2.2.2.2.2.2.2.1 rfl (fun h11 => ?_) (fun h11 => ?_)
  · exact r_sub (L' := [(0, .ref 17), (1, .int l1)]) (sub_c rfl (sub_c rfl sub_n)) (rb_X5_readText_59 hE q l1)
  · refine r_iload_n (x := l1) gX5_readText_0.2.2.2.2.2.2.2.2.2.2.2.2.2.2.1 rfl ?_
    refine r_if_eq (t := 59) gX5_readText_0.2.2.2.2.2.2.2.2.2.2.2.2.2.2.2.1 rfl (fun h10 => ?_) (fun h10 => ?_)
    · exact r_sub (L' := [(0, .ref 17), (1, .int l1)]) (sub_c rfl (sub_c rfl sub_n)) (rb_X5_readText_59 hE q l1)
    · refine r_aload_n (x := 17) gX5_readText_29.1 rfl ?_
      refine r_calli (k := 0) (idx := 36) (y := 56) (as := [.ref 17]) (rest := []) (L0 := [(0, .ref 17)]) gX5_readText_29.2.1 rfl rfl rfl rfl rfl (vok_v (ob_17 hE) rfl) rfl (r_dep (by decide) (e_X5_next hE q)) (fun r6 => ?_)
      refine r_bipush (v := (59 : Int32)) gX5_readText_29.2.2.1 rfl ?_
      refine r_icmp_ne (t := 59) gX5_readText_29.2.2.2.1 rfl (fun h9 => ?_) (fun h9 => ?_)
      · refine r_aload_n (x := 17) gX5_readText_29.2.2.2.2.1 rfl ?_
        refine r_dup gX5_readText_29.2.2.2.2.2.1 rfl ?_
        refine r_getI gX5_readText_29.2.2.2.2.2.2.1 (ff_5_26_17 hE) (by decide) ?_
        refine r_iconst (v := (1 : Int32)) gX5_readText_29.2.2.2.2.2.2.2.1 rfl ?_
        refine r_iadd gX5_readText_29.2.2.2.2.2.2.2.2.1 ?_
        refine r_putI gX5_readText_29.2.2.2.2.2.2.2.2.2.1 (ff_5_26_17 hE) ?_
        refine r_nmS fun q7 _ => ?_
        refine r_aload_n (x := 17) gX5_readText_29.2.2.2.2.2.2.2.2.2.2.1 rfl ?_
        refine r_callI (k := 0) (idx := 32) (y := 57) (as := [.ref 17]) (rest := []) (L0 := [(0, .ref 17)]) gX5_readText_29.2.2.2.2.2.2.2.2.2.2.2.1 rfl rfl rfl rfl rfl (vok_v (ob_17 hE) rfl) rfl (r_dep (by decide) (e_X5_readLine hE q7)) (fun r8 => ?_)
        refine r_istore_n (L2 := [(0, .ref 17), (1, .int r8.1), (2, .int l2)]) gX5_readText_29.2.2.2.2.2.2.2.2.2.2.2.2.1 rfl rfl ?_
        refine r_iinc (x := l2) (v := (l2 + (1 : Int32))) (L2 := [(0, .ref 17), (1, .int r8.1), (2, .int (l2 + (1 : Int32)))]) gX5_readText_29.2.2.2.2.2.2.2.2.2.2.2.2.2.1 rfl rfl rfl rfl ?_
        refine r_goto (t := 19) gX5_readText_29.2.2.2.2.2.2.2.2.2.2.2.2.2.2.1 rfl ?_
        exact r_sub (L' := [(0, .ref 17), (1, .int r8.1), (2, .int (l2 + (1 : Int32)))]) (sub_c rfl (sub_c rfl (sub_c rfl sub_n))) (hrec_19 r8.2 r8.1 (l2 + (1 : Int32)))
      · exact r_sub (L' := [(0, .ref 17), (1, .int l1)]) (sub_c rfl (sub_c rfl sub_n)) (rb_X5_readText_59 hE q l1)
def f_X5_readText (q : SS)  : Option (Int32 × SS) :=
  nm (sI q 17 3 (0 : Int32)) fun q1 =>
  (f_X4_clear q1).bind fun r2 =>
  (f_X5_readLine r2).bind fun r3 =>
  b_X5_readText_19 r3.2 r3.1 (0 : Int32)
theorem e_X5_readText {E : EE} (hE : GE E) (q : SS)  : R E (κI E) 904 55 0 [(0, .ref 17)] [] q (f_X5_readText q) := by
  unfold f_X5_readText
  refine r_aload_n (x := 17) gX5_readText_0.1 rfl ?_
  refine r_iconst (v := (0 : Int32)) gX5_readText_0.2.1 rfl ?_
  refine r_putI gX5_readText_0.2.2.1 (ff_5_26_17 hE) ?_
  refine r_nmS fun q1 _ => ?_
  refine r_aload_n (x := 17) gX5_readText_0.2.2.2.1 rfl ?_
  refine r_getA gX5_readText_0.2.2.2.2.1 (fa_5_18_17 hE) ?_
  refine r_callV (k := 0) (idx := 29) (y := 42) (as := [.ref 19]) (rest := []) (L0 := [(0, .ref 19)]) gX5_readText_0.2.2.2.2.2.1 rfl rfl rfl rfl rfl (vok_v (ob_19 hE) rfl) rfl (r_dep (by decide) (e_X4_clear hE q1)) (fun r2 => ?_)
  refine r_aload_n (x := 17) gX5_readText_0.2.2.2.2.2.2.1 rfl ?_
  refine r_callI (k := 0) (idx := 32) (y := 57) (as := [.ref 17]) (rest := []) (L0 := [(0, .ref 17)]) gX5_readText_0.2.2.2.2.2.2.2.1 rfl rfl rfl rfl rfl (vok_v (ob_17 hE) rfl) rfl (r_dep (by decide) (e_X5_readLine hE r2)) (fun r3 => ?_)
  refine r_istore_n (L2 := [(0, .ref 17), (1, .int r3.1)]) gX5_readText_0.2.2.2.2.2.2.2.2.1 rfl rfl ?_
  refine r_iconst (v := (0 : Int32)) gX5_readText_0.2.2.2.2.2.2.2.2.2.1 rfl ?_
  refine r_istore_n (L2 := [(0, .ref 17), (1, .int r3.1), (2, .int (0 : Int32))]) gX5_readText_0.2.2.2.2.2.2.2.2.2.2.1 rfl rfl ?_
  exact r_sub (L' := [(0, .ref 17), (1, .int r3.1), (2, .int (0 : Int32))]) (sub_c rfl (sub_c rfl (sub_c rfl sub_n))) (rb_X5_readText_19 hE r3.2 r3.1 (0 : Int32))
def f_X5_draft (q : SS)  : Option Unit :=
  some ()
theorem e_X5_draft {E : EE} (hE : GE E) (q : SS)  : R E (κa E 19 q) 0 54 0 [(0, .ref 17)] [] q (f_X5_draft q) := by
  unfold f_X5_draft
  refine r_aload_n (x := 17) gX5_draft_0.1 rfl ?_
  refine r_getA gX5_draft_0.2.1 (fa_5_18_17 hE) ?_
  exact r_areturn gX5_draft_0.2.2.1 rfl rfl
def f_X4_become (q : SS)  : Option SS :=
  nm (sI q 12 4 (q.1 19 4)) fun q1 =>
  if cpok 121 121 (0 : Int32) (0 : Int32) (121 : Int32) then
  nm (sR q1 13 (va_cpy (q1.1 20) (q1.1 13) (0 : Int32).toNatClampNeg (0 : Int32).toNatClampNeg (121 : Int32).toNatClampNeg)) fun q2 =>
  if cpok 121 121 (0 : Int32) (0 : Int32) (121 : Int32) then
  nm (sR q2 14 (va_cpy (q2.1 21) (q2.1 14) (0 : Int32).toNatClampNeg (0 : Int32).toNatClampNeg (121 : Int32).toNatClampNeg)) fun q3 =>
  some q3
  else none
  else none
theorem e_X4_become {E : EE} (hE : GE E) (q : SS)  : R E (κV E) 1 44 0 [(0, .ref 12), (1, .ref 19)] [] q (f_X4_become q) := by
  unfold f_X4_become
  refine r_aload_n (x := 12) gX4_become_0.1 rfl ?_
  refine r_aload_n (x := 19) gX4_become_0.2.1 rfl ?_
  refine r_getI gX4_become_0.2.2.1 (ff_4_24_19 hE) (by decide) ?_
  refine r_putI gX4_become_0.2.2.2.1 (ff_4_24_12 hE) ?_
  refine r_nmS fun q1 _ => ?_
  refine r_aload_n (x := 19) gX4_become_0.2.2.2.2.1 rfl ?_
  refine r_getA gX4_become_0.2.2.2.2.2.1 (fa_4_11_19 hE) ?_
  refine r_iconst (v := (0 : Int32)) gX4_become_0.2.2.2.2.2.2.1 rfl ?_
  refine r_aload_n (x := 12) gX4_become_0.2.2.2.2.2.2.2.1 rfl ?_
  refine r_getA gX4_become_0.2.2.2.2.2.2.2.2.1 (fa_4_11_12 hE) ?_
  refine r_iconst (v := (0 : Int32)) gX4_become_0.2.2.2.2.2.2.2.2.2.1 rfl ?_
  refine r_bipush (v := (121 : Int32)) gX4_become_0.2.2.2.2.2.2.2.2.2.2.1 rfl ?_
  refine r_cpyI gX4_become_0.2.2.2.2.2.2.2.2.2.2.2.1 ⟨rfl, rfl, rfl⟩ (ar_20 hE) (ar_13 hE) rfl ?_
  refine r_nmS fun q2 _ => ?_
  refine r_aload_n (x := 19) gX4_become_0.2.2.2.2.2.2.2.2.2.2.2.2.1 rfl ?_
  refine r_getA gX4_become_0.2.2.2.2.2.2.2.2.2.2.2.2.2.1 (fa_4_15_19 hE) ?_
  refine r_iconst (v := (0 : Int32)) gX4_become_0.2.2.2.2.2.2.2.2.2.2.2.2.2.2.1 rfl ?_
  refine r_aload_n (x := 12) gX4_become_0.2.2.2.2.2.2.2.2.2.2.2.2.2.2.2.1 rfl ?_
  refine r_getA gX4_become_29.1 (fa_4_15_12 hE) ?_
  refine r_iconst (v := (0 : Int32)) gX4_become_29.2.1 rfl ?_
  refine r_bipush (v := (121 : Int32)) gX4_become_29.2.2.1 rfl ?_
  refine r_cpyI gX4_become_29.2.2.2.1 ⟨rfl, rfl, rfl⟩ (ar_21 hE) (ar_14 hE) rfl ?_
  refine r_nmS fun q3 _ => ?_
  exact r_return gX4_become_29.2.2.2.2.1 rfl rfl
def f_X5_emptyTape (q : SS)  : Option SS :=
  nm (sI q 17 2 (0 : Int32)) fun q1 =>
  some q1
theorem e_X5_emptyTape {E : EE} (hE : GE E) (q : SS)  : R E (κV E) 0 53 0 [(0, .ref 17)] [] q (f_X5_emptyTape q) := by
  unfold f_X5_emptyTape
  refine r_aload_n (x := 17) gX5_emptyTape_0.1 rfl ?_
  refine r_iconst (v := (0 : Int32)) gX5_emptyTape_0.2.1 rfl ?_
  refine r_putI gX5_emptyTape_0.2.2.1 (ff_5_22_17 hE) ?_
  refine r_nmS fun q1 _ => ?_
  exact r_return gX5_emptyTape_0.2.2.2.1 rfl rfl
def b_X11_law_26 (q : SS) (l1 : Int32) : Option (Int32 × SS) :=
  (f_X5_emptyTape q).bind fun r2 =>
  if 0 ≤ l1 then
  (some (((-100 : Int32) - l1), r2))
  else
  (some ((1 : Int32), r2))
theorem rb_X11_law_26 {E : EE} (hE : GE E) (q : SS) (l1 : Int32) : R E (κI E) 905 146 26 [(0, .ref 0), (1, .int l1)] [] q (b_X11_law_26 q l1) := by
  unfold b_X11_law_26
  refine r_aload_n (x := 0) gX11_law_0.2.2.2.2.2.2.2.2.2.2.2.2.1 rfl ?_
  refine r_getA gX11_law_0.2.2.2.2.2.2.2.2.2.2.2.2.2.1 (fa_11_26_0 hE) ?_
  refine r_callV (k := 0) (idx := 168) (y := 53) (as := [.ref 17]) (rest := []) (L0 := [(0, .ref 17)]) gX11_law_0.2.2.2.2.2.2.2.2.2.2.2.2.2.2.1 rfl rfl rfl rfl rfl (vok_v (ob_17 hE) rfl) rfl (r_dep (by decide) (e_X5_emptyTape hE q)) (fun r2 => ?_)
  refine r_iload_n (x := l1) gX11_law_0.2.2.2.2.2.2.2.2.2.2.2.2.2.2.2.1 rfl ?_
  refine r_if_ge (t := 41) gX11_law_34.1 rfl (fun h3 => ?_) (fun h3 => ?_)
  · refine r_bipush (v := (-100 : Int32)) gX11_law_34.2.2.2.1 rfl ?_
    refine r_iload_n (x := l1) gX11_law_34.2.2.2.2.1 rfl ?_
    refine r_isub gX11_law_34.2.2.2.2.2.1 ?_
    exact r_ireturn gX11_law_34.2.2.2.2.2.2.1 rfl rfl
  · refine r_iconst (v := (1 : Int32)) gX11_law_34.2.1 rfl ?_
    refine r_goto (t := 45) gX11_law_34.2.2.1 rfl ?_
    exact r_ireturn gX11_law_34.2.2.2.2.2.2.1 rfl rfl
def f_X11_law (q : SS)  : Option (Int32 × SS) :=
  (f_X5_readText q).bind fun r1 =>
  if 0 ≤ r1.1 then
  (b_X11_law_26 r1.2 r1.1)
  else
  ((f_X5_draft r1.2).bind fun _ =>
  (f_X4_become r1.2).bind fun r4 =>
  b_X11_law_26 r4 r1.1)
theorem e_X11_law {E : EE} (hE : GE E) (q : SS)  : R E (κI E) 905 146 0 [(0, .ref 0)] [] q (f_X11_law q) := by
  unfold f_X11_law
  refine r_aload_n (x := 0) gX11_law_0.1 rfl ?_
  refine r_getA gX11_law_0.2.1 (fa_11_26_0 hE) ?_
  refine r_callI (k := 0) (idx := 156) (y := 55) (as := [.ref 17]) (rest := []) (L0 := [(0, .ref 17)]) gX11_law_0.2.2.1 rfl rfl rfl rfl rfl (vok_v (ob_17 hE) rfl) rfl (r_dep (by decide) (e_X5_readText hE q)) (fun r1 => ?_)
  refine r_istore_n (L2 := [(0, .ref 0), (1, .int r1.1)]) gX11_law_0.2.2.2.1 rfl rfl ?_
  refine r_iload_n (x := r1.1) gX11_law_0.2.2.2.2.1 rfl ?_
  refine r_if_ge (t := 26) gX11_law_0.2.2.2.2.2.1 rfl (fun h5 => ?_) (fun h5 => ?_)
  · exact r_sub (L' := [(0, .ref 0), (1, .int r1.1)]) (sub_c rfl (sub_c rfl sub_n)) (rb_X11_law_26 hE r1.2 r1.1)
  · refine r_aload_n (x := 0) gX11_law_0.2.2.2.2.2.2.1 rfl ?_
    refine r_getA gX11_law_0.2.2.2.2.2.2.2.1 (fa_11_19_0 hE) ?_
    refine r_aload_n (x := 0) gX11_law_0.2.2.2.2.2.2.2.2.1 rfl ?_
    refine r_getA gX11_law_0.2.2.2.2.2.2.2.2.2.1 (fa_11_26_0 hE) ?_
    refine r_calla (k := 0) (idx := 160) (y := 54) (as := [.ref 17]) (rest := [.ref 12]) (L0 := [(0, .ref 17)]) gX11_law_0.2.2.2.2.2.2.2.2.2.2.1 rfl rfl rfl rfl rfl (vok_v (ob_17 hE) rfl) rfl (r_dep (by decide) (e_X5_draft hE r1.2)) (fun _ => ?_)
    refine r_callV (k := 0) (idx := 164) (y := 44) (as := [.ref 12, .ref 19]) (rest := []) (L0 := [(0, .ref 12), (1, .ref 19)]) gX11_law_0.2.2.2.2.2.2.2.2.2.2.2.1 rfl rfl rfl rfl rfl (vok_v (ob_12 hE) rfl) rfl (r_dep (by decide) (e_X4_become hE r1.2)) (fun r4 => ?_)
    exact r_sub (L' := [(0, .ref 0), (1, .int r1.1)]) (sub_c rfl (sub_c rfl sub_n)) (rb_X11_law_26 hE r4 r1.1)
def f_X12_look (q : SS)  : Option Int32 :=
  if (q.1 60 18) ≤ (q.1 60 19) then
  (some (-1 : Int32))
  else
  (if vin (q.1 60 19) 120 then
  some (q.1 73 (q.1 60 19).toNatClampNeg)
  else none)
theorem e_X12_look {E : EE} (hE : GE E) (q : SS)  : R E (κi E q) 0 208 0 [(0, .ref 60)] [] q (f_X12_look q) := by
  unfold f_X12_look
  refine r_aload_n (x := 60) gX12_look_0.1 rfl ?_
  refine r_getI gX12_look_0.2.1 (ff_12_181_60 hE) (by decide) ?_
  refine r_aload_n (x := 60) gX12_look_0.2.2.1 rfl ?_
  refine r_getI gX12_look_0.2.2.2.1 (ff_12_178_60 hE) (by decide) ?_
  refine r_icmp_ge (t := 23) gX12_look_0.2.2.2.2.1 rfl (fun h1 => ?_) (fun h1 => ?_)
  · refine r_iconst (v := (-1 : Int32)) gX12_look_0.2.2.2.2.2.2.2.2.2.2.2.1 rfl ?_
    exact r_ireturn gX12_look_0.2.2.2.2.2.2.2.2.2.2.2.2.1 rfl rfl
  · refine r_aload_n (x := 60) gX12_look_0.2.2.2.2.2.1 rfl ?_
    refine r_getA gX12_look_0.2.2.2.2.2.2.1 (fa_12_48_60 hE) ?_
    refine r_aload_n (x := 60) gX12_look_0.2.2.2.2.2.2.2.1 rfl ?_
    refine r_getI gX12_look_0.2.2.2.2.2.2.2.2.1 (ff_12_181_60 hE) (by decide) ?_
    refine r_baload gX12_look_0.2.2.2.2.2.2.2.2.2.1 (ar_73 hE) ?_
    refine r_goto (t := 24) gX12_look_0.2.2.2.2.2.2.2.2.2.2.1 rfl ?_
    exact r_ireturn gX12_look_0.2.2.2.2.2.2.2.2.2.2.2.2.1 rfl rfl
def f_X12_nameOf (q : SS) (a0 : Int32) : Option Int32 :=
  sw a0 [(98, (some (1 : Int32))), (102, (some (3 : Int32))), (104, (some (4 : Int32))), (110, (some (2 : Int32))), (115, (some (5 : Int32))), (119, (some (0 : Int32)))]
  (some (-1 : Int32))
theorem e_X12_nameOf {E : EE} (hE : GE E) (q : SS) (a0 : Int32) : R E (κi E q) 0 211 0 [(0, .int a0)] [] q (f_X12_nameOf q a0) := by
  unfold f_X12_nameOf
  refine r_iload_n (x := a0) gX12_nameOf_0.1 rfl ?_
  refine r_sw1 (fun h1 => ?_) (fun h1 => ?_)
  · refine r_jmp (t := 62) dX12_nameOf_1 rfl (by rw [h1]; rfl) ?_
    refine r_iconst (v := (1 : Int32)) gX12_nameOf_60.2.2.1 rfl ?_
    exact r_ireturn gX12_nameOf_60.2.2.2.1 rfl rfl
  refine r_sw1 (fun h2 => ?_) (fun h2 => ?_)
  · refine r_jmp (t := 66) dX12_nameOf_1 rfl (by rw [h2]; rfl) ?_
    refine r_iconst (v := (3 : Int32)) gX12_nameOf_60.2.2.2.2.2.2.1 rfl ?_
    exact r_ireturn gX12_nameOf_60.2.2.2.2.2.2.2.1 rfl rfl
  refine r_sw1 (fun h3 => ?_) (fun h3 => ?_)
  · refine r_jmp (t := 68) dX12_nameOf_1 rfl (by rw [h3]; rfl) ?_
    refine r_iconst (v := (4 : Int32)) gX12_nameOf_60.2.2.2.2.2.2.2.2.1 rfl ?_
    exact r_ireturn gX12_nameOf_60.2.2.2.2.2.2.2.2.2.1 rfl rfl
  refine r_sw1 (fun h4 => ?_) (fun h4 => ?_)
  · refine r_jmp (t := 64) dX12_nameOf_1 rfl (by rw [h4]; rfl) ?_
    refine r_iconst (v := (2 : Int32)) gX12_nameOf_60.2.2.2.2.1 rfl ?_
    exact r_ireturn gX12_nameOf_60.2.2.2.2.2.1 rfl rfl
  refine r_sw1 (fun h5 => ?_) (fun h5 => ?_)
  · refine r_jmp (t := 70) dX12_nameOf_1 rfl (by rw [h5]; rfl) ?_
    refine r_iconst (v := (5 : Int32)) gX12_nameOf_60.2.2.2.2.2.2.2.2.2.2.1 rfl ?_
    exact r_ireturn gX12_nameOf_60.2.2.2.2.2.2.2.2.2.2.2.1 rfl rfl
  refine r_sw1 (fun h6 => ?_) (fun h6 => ?_)
  · refine r_jmp (t := 60) dX12_nameOf_1 rfl (by rw [h6]; rfl) ?_
    refine r_iconst (v := (0 : Int32)) gX12_nameOf_60.1 rfl ?_
    exact r_ireturn gX12_nameOf_60.2.1 rfl rfl
  refine r_jmp (t := 72) dX12_nameOf_1 rfl ?_ ?_
  · exact sw_lk rfl (nq_c h1 (nq_c h2 (nq_c h3 (nq_c h4 (nq_c h5 (nq_c h6 nq_n)))))) rfl
  refine r_iconst (v := (-1 : Int32)) gX12_nameOf_60.2.2.2.2.2.2.2.2.2.2.2.2.1 rfl ?_
  exact r_ireturn gX12_nameOf_60.2.2.2.2.2.2.2.2.2.2.2.2.2.1 rfl rfl
def f_X12_addStep (q : SS) (a1 : Int32) (a2 : Int32) : Option SS :=
  if vin ((130 : Int32) + (q.1 60 22)) 260 then
  nm (sI q 74 ((130 : Int32) + (q.1 60 22)).toNatClampNeg ((a1.toInt8.toInt32).toInt8.toInt32)) fun q1 =>
  if vin ((130 : Int32) + (q1.1 60 22)) 260 then
  nm (sI q1 75 ((130 : Int32) + (q1.1 60 22)).toNatClampNeg a2) fun q2 =>
  nm (sI q2 60 22 ((q2.1 60 22) + (1 : Int32))) fun q3 =>
  some q3
  else none
  else none
theorem e_X12_addStep {E : EE} (hE : GE E) (q : SS) (a1 : Int32) (a2 : Int32) : R E (κV E) 0 210 0 [(0, .ref 60), (1, .int a1), (2, .int a2)] [] q (f_X12_addStep q a1 a2) := by
  unfold f_X12_addStep
  refine r_aload_n (x := 60) gX12_addStep_0.1 rfl ?_
  refine r_getA gX12_addStep_0.2.1 (fa_12_52_60 hE) ?_
  refine r_sipush (v := (130 : Int32)) gX12_addStep_0.2.2.1 rfl ?_
  refine r_aload_n (x := 60) gX12_addStep_0.2.2.2.1 rfl ?_
  refine r_getI gX12_addStep_0.2.2.2.2.1 (ff_12_187_60 hE) (by decide) ?_
  refine r_iadd gX12_addStep_0.2.2.2.2.2.1 ?_
  refine r_iload_n (x := a1) gX12_addStep_0.2.2.2.2.2.2.1 rfl ?_
  refine r_i2b gX12_addStep_0.2.2.2.2.2.2.2.1 ?_
  refine r_bastore gX12_addStep_0.2.2.2.2.2.2.2.2.1 (ar_74 hE) ?_
  refine r_nmS fun q1 _ => ?_
  refine r_aload_n (x := 60) gX12_addStep_0.2.2.2.2.2.2.2.2.2.1 rfl ?_
  refine r_getA gX12_addStep_0.2.2.2.2.2.2.2.2.2.2.1 (fa_12_55_60 hE) ?_
  refine r_sipush (v := (130 : Int32)) gX12_addStep_0.2.2.2.2.2.2.2.2.2.2.2.1 rfl ?_
  refine r_aload_n (x := 60) gX12_addStep_0.2.2.2.2.2.2.2.2.2.2.2.2.1 rfl ?_
  refine r_getI gX12_addStep_0.2.2.2.2.2.2.2.2.2.2.2.2.2.1 (ff_12_187_60 hE) (by decide) ?_
  refine r_iadd gX12_addStep_0.2.2.2.2.2.2.2.2.2.2.2.2.2.2.1 ?_
  refine r_iload_n (x := a2) gX12_addStep_0.2.2.2.2.2.2.2.2.2.2.2.2.2.2.2.1 rfl ?_
  refine r_iastore gX12_addStep_28.1 (ar_75 hE) ?_
  refine r_nmS fun q2 _ => ?_
  refine r_aload_n (x := 60) gX12_addStep_28.2.1 rfl ?_
  refine r_dup gX12_addStep_28.2.2.1 rfl ?_
  refine r_getI gX12_addStep_28.2.2.2.1 (ff_12_187_60 hE) (by decide) ?_
  refine r_iconst (v := (1 : Int32)) gX12_addStep_28.2.2.2.2.1 rfl ?_
  refine r_iadd gX12_addStep_28.2.2.2.2.2.1 ?_
  refine r_putI gX12_addStep_28.2.2.2.2.2.2.1 (ff_12_187_60 hE) ?_
  refine r_nmS fun q3 _ => ?_
  exact r_return gX12_addStep_28.2.2.2.2.2.2.2.1 rfl rfl
def f_X12_wrong (q : SS)  : Option SS :=
  if 0 ≤ (q.1 60 20) then
  (some q)
  else
  (nm (sI q 60 20 (q.1 60 19)) fun q1 =>
  some q1)
theorem e_X12_wrong {E : EE} (hE : GE E) (q : SS)  : R E (κV E) 0 209 0 [(0, .ref 60)] [] q (f_X12_wrong q) := by
  unfold f_X12_wrong
  refine r_aload_n (x := 60) gX12_wrong_0.1 rfl ?_
  refine r_getI gX12_wrong_0.2.1 (ff_12_184_60 hE) (by decide) ?_
  refine r_if_ge (t := 15) gX12_wrong_0.2.2.1 rfl (fun h2 => ?_) (fun h2 => ?_)
  · exact r_return gX12_wrong_0.2.2.2.2.2.2.2.1 rfl rfl
  · refine r_aload_n (x := 60) gX12_wrong_0.2.2.2.1 rfl ?_
    refine r_aload_n (x := 60) gX12_wrong_0.2.2.2.2.1 rfl ?_
    refine r_getI gX12_wrong_0.2.2.2.2.2.1 (ff_12_181_60 hE) (by decide) ?_
    refine r_putI gX12_wrong_0.2.2.2.2.2.2.1 (ff_12_184_60 hE) ?_
    refine r_nmS fun q1 _ => ?_
    exact r_return gX12_wrong_0.2.2.2.2.2.2.2.1 rfl rfl
def f_X12_opens (q : SS)  : Option (Int32 × SS) :=
  if (q.1 60 21) = (6 : Int32) then
  ((f_X12_wrong q).bind fun r1 =>
  some ((0 : Int32), r1))
  else
  (nm (sI q 60 21 ((q.1 60 21) + (1 : Int32))) fun q2 =>
  nm (sI q2 60 19 ((q2.1 60 19) + (1 : Int32))) fun q3 =>
  some ((1 : Int32), q3))
theorem e_X12_opens {E : EE} (hE : GE E) (q : SS)  : R E (κI E) 1 212 0 [(0, .ref 60)] [] q (f_X12_opens q) := by
  unfold f_X12_opens
  refine r_aload_n (x := 60) gX12_opens_0.1 rfl ?_
  refine r_getI gX12_opens_0.2.1 (ff_12_190_60 hE) (by decide) ?_
  refine r_bipush (v := (6 : Int32)) gX12_opens_0.2.2.1 rfl ?_
  refine r_icmp_ne (t := 15) gX12_opens_0.2.2.2.1 rfl (fun h4 => ?_) (fun h4 => ?_)
  · refine r_aload_n (x := 60) gX12_opens_0.2.2.2.2.1 rfl ?_
    refine r_callV (k := 0) (idx := 193) (y := 209) (as := [.ref 60]) (rest := []) (L0 := [(0, .ref 60)]) gX12_opens_0.2.2.2.2.2.1 rfl rfl rfl rfl rfl (vok_v (ob_60 hE) rfl) rfl (r_dep (by decide) (e_X12_wrong hE q)) (fun r1 => ?_)
    refine r_iconst (v := (0 : Int32)) gX12_opens_0.2.2.2.2.2.2.1 rfl ?_
    exact r_ireturn gX12_opens_0.2.2.2.2.2.2.2.1 rfl rfl
  · refine r_aload_n (x := 60) gX12_opens_0.2.2.2.2.2.2.2.2.1 rfl ?_
    refine r_dup gX12_opens_0.2.2.2.2.2.2.2.2.2.1 rfl ?_
    refine r_getI gX12_opens_0.2.2.2.2.2.2.2.2.2.2.1 (ff_12_190_60 hE) (by decide) ?_
    refine r_iconst (v := (1 : Int32)) gX12_opens_0.2.2.2.2.2.2.2.2.2.2.2.1 rfl ?_
    refine r_iadd gX12_opens_0.2.2.2.2.2.2.2.2.2.2.2.2.1 ?_
    refine r_putI gX12_opens_0.2.2.2.2.2.2.2.2.2.2.2.2.2.1 (ff_12_190_60 hE) ?_
    refine r_nmS fun q2 _ => ?_
    refine r_aload_n (x := 60) gX12_opens_0.2.2.2.2.2.2.2.2.2.2.2.2.2.2.1 rfl ?_
    refine r_dup gX12_opens_0.2.2.2.2.2.2.2.2.2.2.2.2.2.2.2.1 rfl ?_
    refine r_getI gX12_opens_27.1 (ff_12_181_60 hE) (by decide) ?_
    refine r_iconst (v := (1 : Int32)) gX12_opens_27.2.1 rfl ?_
    refine r_iadd gX12_opens_27.2.2.1 ?_
    refine r_putI gX12_opens_27.2.2.2.1 (ff_12_181_60 hE) ?_
    refine r_nmS fun q3 _ => ?_
    refine r_iconst (v := (1 : Int32)) gX12_opens_27.2.2.2.2.1 rfl ?_
    exact r_ireturn gX12_opens_27.2.2.2.2.2.1 rfl rfl
def b_X12_figure_74 (q : SS) (l1 : Int32) : Option SS :=
  (f_X12_addStep q (1 : Int32) l1).bind fun r2 =>
  some r2
theorem rb_X12_figure_74 {E : EE} (hE : GE E) (q : SS) (l1 : Int32) : R E (κV E) 1 213 74 [(0, .ref 60), (1, .int l1)] [] q (b_X12_figure_74 q l1) := by
  unfold b_X12_figure_74
  refine r_aload_n (x := 60) gX12_figure_56.2.2.2.2.2.2.2.2.1 rfl ?_
  refine r_iconst (v := (1 : Int32)) gX12_figure_56.2.2.2.2.2.2.2.2.2.1 rfl ?_
  refine r_iload_n (x := l1) gX12_figure_56.2.2.2.2.2.2.2.2.2.2.1 rfl ?_
  refine r_callV (k := 0) (idx := 200) (y := 210) (as := [.ref 60, .int (1 : Int32), .int l1]) (rest := []) (L0 := [(0, .ref 60), (1, .int (1 : Int32)), (2, .int l1)]) gX12_figure_56.2.2.2.2.2.2.2.2.2.2.2.1 rfl rfl rfl rfl rfl (vok_v (ob_60 hE) rfl) rfl (r_dep (by decide) (e_X12_addStep hE q (1 : Int32) l1)) (fun r2 => ?_)
  exact r_return gX12_figure_56.2.2.2.2.2.2.2.2.2.2.2.2.1 rfl rfl
def b_X12_figure_70 (q : SS) (l1 : Int32) : Option SS :=
  (f_X12_wrong q).bind fun r1 =>
  b_X12_figure_74 r1 l1
theorem rb_X12_figure_70 {E : EE} (hE : GE E) (q : SS) (l1 : Int32) : R E (κV E) 1 213 70 [(0, .ref 60), (1, .int l1)] [] q (b_X12_figure_70 q l1) := by
  unfold b_X12_figure_70
  refine r_aload_n (x := 60) gX12_figure_56.2.2.2.2.2.2.1 rfl ?_
  refine r_callV (k := 0) (idx := 193) (y := 209) (as := [.ref 60]) (rest := []) (L0 := [(0, .ref 60)]) gX12_figure_56.2.2.2.2.2.2.2.1 rfl rfl rfl rfl rfl (vok_v (ob_60 hE) rfl) rfl (r_dep (by decide) (e_X12_wrong hE q)) (fun r1 => ?_)
  exact r_sub (L' := [(0, .ref 60), (1, .int l1)]) (sub_c rfl (sub_c rfl sub_n)) (rb_X12_figure_74 hE r1 l1)
def b_X12_figure_52 (q : SS) (l1 : Int32) (l2 : Int32) : Option SS :=
  if l2 = 0 then
  (b_X12_figure_70 q l1)
  else
  ((f_X12_look q).bind fun r3 =>
  (f_X12_in q r3 (48 : Int32) (57 : Int32)).bind fun r4 =>
  if r4 = 0 then
  (b_X12_figure_74 q l1)
  else
  (b_X12_figure_70 q l1))
theorem rb_X12_figure_52 {E : EE} (hE : GE E) (q : SS) (l1 : Int32) (l2 : Int32) : R E (κV E) 1 213 52 [(0, .ref 60), (1, .int l1), (2, .int l2)] [] q (b_X12_figure_52 q l1 l2) := by
  unfold b_X12_figure_52
  refine r_iload_n (x := l2) gX12_figure_27.2.2.2.2.2.2.2.2.2.2.2.2.2.2.1 rfl ?_
  refine r_if_eq (t := 70) gX12_figure_27.2.2.2.2.2.2.2.2.2.2.2.2.2.2.2.1 rfl (fun h6 => ?_) (fun h6 => ?_)
  · exact r_sub (L' := [(0, .ref 60), (1, .int l1)]) (sub_c rfl (sub_c rfl sub_n)) (rb_X12_figure_70 hE q l1)
  · refine r_aload_n (x := 60) gX12_figure_56.1 rfl ?_
    refine r_calli (k := 0) (idx := 196) (y := 208) (as := [.ref 60]) (rest := []) (L0 := [(0, .ref 60)]) gX12_figure_56.2.1 rfl rfl rfl rfl rfl (vok_v (ob_60 hE) rfl) rfl (r_dep (by decide) (e_X12_look hE q)) (fun r3 => ?_)
    refine r_bipush (v := (48 : Int32)) gX12_figure_56.2.2.1 rfl ?_
    refine r_bipush (v := (57 : Int32)) gX12_figure_56.2.2.2.1 rfl ?_
    refine r_calli (k := 2) (idx := 118) (y := 189) (as := [.int r3, .int (48 : Int32), .int (57 : Int32)]) (rest := []) (L0 := [(0, .int r3), (1, .int (48 : Int32)), (2, .int (57 : Int32))]) gX12_figure_56.2.2.2.2.1 rfl rfl rfl rfl rfl vok_s rfl (r_dep (by decide) (e_X12_in hE q r3 (48 : Int32) (57 : Int32))) (fun r4 => ?_)
    refine r_if_eq (t := 74) gX12_figure_56.2.2.2.2.2.1 rfl (fun h5 => ?_) (fun h5 => ?_)
    · exact r_sub (L' := [(0, .ref 60), (1, .int l1)]) (sub_c rfl (sub_c rfl sub_n)) (rb_X12_figure_74 hE q l1)
    · exact r_sub (L' := [(0, .ref 60), (1, .int l1)]) (sub_c rfl (sub_c rfl sub_n)) (rb_X12_figure_70 hE q l1)
def b_X12_figure_4 : SS → Int32 → Int32 → Option SS :=
  fx3 (fun (rec_4 : SS → Int32 → Int32 → Option SS) (q : SS) (l1 : Int32) (l2 : Int32) =>
  if (4 : Int32) ≤ l2 then
  (b_X12_figure_52 q l1 l2)
  else
  ((f_X12_look q).bind fun r7 =>
  (f_X12_in q r7 (48 : Int32) (57 : Int32)).bind fun r8 =>
  if r8 = 0 then
  (b_X12_figure_52 q l1 l2)
  else
  ((f_X12_look q).bind fun r9 =>
  nm ((((10 : Int32) * l1) + r9) - (48 : Int32)) fun v10 =>
  nm (sI q 60 19 ((q.1 60 19) + (1 : Int32))) fun q11 =>
  rec_4 q11 v10 (l2 + (1 : Int32))))) FU
theorem rb_X12_figure_4 {E : EE} (hE : GE E) (q : SS) (l1 : Int32) (l2 : Int32) : R E (κV E) 1 213 4 [(0, .ref 60), (1, .int l1), (2, .int l2)] [] q (b_X12_figure_4 q l1 l2) := by
  unfold b_X12_figure_4
  refine fx3_ok (P := fun q l1 l2 o => R E (κV E) 1 213 4 [(0, .ref 60), (1, .int l1), (2, .int l2)] [] q o) (fun _ _ _ => r_no) (fun rec_4 hrec_4 q l1 l2 => ?_) _ _ _ _
  refine r_iload_n (x := l2) gX12_figure_0.2.2.2.2.1 rfl ?_
  refine r_iconst (v := (4 : Int32)) gX12_figure_0.2.2.2.2.2.1 rfl ?_
  refine r_icmp_ge (t := 52) gX12_figure_0.2.2.2.2.2.2.1 rfl (fun h13 => ?_) (fun h13 => ?_)
  · exact r_sub (L' := [(0, .ref 60), (1, .int l1), (2, .int l2)]) (sub_c rfl (sub_c rfl (sub_c rfl sub_n))) (rb_X12_figure_52 hE q l1 l2)
  · refine r_aload_n (x := 60) gX12_figure_0.2.2.2.2.2.2.2.1 rfl ?_
    refine r_calli (k := 0) (idx := 196) (y := 208) (as := [.ref 60]) (rest := []) (L0 := [(0, .ref 60)]) gX12_figure_0.2.2.2.2.2.2.2.2.1 rfl rfl rfl rfl rfl (vok_v (ob_60 hE) rfl) rfl (r_dep (by decide) (e_X12_look hE q)) (fun r7 => ?_)
    refine r_bipush (v := (48 : Int32)) gX12_figure_0.2.2.2.2.2.2.2.2.2.1 rfl ?_
    refine r_bipush (v := (57 : Int32)) gX12_figure_0.2.2.2.2.2.2.2.2.2.2.1 rfl ?_
    refine r_calli (k := 2) (idx := 118) (y := 189) (as := [.int r7, .int (48 : Int32), .int (57 : Int32)]) (rest := []) (L0 := [(0, .int r7), (1, .int (48 : Int32)), (2, .int (57 : Int32))]) gX12_figure_0.2.2.2.2.2.2.2.2.2.2.2.1 rfl rfl rfl rfl rfl vok_s rfl (r_dep (by decide) (e_X12_in hE q r7 (48 : Int32) (57 : Int32))) (fun r8 => ?_)
    refine r_if_eq (t := 52) gX12_figure_0.2.2.2.2.2.2.2.2.2.2.2.2.1 rfl (fun h12 => ?_) (fun h12 => ?_)
    · exact r_sub (L' := [(0, .ref 60), (1, .int l1), (2, .int l2)]) (sub_c rfl (sub_c rfl (sub_c rfl sub_n))) (rb_X12_figure_52 hE q l1 l2)
    · refine r_bipush (v := (10 : Int32)) gX12_figure_0.2.2.2.2.2.2.2.2.2.2.2.2.2.1 rfl ?_
      refine r_iload_n (x := l1) gX12_figure_0.2.2.2.2.2.2.2.2.2.2.2.2.2.2.1 rfl ?_
      refine r_imul gX12_figure_0.2.2.2.2.2.2.2.2.2.2.2.2.2.2.2.1 ?_
      refine r_aload_n (x := 60) gX12_figure_27.1 rfl ?_
      refine r_calli (k := 0) (idx := 196) (y := 208) (as := [.ref 60]) (rest := [.int ((10 : Int32) * l1)]) (L0 := [(0, .ref 60)]) gX12_figure_27.2.1 rfl rfl rfl rfl rfl (vok_v (ob_60 hE) rfl) rfl (r_dep (by decide) (e_X12_look hE q)) (fun r9 => ?_)
      refine r_iadd gX12_figure_27.2.2.1 ?_
      refine r_bipush (v := (48 : Int32)) gX12_figure_27.2.2.2.1 rfl ?_
      refine r_isub gX12_figure_27.2.2.2.2.1 ?_
      refine r_nmI fun v10 _ => ?_
      refine r_istore_n (L2 := [(0, .ref 60), (1, .int v10), (2, .int l2)]) gX12_figure_27.2.2.2.2.2.1 rfl rfl ?_
      refine r_iinc (x := l2) (v := (l2 + (1 : Int32))) (L2 := [(0, .ref 60), (1, .int v10), (2, .int (l2 + (1 : Int32)))]) gX12_figure_27.2.2.2.2.2.2.1 rfl rfl rfl rfl ?_
      refine r_aload_n (x := 60) gX12_figure_27.2.2.2.2.2.2.2.1 rfl ?_
      refine r_dup gX12_figure_27.2.2.2.2.2.2.2.2.1 rfl ?_
      refine r_getI gX12_figure_27.2.2.2.2.2.2.2.2.2.1 (ff_12_181_60 hE) (by decide) ?_
      refine r_iconst (v := (1 : Int32)) gX12_figure_27.2.2.2.2.2.2.2.2.2.2.1 rfl ?_
      refine r_iadd gX12_figure_27.2.2.2.2.2.2.2.2.2.2.2.1 ?_
      refine r_putI gX12_figure_27.2.2.2.2.2.2.2.2.2.2.2.2.1 (ff_12_181_60 hE) ?_
      refine r_nmS fun q11 _ => ?_
      refine r_goto (t := 4) gX12_figure_27.2.2.2.2.2.2.2.2.2.2.2.2.2.1 rfl ?_
      exact r_sub (L' := [(0, .ref 60), (1, .int v10), (2, .int (l2 + (1 : Int32)))]) (sub_c rfl (sub_c rfl (sub_c rfl sub_n))) (hrec_4 q11 v10 (l2 + (1 : Int32)))
def f_X12_figure (q : SS)  : Option SS :=
  b_X12_figure_4 q (0 : Int32) (0 : Int32)
theorem e_X12_figure {E : EE} (hE : GE E) (q : SS)  : R E (κV E) 1 213 0 [(0, .ref 60)] [] q (f_X12_figure q) := by
  unfold f_X12_figure
  refine r_iconst (v := (0 : Int32)) gX12_figure_0.1 rfl ?_
  refine r_istore_n (L2 := [(0, .ref 60), (1, .int (0 : Int32))]) gX12_figure_0.2.1 rfl rfl ?_
  refine r_iconst (v := (0 : Int32)) gX12_figure_0.2.2.1 rfl ?_
  refine r_istore_n (L2 := [(0, .ref 60), (1, .int (0 : Int32)), (2, .int (0 : Int32))]) gX12_figure_0.2.2.2.1 rfl rfl ?_
  exact r_sub (L' := [(0, .ref 60), (1, .int (0 : Int32)), (2, .int (0 : Int32))]) (sub_c rfl (sub_c rfl (sub_c rfl sub_n))) (rb_X12_figure_4 hE q (0 : Int32) (0 : Int32))
abbrev GT_X12_operand : Type := (SS → Option SS) × (SS → Option SS) × (SS → Option SS) × (SS → Option SS) × (SS → Option SS) × (SS → Option SS)
def GS_X12_operand (E : EE) (n : Nat) (r : GT_X12_operand) : Prop := (∀ (q : SS) , R E (κV E) (2 + n) 214 0 [(0, .ref 60)] [] q (r.1 q)) ∧ (∀ (q : SS) , R E (κV E) (2 + n) 215 0 [(0, .ref 60)] [] q (r.2.1 q)) ∧ (∀ (q : SS) , R E (κV E) (2 + n) 216 0 [(0, .ref 60)] [] q (r.2.2.1 q)) ∧ (∀ (q : SS) , R E (κV E) (2 + n) 217 0 [(0, .ref 60)] [] q (r.2.2.2.1 q)) ∧ (∀ (q : SS) , R E (κV E) (2 + n) 218 0 [(0, .ref 60)] [] q (r.2.2.2.2.1 q)) ∧ (∀ (q : SS) , R E (κV E) (2 + n) 219 0 [(0, .ref 60)] [] q (r.2.2.2.2.2 q))
def b_X12_operand_80 (r : GT_X12_operand) (q : SS) (s0 : Int32) : Option SS :=
  (f_X12_addStep q s0 (0 : Int32)).bind fun r6 =>
  some r6
theorem rb_X12_operand_80 {E : EE} (hE : GE E) {r : GT_X12_operand} (n : Nat) (hr : GS_X12_operand E n r) (q : SS) (s0 : Int32) : R E (κV E) (2 + n + 1) 214 80 [] [.int s0, .ref 60] q (b_X12_operand_80 r q s0) := by
  unfold b_X12_operand_80
  refine r_iconst (v := (0 : Int32)) gX12_operand_60.2.2.2.2.2.2.2.2.2.2.2.1 rfl ?_
  refine r_callV (k := 0) (idx := 200) (y := 210) (as := [.ref 60, .int s0, .int (0 : Int32)]) (rest := []) (L0 := [(0, .ref 60), (1, .int s0), (2, .int (0 : Int32))]) gX12_operand_60.2.2.2.2.2.2.2.2.2.2.2.2.1 rfl rfl rfl rfl rfl (vok_v (ob_60 hE) rfl) rfl (r_dep (by omega) (e_X12_addStep hE q s0 (0 : Int32))) (fun r6 => ?_)
  refine r_goto (t := 154) gX12_operand_60.2.2.2.2.2.2.2.2.2.2.2.2.2.1 rfl ?_
  exact r_return gX12_operand_151.2.1 rfl rfl
def b_X12_operand_46 (r : GT_X12_operand) (q : SS) (l1 : Int32) : Option SS :=
  (f_X12_opens q).bind fun r3 =>
  if r3.1 = 0 then
  (some r3.2)
  else
  ((r.1 r3.2).bind fun r4 =>
  nm (sI r4 60 21 ((r4.1 60 21) - (1 : Int32))) fun q5 =>
  if l1 = (33 : Int32) then
  (b_X12_operand_80 r q5 (3 : Int32))
  else
  (b_X12_operand_80 r q5 (4 : Int32)))
theorem rb_X12_operand_46 {E : EE} (hE : GE E) {r : GT_X12_operand} (n : Nat) (hr : GS_X12_operand E n r) (q : SS) (l1 : Int32) : R E (κV E) (2 + n + 1) 214 46 [(0, .ref 60), (1, .int l1)] [] q (b_X12_operand_46 r q l1) := by
  unfold b_X12_operand_46
  refine r_aload_n (x := 60) gX12_operand_28.2.2.2.2.2.2.2.2.1 rfl ?_
  refine r_callI (k := 0) (idx := 207) (y := 212) (as := [.ref 60]) (rest := []) (L0 := [(0, .ref 60)]) gX12_operand_28.2.2.2.2.2.2.2.2.2.1 rfl rfl rfl rfl rfl (vok_v (ob_60 hE) rfl) rfl (r_dep (by omega) (e_X12_opens hE q)) (fun r3 => ?_)
  refine r_if_ne (t := 54) gX12_operand_28.2.2.2.2.2.2.2.2.2.2.1 rfl (fun h8 => ?_) (fun h8 => ?_)
  · exact r_return gX12_operand_28.2.2.2.2.2.2.2.2.2.2.2.1 rfl rfl
  · refine r_aload_n (x := 60) gX12_operand_28.2.2.2.2.2.2.2.2.2.2.2.2.1 rfl ?_
    refine r_callV (k := 0) (idx := 211) (y := 214) (as := [.ref 60]) (rest := []) (L0 := [(0, .ref 60)]) gX12_operand_28.2.2.2.2.2.2.2.2.2.2.2.2.2.1 rfl rfl rfl rfl rfl (vok_v (ob_60 hE) rfl) rfl (hr.1 r3.2) (fun r4 => ?_)
    refine r_aload_n (x := 60) gX12_operand_28.2.2.2.2.2.2.2.2.2.2.2.2.2.2.1 rfl ?_
    refine r_dup gX12_operand_28.2.2.2.2.2.2.2.2.2.2.2.2.2.2.2.1 rfl ?_
    refine r_getI gX12_operand_60.1 (ff_12_190_60 hE) (by decide) ?_
    refine r_iconst (v := (1 : Int32)) gX12_operand_60.2.1 rfl ?_
    refine r_isub gX12_operand_60.2.2.1 ?_
    refine r_putI gX12_operand_60.2.2.2.1 (ff_12_190_60 hE) ?_
    refine r_nmS fun q5 _ => ?_
    refine r_aload_n (x := 60) gX12_operand_60.2.2.2.2.1 rfl ?_
    refine r_iload_n (x := l1) gX12_operand_60.2.2.2.2.2.1 rfl ?_
    refine r_bipush (v := (33 : Int32)) gX12_operand_60.2.2.2.2.2.2.1 rfl ?_
    refine r_icmp_ne (t := 79) gX12_operand_60.2.2.2.2.2.2.2.1 rfl (fun h7 => ?_) (fun h7 => ?_)
    · refine r_iconst (v := (3 : Int32)) gX12_operand_60.2.2.2.2.2.2.2.2.1 rfl ?_
      refine r_goto (t := 80) gX12_operand_60.2.2.2.2.2.2.2.2.2.1 rfl ?_
      exact r_sub (L' := []) sub_n (rb_X12_operand_80 hE n hr q5 (3 : Int32))
    · refine r_iconst (v := (4 : Int32)) gX12_operand_60.2.2.2.2.2.2.2.2.2.2.1 rfl ?_
      exact r_sub (L' := []) sub_n (rb_X12_operand_80 hE n hr q5 (4 : Int32))
def fb_X12_operand (r : GT_X12_operand) (q : SS)  : Option SS :=
  (f_X12_look q).bind fun r1 =>
  (f_X12_nameOf q r1).bind fun r2 =>
  if r2 < 0 then
  (if r1 = (33 : Int32) then
  (b_X12_operand_46 r q r1)
  else
  (if r1 = (45 : Int32) then
  (b_X12_operand_46 r q r1)
  else
  (if r1 = (40 : Int32) then
  ((f_X12_opens q).bind fun r9 =>
  if r9.1 = 0 then
  (some r9.2)
  else
  ((r.2.2.2.2.2 r9.2).bind fun r10 =>
  if (r10.1 60 20) < 0 then
  ((f_X12_look r10).bind fun r11 =>
  if r11 = (41 : Int32) then
  (nm (sI r10 60 19 ((r10.1 60 19) + (1 : Int32))) fun q12 =>
  nm (sI q12 60 21 ((q12.1 60 21) - (1 : Int32))) fun q13 =>
  some q13)
  else
  ((f_X12_wrong r10).bind fun r14 =>
  some r14))
  else
  (some r10)))
  else
  ((f_X12_figure q).bind fun r18 =>
  some r18))))
  else
  ((f_X12_nameOf q r1).bind fun r22 =>
  (f_X12_addStep q (2 : Int32) r22).bind fun r23 =>
  nm (sI r23 60 19 ((r23.1 60 19) + (1 : Int32))) fun q24 =>
  some q24)
theorem eb_X12_operand {E : EE} (hE : GE E) {r : GT_X12_operand} (n : Nat) (hr : GS_X12_operand E n r) (q : SS)  : R E (κV E) (2 + n + 1) 214 0 [(0, .ref 60)] [] q (fb_X12_operand r q) := by
  unfold fb_X12_operand
  refine r_aload_n (x := 60) gX12_operand_0.1 rfl ?_
  refine r_calli (k := 0) (idx := 196) (y := 208) (as := [.ref 60]) (rest := []) (L0 := [(0, .ref 60)]) gX12_operand_0.2.1 rfl rfl rfl rfl rfl (vok_v (ob_60 hE) rfl) rfl (r_dep (by omega) (e_X12_look hE q)) (fun r1 => ?_)
  refine r_istore_n (L2 := [(0, .ref 60), (1, .int r1)]) gX12_operand_0.2.2.1 rfl rfl ?_
  refine r_iload_n (x := r1) gX12_operand_0.2.2.2.1 rfl ?_
  refine r_calli (k := 2) (idx := 204) (y := 211) (as := [.int r1]) (rest := []) (L0 := [(0, .int r1)]) gX12_operand_0.2.2.2.2.1 rfl rfl rfl rfl rfl vok_s rfl (r_dep (by omega) (e_X12_nameOf hE q r1)) (fun r2 => ?_)
  refine r_if_lt (t := 34) gX12_operand_0.2.2.2.2.2.1 rfl (fun h25 => ?_) (fun h25 => ?_)
  · refine r_iload_n (x := r1) gX12_operand_28.2.2.1 rfl ?_
    refine r_bipush (v := (33 : Int32)) gX12_operand_28.2.2.2.1 rfl ?_
    refine r_icmp_eq (t := 46) gX12_operand_28.2.2.2.2.1 rfl (fun h21 => ?_) (fun h21 => ?_)
    · exact r_sub (L' := [(0, .ref 60), (1, .int r1)]) (sub_c rfl (sub_c rfl sub_n)) (rb_X12_operand_46 hE n hr q r1)
    · refine r_iload_n (x := r1) gX12_operand_28.2.2.2.2.2.1 rfl ?_
      refine r_bipush (v := (45 : Int32)) gX12_operand_28.2.2.2.2.2.2.1 rfl ?_
      refine r_icmp_ne (t := 87) gX12_operand_28.2.2.2.2.2.2.2.1 rfl (fun h20 => ?_) (fun h20 => ?_)
      · exact r_sub (L' := [(0, .ref 60), (1, .int r1)]) (sub_c rfl (sub_c rfl sub_n)) (rb_X12_operand_46 hE n hr q r1)
      · refine r_iload_n (x := r1) gX12_operand_60.2.2.2.2.2.2.2.2.2.2.2.2.2.2.1 rfl ?_
        refine r_bipush (v := (40 : Int32)) gX12_operand_60.2.2.2.2.2.2.2.2.2.2.2.2.2.2.2.1 rfl ?_
        refine r_icmp_ne (t := 150) gX12_operand_90.1 rfl (fun h19 => ?_) (fun h19 => ?_)
        · refine r_aload_n (x := 60) gX12_operand_90.2.1 rfl ?_
          refine r_callI (k := 0) (idx := 207) (y := 212) (as := [.ref 60]) (rest := []) (L0 := [(0, .ref 60)]) gX12_operand_90.2.2.1 rfl rfl rfl rfl rfl (vok_v (ob_60 hE) rfl) rfl (r_dep (by omega) (e_X12_opens hE q)) (fun r9 => ?_)
          refine r_if_ne (t := 101) gX12_operand_90.2.2.2.1 rfl (fun h17 => ?_) (fun h17 => ?_)
          · exact r_return gX12_operand_90.2.2.2.2.1 rfl rfl
          · refine r_aload_n (x := 60) gX12_operand_90.2.2.2.2.2.1 rfl ?_
            refine r_callV (k := 0) (idx := 214) (y := 219) (as := [.ref 60]) (rest := []) (L0 := [(0, .ref 60)]) gX12_operand_90.2.2.2.2.2.2.1 rfl rfl rfl rfl rfl (vok_v (ob_60 hE) rfl) rfl (hr.2.2.2.2.2 r9.2) (fun r10 => ?_)
            refine r_aload_n (x := 60) gX12_operand_90.2.2.2.2.2.2.2.1 rfl ?_
            refine r_getI gX12_operand_90.2.2.2.2.2.2.2.2.1 (ff_12_184_60 hE) (by decide) ?_
            refine r_if_lt (t := 113) gX12_operand_90.2.2.2.2.2.2.2.2.2.1 rfl (fun h16 => ?_) (fun h16 => ?_)
            · refine r_aload_n (x := 60) gX12_operand_90.2.2.2.2.2.2.2.2.2.2.2.1 rfl ?_
              refine r_calli (k := 0) (idx := 196) (y := 208) (as := [.ref 60]) (rest := []) (L0 := [(0, .ref 60)]) gX12_operand_90.2.2.2.2.2.2.2.2.2.2.2.2.1 rfl rfl rfl rfl rfl (vok_v (ob_60 hE) rfl) rfl (r_dep (by omega) (e_X12_look hE r10)) (fun r11 => ?_)
              refine r_bipush (v := (41 : Int32)) gX12_operand_90.2.2.2.2.2.2.2.2.2.2.2.2.2.1 rfl ?_
              refine r_icmp_eq (t := 127) gX12_operand_90.2.2.2.2.2.2.2.2.2.2.2.2.2.2.1 rfl (fun h15 => ?_) (fun h15 => ?_)
              · refine r_aload_n (x := 60) gX12_operand_123.2.2.1 rfl ?_
                refine r_dup gX12_operand_123.2.2.2.1 rfl ?_
                refine r_getI gX12_operand_123.2.2.2.2.1 (ff_12_181_60 hE) (by decide) ?_
                refine r_iconst (v := (1 : Int32)) gX12_operand_123.2.2.2.2.2.1 rfl ?_
                refine r_iadd gX12_operand_123.2.2.2.2.2.2.1 ?_
                refine r_putI gX12_operand_123.2.2.2.2.2.2.2.1 (ff_12_181_60 hE) ?_
                refine r_nmS fun q12 _ => ?_
                refine r_aload_n (x := 60) gX12_operand_123.2.2.2.2.2.2.2.2.1 rfl ?_
                refine r_dup gX12_operand_123.2.2.2.2.2.2.2.2.2.1 rfl ?_
                refine r_getI gX12_operand_123.2.2.2.2.2.2.2.2.2.2.1 (ff_12_190_60 hE) (by decide) ?_
                refine r_iconst (v := (1 : Int32)) gX12_operand_123.2.2.2.2.2.2.2.2.2.2.2.1 rfl ?_
                refine r_isub gX12_operand_123.2.2.2.2.2.2.2.2.2.2.2.2.1 ?_
                refine r_putI gX12_operand_123.2.2.2.2.2.2.2.2.2.2.2.2.2.1 (ff_12_190_60 hE) ?_
                refine r_nmS fun q13 _ => ?_
                refine r_goto (t := 154) gX12_operand_123.2.2.2.2.2.2.2.2.2.2.2.2.2.2.1 rfl ?_
                exact r_return gX12_operand_151.2.1 rfl rfl
              · refine r_aload_n (x := 60) gX12_operand_90.2.2.2.2.2.2.2.2.2.2.2.2.2.2.2.1 rfl ?_
                refine r_callV (k := 0) (idx := 193) (y := 209) (as := [.ref 60]) (rest := []) (L0 := [(0, .ref 60)]) gX12_operand_123.1 rfl rfl rfl rfl rfl (vok_v (ob_60 hE) rfl) rfl (r_dep (by omega) (e_X12_wrong hE r10)) (fun r14 => ?_)
                exact r_return gX12_operand_123.2.1 rfl rfl
            · exact r_return gX12_operand_90.2.2.2.2.2.2.2.2.2.2.1 rfl rfl
        · refine r_aload_n (x := 60) gX12_operand_123.2.2.2.2.2.2.2.2.2.2.2.2.2.2.2.1 rfl ?_
          refine r_callV (k := 0) (idx := 217) (y := 213) (as := [.ref 60]) (rest := []) (L0 := [(0, .ref 60)]) gX12_operand_151.1 rfl rfl rfl rfl rfl (vok_v (ob_60 hE) rfl) rfl (r_dep (by omega) (e_X12_figure hE q)) (fun r18 => ?_)
          exact r_return gX12_operand_151.2.1 rfl rfl
  · refine r_aload_n (x := 60) gX12_operand_0.2.2.2.2.2.2.1 rfl ?_
    refine r_iconst (v := (2 : Int32)) gX12_operand_0.2.2.2.2.2.2.2.1 rfl ?_
    refine r_iload_n (x := r1) gX12_operand_0.2.2.2.2.2.2.2.2.1 rfl ?_
    refine r_calli (k := 2) (idx := 204) (y := 211) (as := [.int r1]) (rest := [.int (2 : Int32), .ref 60]) (L0 := [(0, .int r1)]) gX12_operand_0.2.2.2.2.2.2.2.2.2.1 rfl rfl rfl rfl rfl vok_s rfl (r_dep (by omega) (e_X12_nameOf hE q r1)) (fun r22 => ?_)
    refine r_callV (k := 0) (idx := 200) (y := 210) (as := [.ref 60, .int (2 : Int32), .int r22]) (rest := []) (L0 := [(0, .ref 60), (1, .int (2 : Int32)), (2, .int r22)]) gX12_operand_0.2.2.2.2.2.2.2.2.2.2.1 rfl rfl rfl rfl rfl (vok_v (ob_60 hE) rfl) rfl (r_dep (by omega) (e_X12_addStep hE q (2 : Int32) r22)) (fun r23 => ?_)
    refine r_aload_n (x := 60) gX12_operand_0.2.2.2.2.2.2.2.2.2.2.2.1 rfl ?_
    refine r_dup gX12_operand_0.2.2.2.2.2.2.2.2.2.2.2.2.1 rfl ?_
    refine r_getI gX12_operand_0.2.2.2.2.2.2.2.2.2.2.2.2.2.1 (ff_12_181_60 hE) (by decide) ?_
    refine r_iconst (v := (1 : Int32)) gX12_operand_0.2.2.2.2.2.2.2.2.2.2.2.2.2.2.1 rfl ?_
    refine r_iadd gX12_operand_0.2.2.2.2.2.2.2.2.2.2.2.2.2.2.2.1 ?_
    refine r_putI gX12_operand_28.1 (ff_12_181_60 hE) ?_
    refine r_nmS fun q24 _ => ?_
    refine r_goto (t := 154) gX12_operand_28.2.1 rfl ?_
    exact r_return gX12_operand_151.2.1 rfl rfl
def b_X12_product_38 (r : GT_X12_operand) (rec_4 : SS → Option SS) (q : SS)  : Option SS :=
  (f_X12_look q).bind fun r3 =>
  nm (sI q 60 19 ((q.1 60 19) + (1 : Int32))) fun q4 =>
  (r.1 q4).bind fun r5 =>
  (f_X12_addStep r5 r3 (0 : Int32)).bind fun r6 =>
  rec_4 r6
theorem rb_X12_product_38 {E : EE} (hE : GE E) {r : GT_X12_operand} (n : Nat) (hr : GS_X12_operand E n r) {rec_4 : SS → Option SS} (hrec_4 : ∀ (yq : SS), R E (κV E) (2 + n + 1) 215 4 [(0, .ref 60)] [] yq (rec_4 yq)) (q : SS)  : R E (κV E) (2 + n + 1) 215 38 [(0, .ref 60)] [] q (b_X12_product_38 r rec_4 q) := by
  unfold b_X12_product_38
  refine r_aload_n (x := 60) gX12_product_35.2.1 rfl ?_
  refine r_calli (k := 0) (idx := 196) (y := 208) (as := [.ref 60]) (rest := []) (L0 := [(0, .ref 60)]) gX12_product_35.2.2.1 rfl rfl rfl rfl rfl (vok_v (ob_60 hE) rfl) rfl (r_dep (by omega) (e_X12_look hE q)) (fun r3 => ?_)
  refine r_istore_n (L2 := [(0, .ref 60), (1, .int r3)]) gX12_product_35.2.2.2.1 rfl rfl ?_
  refine r_aload_n (x := 60) gX12_product_35.2.2.2.2.1 rfl ?_
  refine r_dup gX12_product_35.2.2.2.2.2.1 rfl ?_
  refine r_getI gX12_product_35.2.2.2.2.2.2.1 (ff_12_181_60 hE) (by decide) ?_
  refine r_iconst (v := (1 : Int32)) gX12_product_35.2.2.2.2.2.2.2.1 rfl ?_
  refine r_iadd gX12_product_35.2.2.2.2.2.2.2.2.1 ?_
  refine r_putI gX12_product_35.2.2.2.2.2.2.2.2.2.1 (ff_12_181_60 hE) ?_
  refine r_nmS fun q4 _ => ?_
  refine r_aload_n (x := 60) gX12_product_35.2.2.2.2.2.2.2.2.2.2.1 rfl ?_
  refine r_callV (k := 0) (idx := 211) (y := 214) (as := [.ref 60]) (rest := []) (L0 := [(0, .ref 60)]) gX12_product_35.2.2.2.2.2.2.2.2.2.2.2.1 rfl rfl rfl rfl rfl (vok_v (ob_60 hE) rfl) rfl (hr.1 q4) (fun r5 => ?_)
  refine r_aload_n (x := 60) gX12_product_35.2.2.2.2.2.2.2.2.2.2.2.2.1 rfl ?_
  refine r_iload_n (x := r3) gX12_product_35.2.2.2.2.2.2.2.2.2.2.2.2.2.1 rfl ?_
  refine r_iconst (v := (0 : Int32)) gX12_product_35.2.2.2.2.2.2.2.2.2.2.2.2.2.2.1 rfl ?_
  refine r_callV (k := 0) (idx := 200) (y := 210) (as := [.ref 60, .int r3, .int (0 : Int32)]) (rest := []) (L0 := [(0, .ref 60), (1, .int r3), (2, .int (0 : Int32))]) gX12_product_35.2.2.2.2.2.2.2.2.2.2.2.2.2.2.2.1 rfl rfl rfl rfl rfl (vok_v (ob_60 hE) rfl) rfl (r_dep (by omega) (e_X12_addStep hE r5 r3 (0 : Int32))) (fun r6 => ?_)
  refine r_goto (t := 4) gX12_product_63.1 rfl ?_
  exact r_sub (L' := [(0, .ref 60)]) (sub_c rfl sub_n) (hrec_4 r6)
def b_X12_product_4 (r : GT_X12_operand) : SS → Option SS :=
  fx1 (fun (rec_4 : SS → Option SS) (q : SS) =>
  if 0 ≤ (q.1 60 20) then
  (some q)
  else
  ((f_X12_look q).bind fun r2 =>
  if r2 = (42 : Int32) then
  (b_X12_product_38 r rec_4 q)
  else
  ((f_X12_look q).bind fun r7 =>
  if r7 = (47 : Int32) then
  (b_X12_product_38 r rec_4 q)
  else
  ((f_X12_look q).bind fun r8 =>
  if r8 = (37 : Int32) then
  (b_X12_product_38 r rec_4 q)
  else
  (some q))))) FU
theorem rb_X12_product_4 {E : EE} (hE : GE E) {r : GT_X12_operand} (n : Nat) (hr : GS_X12_operand E n r) (q : SS)  : R E (κV E) (2 + n + 1) 215 4 [(0, .ref 60)] [] q (b_X12_product_4 r q) := by
  unfold b_X12_product_4
  refine fx1_ok (P := fun q o => R E (κV E) (2 + n + 1) 215 4 [(0, .ref 60)] [] q o) (fun _ => r_no) (fun rec_4 hrec_4 q => ?_) _ _
  refine r_aload_n (x := 60) gX12_product_0.2.2.1 rfl ?_
  refine r_getI gX12_product_0.2.2.2.1 (ff_12_184_60 hE) (by decide) ?_
  refine r_if_ge (t := 66) gX12_product_0.2.2.2.2.1 rfl (fun h12 => ?_) (fun h12 => ?_)
  · exact r_return gX12_product_63.2.1 rfl rfl
  · refine r_aload_n (x := 60) gX12_product_0.2.2.2.2.2.1 rfl ?_
    refine r_calli (k := 0) (idx := 196) (y := 208) (as := [.ref 60]) (rest := []) (L0 := [(0, .ref 60)]) gX12_product_0.2.2.2.2.2.2.1 rfl rfl rfl rfl rfl (vok_v (ob_60 hE) rfl) rfl (r_dep (by omega) (e_X12_look hE q)) (fun r2 => ?_)
    refine r_bipush (v := (42 : Int32)) gX12_product_0.2.2.2.2.2.2.2.1 rfl ?_
    refine r_icmp_eq (t := 38) gX12_product_0.2.2.2.2.2.2.2.2.1 rfl (fun h11 => ?_) (fun h11 => ?_)
    · exact r_sub (L' := [(0, .ref 60)]) (sub_c rfl sub_n) (rb_X12_product_38 hE n hr hrec_4 q)
    · refine r_aload_n (x := 60) gX12_product_0.2.2.2.2.2.2.2.2.2.1 rfl ?_
      refine r_calli (k := 0) (idx := 196) (y := 208) (as := [.ref 60]) (rest := []) (L0 := [(0, .ref 60)]) gX12_product_0.2.2.2.2.2.2.2.2.2.2.1 rfl rfl rfl rfl rfl (vok_v (ob_60 hE) rfl) rfl (r_dep (by omega) (e_X12_look hE q)) (fun r7 => ?_)
      refine r_bipush (v := (47 : Int32)) gX12_product_0.2.2.2.2.2.2.2.2.2.2.2.1 rfl ?_
      refine r_icmp_eq (t := 38) gX12_product_0.2.2.2.2.2.2.2.2.2.2.2.2.1 rfl (fun h10 => ?_) (fun h10 => ?_)
      · exact r_sub (L' := [(0, .ref 60)]) (sub_c rfl sub_n) (rb_X12_product_38 hE n hr hrec_4 q)
      · refine r_aload_n (x := 60) gX12_product_0.2.2.2.2.2.2.2.2.2.2.2.2.2.1 rfl ?_
        refine r_calli (k := 0) (idx := 196) (y := 208) (as := [.ref 60]) (rest := []) (L0 := [(0, .ref 60)]) gX12_product_0.2.2.2.2.2.2.2.2.2.2.2.2.2.2.1 rfl rfl rfl rfl rfl (vok_v (ob_60 hE) rfl) rfl (r_dep (by omega) (e_X12_look hE q)) (fun r8 => ?_)
        refine r_bipush (v := (37 : Int32)) gX12_product_0.2.2.2.2.2.2.2.2.2.2.2.2.2.2.2.1 rfl ?_
        refine r_icmp_ne (t := 66) gX12_product_35.1 rfl (fun h9 => ?_) (fun h9 => ?_)
        · exact r_sub (L' := [(0, .ref 60)]) (sub_c rfl sub_n) (rb_X12_product_38 hE n hr hrec_4 q)
        · exact r_return gX12_product_63.2.1 rfl rfl
def fb_X12_product (r : GT_X12_operand) (q : SS)  : Option SS :=
  (r.1 q).bind fun r1 =>
  b_X12_product_4 r r1
theorem eb_X12_product {E : EE} (hE : GE E) {r : GT_X12_operand} (n : Nat) (hr : GS_X12_operand E n r) (q : SS)  : R E (κV E) (2 + n + 1) 215 0 [(0, .ref 60)] [] q (fb_X12_product r q) := by
  unfold fb_X12_product
  refine r_aload_n (x := 60) gX12_product_0.1 rfl ?_
  refine r_callV (k := 0) (idx := 211) (y := 214) (as := [.ref 60]) (rest := []) (L0 := [(0, .ref 60)]) gX12_product_0.2.1 rfl rfl rfl rfl rfl (vok_v (ob_60 hE) rfl) rfl (hr.1 q) (fun r1 => ?_)
  exact r_sub (L' := [(0, .ref 60)]) (sub_c rfl sub_n) (rb_X12_product_4 hE n hr r1)
def b_X12_sum_29 (r : GT_X12_operand) (rec_4 : SS → Option SS) (q : SS)  : Option SS :=
  (f_X12_look q).bind fun r3 =>
  nm (sI q 60 19 ((q.1 60 19) + (1 : Int32))) fun q4 =>
  (r.2.1 q4).bind fun r5 =>
  (f_X12_addStep r5 r3 (0 : Int32)).bind fun r6 =>
  rec_4 r6
theorem rb_X12_sum_29 {E : EE} (hE : GE E) {r : GT_X12_operand} (n : Nat) (hr : GS_X12_operand E n r) {rec_4 : SS → Option SS} (hrec_4 : ∀ (yq : SS), R E (κV E) (2 + n + 1) 216 4 [(0, .ref 60)] [] yq (rec_4 yq)) (q : SS)  : R E (κV E) (2 + n + 1) 216 29 [(0, .ref 60)] [] q (b_X12_sum_29 r rec_4 q) := by
  unfold b_X12_sum_29
  refine r_aload_n (x := 60) gX12_sum_0.2.2.2.2.2.2.2.2.2.2.2.2.2.1 rfl ?_
  refine r_calli (k := 0) (idx := 196) (y := 208) (as := [.ref 60]) (rest := []) (L0 := [(0, .ref 60)]) gX12_sum_0.2.2.2.2.2.2.2.2.2.2.2.2.2.2.1 rfl rfl rfl rfl rfl (vok_v (ob_60 hE) rfl) rfl (r_dep (by omega) (e_X12_look hE q)) (fun r3 => ?_)
  refine r_istore_n (L2 := [(0, .ref 60), (1, .int r3)]) gX12_sum_0.2.2.2.2.2.2.2.2.2.2.2.2.2.2.2.1 rfl rfl ?_
  refine r_aload_n (x := 60) gX12_sum_34.1 rfl ?_
  refine r_dup gX12_sum_34.2.1 rfl ?_
  refine r_getI gX12_sum_34.2.2.1 (ff_12_181_60 hE) (by decide) ?_
  refine r_iconst (v := (1 : Int32)) gX12_sum_34.2.2.2.1 rfl ?_
  refine r_iadd gX12_sum_34.2.2.2.2.1 ?_
  refine r_putI gX12_sum_34.2.2.2.2.2.1 (ff_12_181_60 hE) ?_
  refine r_nmS fun q4 _ => ?_
  refine r_aload_n (x := 60) gX12_sum_34.2.2.2.2.2.2.1 rfl ?_
  refine r_callV (k := 0) (idx := 220) (y := 215) (as := [.ref 60]) (rest := []) (L0 := [(0, .ref 60)]) gX12_sum_34.2.2.2.2.2.2.2.1 rfl rfl rfl rfl rfl (vok_v (ob_60 hE) rfl) rfl (hr.2.1 q4) (fun r5 => ?_)
  refine r_aload_n (x := 60) gX12_sum_34.2.2.2.2.2.2.2.2.1 rfl ?_
  refine r_iload_n (x := r3) gX12_sum_34.2.2.2.2.2.2.2.2.2.1 rfl ?_
  refine r_iconst (v := (0 : Int32)) gX12_sum_34.2.2.2.2.2.2.2.2.2.2.1 rfl ?_
  refine r_callV (k := 0) (idx := 200) (y := 210) (as := [.ref 60, .int r3, .int (0 : Int32)]) (rest := []) (L0 := [(0, .ref 60), (1, .int r3), (2, .int (0 : Int32))]) gX12_sum_34.2.2.2.2.2.2.2.2.2.2.2.1 rfl rfl rfl rfl rfl (vok_v (ob_60 hE) rfl) rfl (r_dep (by omega) (e_X12_addStep hE r5 r3 (0 : Int32))) (fun r6 => ?_)
  refine r_goto (t := 4) gX12_sum_34.2.2.2.2.2.2.2.2.2.2.2.2.1 rfl ?_
  exact r_sub (L' := [(0, .ref 60)]) (sub_c rfl sub_n) (hrec_4 r6)
def b_X12_sum_4 (r : GT_X12_operand) : SS → Option SS :=
  fx1 (fun (rec_4 : SS → Option SS) (q : SS) =>
  if 0 ≤ (q.1 60 20) then
  (some q)
  else
  ((f_X12_look q).bind fun r2 =>
  if r2 = (43 : Int32) then
  (b_X12_sum_29 r rec_4 q)
  else
  ((f_X12_look q).bind fun r7 =>
  if r7 = (45 : Int32) then
  (b_X12_sum_29 r rec_4 q)
  else
  (some q)))) FU
theorem rb_X12_sum_4 {E : EE} (hE : GE E) {r : GT_X12_operand} (n : Nat) (hr : GS_X12_operand E n r) (q : SS)  : R E (κV E) (2 + n + 1) 216 4 [(0, .ref 60)] [] q (b_X12_sum_4 r q) := by
  unfold b_X12_sum_4
  refine fx1_ok (P := fun q o => R E (κV E) (2 + n + 1) 216 4 [(0, .ref 60)] [] q o) (fun _ => r_no) (fun rec_4 hrec_4 q => ?_) _ _
  refine r_aload_n (x := 60) gX12_sum_0.2.2.1 rfl ?_
  refine r_getI gX12_sum_0.2.2.2.1 (ff_12_184_60 hE) (by decide) ?_
  refine r_if_ge (t := 57) gX12_sum_0.2.2.2.2.1 rfl (fun h10 => ?_) (fun h10 => ?_)
  · exact r_return gX12_sum_34.2.2.2.2.2.2.2.2.2.2.2.2.2.1 rfl rfl
  · refine r_aload_n (x := 60) gX12_sum_0.2.2.2.2.2.1 rfl ?_
    refine r_calli (k := 0) (idx := 196) (y := 208) (as := [.ref 60]) (rest := []) (L0 := [(0, .ref 60)]) gX12_sum_0.2.2.2.2.2.2.1 rfl rfl rfl rfl rfl (vok_v (ob_60 hE) rfl) rfl (r_dep (by omega) (e_X12_look hE q)) (fun r2 => ?_)
    refine r_bipush (v := (43 : Int32)) gX12_sum_0.2.2.2.2.2.2.2.1 rfl ?_
    refine r_icmp_eq (t := 29) gX12_sum_0.2.2.2.2.2.2.2.2.1 rfl (fun h9 => ?_) (fun h9 => ?_)
    · exact r_sub (L' := [(0, .ref 60)]) (sub_c rfl sub_n) (rb_X12_sum_29 hE n hr hrec_4 q)
    · refine r_aload_n (x := 60) gX12_sum_0.2.2.2.2.2.2.2.2.2.1 rfl ?_
      refine r_calli (k := 0) (idx := 196) (y := 208) (as := [.ref 60]) (rest := []) (L0 := [(0, .ref 60)]) gX12_sum_0.2.2.2.2.2.2.2.2.2.2.1 rfl rfl rfl rfl rfl (vok_v (ob_60 hE) rfl) rfl (r_dep (by omega) (e_X12_look hE q)) (fun r7 => ?_)
      refine r_bipush (v := (45 : Int32)) gX12_sum_0.2.2.2.2.2.2.2.2.2.2.2.1 rfl ?_
      refine r_icmp_ne (t := 57) gX12_sum_0.2.2.2.2.2.2.2.2.2.2.2.2.1 rfl (fun h8 => ?_) (fun h8 => ?_)
      · exact r_sub (L' := [(0, .ref 60)]) (sub_c rfl sub_n) (rb_X12_sum_29 hE n hr hrec_4 q)
      · exact r_return gX12_sum_34.2.2.2.2.2.2.2.2.2.2.2.2.2.1 rfl rfl
def fb_X12_sum (r : GT_X12_operand) (q : SS)  : Option SS :=
  (r.2.1 q).bind fun r1 =>
  b_X12_sum_4 r r1
theorem eb_X12_sum {E : EE} (hE : GE E) {r : GT_X12_operand} (n : Nat) (hr : GS_X12_operand E n r) (q : SS)  : R E (κV E) (2 + n + 1) 216 0 [(0, .ref 60)] [] q (fb_X12_sum r q) := by
  unfold fb_X12_sum
  refine r_aload_n (x := 60) gX12_sum_0.1 rfl ?_
  refine r_callV (k := 0) (idx := 220) (y := 215) (as := [.ref 60]) (rest := []) (L0 := [(0, .ref 60)]) gX12_sum_0.2.1 rfl rfl rfl rfl rfl (vok_v (ob_60 hE) rfl) rfl (hr.2.1 q) (fun r1 => ?_)
  exact r_sub (L' := [(0, .ref 60)]) (sub_c rfl sub_n) (rb_X12_sum_4 hE n hr r1)
def b_X12_compared_35 (r : GT_X12_operand) (q : SS) (l1 : Int32) : Option SS :=
  nm (sI q 60 19 ((q.1 60 19) + (1 : Int32))) fun q3 =>
  (r.2.2.1 q3).bind fun r4 =>
  (f_X12_addStep r4 l1 (0 : Int32)).bind fun r5 =>
  some r5
theorem rb_X12_compared_35 {E : EE} (hE : GE E) {r : GT_X12_operand} (n : Nat) (hr : GS_X12_operand E n r) (q : SS) (l1 : Int32) : R E (κV E) (2 + n + 1) 217 35 [(0, .ref 60), (1, .int l1)] [] q (b_X12_compared_35 r q l1) := by
  unfold b_X12_compared_35
  refine r_aload_n (x := 60) gX12_compared_31.2.2.1 rfl ?_
  refine r_dup gX12_compared_31.2.2.2.1 rfl ?_
  refine r_getI gX12_compared_31.2.2.2.2.1 (ff_12_181_60 hE) (by decide) ?_
  refine r_iconst (v := (1 : Int32)) gX12_compared_31.2.2.2.2.2.1 rfl ?_
  refine r_iadd gX12_compared_31.2.2.2.2.2.2.1 ?_
  refine r_putI gX12_compared_31.2.2.2.2.2.2.2.1 (ff_12_181_60 hE) ?_
  refine r_nmS fun q3 _ => ?_
  refine r_aload_n (x := 60) gX12_compared_31.2.2.2.2.2.2.2.2.1 rfl ?_
  refine r_callV (k := 0) (idx := 223) (y := 216) (as := [.ref 60]) (rest := []) (L0 := [(0, .ref 60)]) gX12_compared_31.2.2.2.2.2.2.2.2.2.1 rfl rfl rfl rfl rfl (vok_v (ob_60 hE) rfl) rfl (hr.2.2.1 q3) (fun r4 => ?_)
  refine r_aload_n (x := 60) gX12_compared_31.2.2.2.2.2.2.2.2.2.2.1 rfl ?_
  refine r_iload_n (x := l1) gX12_compared_31.2.2.2.2.2.2.2.2.2.2.2.1 rfl ?_
  refine r_iconst (v := (0 : Int32)) gX12_compared_31.2.2.2.2.2.2.2.2.2.2.2.2.1 rfl ?_
  refine r_callV (k := 0) (idx := 200) (y := 210) (as := [.ref 60, .int l1, .int (0 : Int32)]) (rest := []) (L0 := [(0, .ref 60), (1, .int l1), (2, .int (0 : Int32))]) gX12_compared_31.2.2.2.2.2.2.2.2.2.2.2.2.2.1 rfl rfl rfl rfl rfl (vok_v (ob_60 hE) rfl) rfl (r_dep (by omega) (e_X12_addStep hE r4 l1 (0 : Int32))) (fun r5 => ?_)
  exact r_return gX12_compared_31.2.2.2.2.2.2.2.2.2.2.2.2.2.2.1 rfl rfl
def fb_X12_compared (r : GT_X12_operand) (q : SS)  : Option SS :=
  (r.2.2.1 q).bind fun r1 =>
  (f_X12_look r1).bind fun r2 =>
  if 0 ≤ (r1.1 60 20) then
  (some r1)
  else
  (if r2 = (60 : Int32) then
  (b_X12_compared_35 r r1 r2)
  else
  (if r2 = (61 : Int32) then
  (b_X12_compared_35 r r1 r2)
  else
  (if r2 = (62 : Int32) then
  (b_X12_compared_35 r r1 r2)
  else
  (some r1))))
theorem eb_X12_compared {E : EE} (hE : GE E) {r : GT_X12_operand} (n : Nat) (hr : GS_X12_operand E n r) (q : SS)  : R E (κV E) (2 + n + 1) 217 0 [(0, .ref 60)] [] q (fb_X12_compared r q) := by
  unfold fb_X12_compared
  refine r_aload_n (x := 60) gX12_compared_0.1 rfl ?_
  refine r_callV (k := 0) (idx := 223) (y := 216) (as := [.ref 60]) (rest := []) (L0 := [(0, .ref 60)]) gX12_compared_0.2.1 rfl rfl rfl rfl rfl (vok_v (ob_60 hE) rfl) rfl (hr.2.2.1 q) (fun r1 => ?_)
  refine r_aload_n (x := 60) gX12_compared_0.2.2.1 rfl ?_
  refine r_calli (k := 0) (idx := 196) (y := 208) (as := [.ref 60]) (rest := []) (L0 := [(0, .ref 60)]) gX12_compared_0.2.2.2.1 rfl rfl rfl rfl rfl (vok_v (ob_60 hE) rfl) rfl (r_dep (by omega) (e_X12_look hE r1)) (fun r2 => ?_)
  refine r_istore_n (L2 := [(0, .ref 60), (1, .int r2)]) gX12_compared_0.2.2.2.2.1 rfl rfl ?_
  refine r_aload_n (x := 60) gX12_compared_0.2.2.2.2.2.1 rfl ?_
  refine r_getI gX12_compared_0.2.2.2.2.2.2.1 (ff_12_184_60 hE) (by decide) ?_
  refine r_if_ge (t := 34) gX12_compared_0.2.2.2.2.2.2.2.1 rfl (fun h9 => ?_) (fun h9 => ?_)
  · exact r_return gX12_compared_31.2.1 rfl rfl
  · refine r_iload_n (x := r2) gX12_compared_0.2.2.2.2.2.2.2.2.1 rfl ?_
    refine r_bipush (v := (60 : Int32)) gX12_compared_0.2.2.2.2.2.2.2.2.2.1 rfl ?_
    refine r_icmp_eq (t := 35) gX12_compared_0.2.2.2.2.2.2.2.2.2.2.1 rfl (fun h8 => ?_) (fun h8 => ?_)
    · exact r_sub (L' := [(0, .ref 60), (1, .int r2)]) (sub_c rfl (sub_c rfl sub_n)) (rb_X12_compared_35 hE n hr r1 r2)
    · refine r_iload_n (x := r2) gX12_compared_0.2.2.2.2.2.2.2.2.2.2.2.1 rfl ?_
      refine r_bipush (v := (61 : Int32)) gX12_compared_0.2.2.2.2.2.2.2.2.2.2.2.2.1 rfl ?_
      refine r_icmp_eq (t := 35) gX12_compared_0.2.2.2.2.2.2.2.2.2.2.2.2.2.1 rfl (fun h7 => ?_) (fun h7 => ?_)
      · exact r_sub (L' := [(0, .ref 60), (1, .int r2)]) (sub_c rfl (sub_c rfl sub_n)) (rb_X12_compared_35 hE n hr r1 r2)
      · refine r_iload_n (x := r2) gX12_compared_0.2.2.2.2.2.2.2.2.2.2.2.2.2.2.1 rfl ?_
        refine r_bipush (v := (62 : Int32)) gX12_compared_0.2.2.2.2.2.2.2.2.2.2.2.2.2.2.2.1 rfl ?_
        refine r_icmp_eq (t := 35) gX12_compared_31.1 rfl (fun h6 => ?_) (fun h6 => ?_)
        · exact r_sub (L' := [(0, .ref 60), (1, .int r2)]) (sub_c rfl (sub_c rfl sub_n)) (rb_X12_compared_35 hE n hr r1 r2)
        · exact r_return gX12_compared_31.2.1 rfl rfl
def b_X12_both_4 (r : GT_X12_operand) : SS → Option SS :=
  fx1 (fun (rec_4 : SS → Option SS) (q : SS) =>
  if 0 ≤ (q.1 60 20) then
  (some q)
  else
  ((f_X12_look q).bind fun r2 =>
  if r2 = (38 : Int32) then
  (nm (sI q 60 19 ((q.1 60 19) + (1 : Int32))) fun q3 =>
  (r.2.2.2.1 q3).bind fun r4 =>
  (f_X12_addStep r4 (38 : Int32) (0 : Int32)).bind fun r5 =>
  rec_4 r5)
  else
  (some q))) FU
theorem rb_X12_both_4 {E : EE} (hE : GE E) {r : GT_X12_operand} (n : Nat) (hr : GS_X12_operand E n r) (q : SS)  : R E (κV E) (2 + n + 1) 218 4 [(0, .ref 60)] [] q (b_X12_both_4 r q) := by
  unfold b_X12_both_4
  refine fx1_ok (P := fun q o => R E (κV E) (2 + n + 1) 218 4 [(0, .ref 60)] [] q o) (fun _ => r_no) (fun rec_4 hrec_4 q => ?_) _ _
  refine r_aload_n (x := 60) gX12_both_0.2.2.1 rfl ?_
  refine r_getI gX12_both_0.2.2.2.1 (ff_12_184_60 hE) (by decide) ?_
  refine r_if_ge (t := 44) gX12_both_0.2.2.2.2.1 rfl (fun h7 => ?_) (fun h7 => ?_)
  · exact r_return gX12_both_31.2.2.2.2.2.2.1 rfl rfl
  · refine r_aload_n (x := 60) gX12_both_0.2.2.2.2.2.1 rfl ?_
    refine r_calli (k := 0) (idx := 196) (y := 208) (as := [.ref 60]) (rest := []) (L0 := [(0, .ref 60)]) gX12_both_0.2.2.2.2.2.2.1 rfl rfl rfl rfl rfl (vok_v (ob_60 hE) rfl) rfl (r_dep (by omega) (e_X12_look hE q)) (fun r2 => ?_)
    refine r_bipush (v := (38 : Int32)) gX12_both_0.2.2.2.2.2.2.2.1 rfl ?_
    refine r_icmp_ne (t := 44) gX12_both_0.2.2.2.2.2.2.2.2.1 rfl (fun h6 => ?_) (fun h6 => ?_)
    · refine r_aload_n (x := 60) gX12_both_0.2.2.2.2.2.2.2.2.2.1 rfl ?_
      refine r_dup gX12_both_0.2.2.2.2.2.2.2.2.2.2.1 rfl ?_
      refine r_getI gX12_both_0.2.2.2.2.2.2.2.2.2.2.2.1 (ff_12_181_60 hE) (by decide) ?_
      refine r_iconst (v := (1 : Int32)) gX12_both_0.2.2.2.2.2.2.2.2.2.2.2.2.1 rfl ?_
      refine r_iadd gX12_both_0.2.2.2.2.2.2.2.2.2.2.2.2.2.1 ?_
      refine r_putI gX12_both_0.2.2.2.2.2.2.2.2.2.2.2.2.2.2.1 (ff_12_181_60 hE) ?_
      refine r_nmS fun q3 _ => ?_
      refine r_aload_n (x := 60) gX12_both_0.2.2.2.2.2.2.2.2.2.2.2.2.2.2.2.1 rfl ?_
      refine r_callV (k := 0) (idx := 226) (y := 217) (as := [.ref 60]) (rest := []) (L0 := [(0, .ref 60)]) gX12_both_31.1 rfl rfl rfl rfl rfl (vok_v (ob_60 hE) rfl) rfl (hr.2.2.2.1 q3) (fun r4 => ?_)
      refine r_aload_n (x := 60) gX12_both_31.2.1 rfl ?_
      refine r_bipush (v := (38 : Int32)) gX12_both_31.2.2.1 rfl ?_
      refine r_iconst (v := (0 : Int32)) gX12_both_31.2.2.2.1 rfl ?_
      refine r_callV (k := 0) (idx := 200) (y := 210) (as := [.ref 60, .int (38 : Int32), .int (0 : Int32)]) (rest := []) (L0 := [(0, .ref 60), (1, .int (38 : Int32)), (2, .int (0 : Int32))]) gX12_both_31.2.2.2.2.1 rfl rfl rfl rfl rfl (vok_v (ob_60 hE) rfl) rfl (r_dep (by omega) (e_X12_addStep hE r4 (38 : Int32) (0 : Int32))) (fun r5 => ?_)
      refine r_goto (t := 4) gX12_both_31.2.2.2.2.2.1 rfl ?_
      exact r_sub (L' := [(0, .ref 60)]) (sub_c rfl sub_n) (hrec_4 r5)
    · exact r_return gX12_both_31.2.2.2.2.2.2.1 rfl rfl
def fb_X12_both (r : GT_X12_operand) (q : SS)  : Option SS :=
  (r.2.2.2.1 q).bind fun r1 =>
  b_X12_both_4 r r1
theorem eb_X12_both {E : EE} (hE : GE E) {r : GT_X12_operand} (n : Nat) (hr : GS_X12_operand E n r) (q : SS)  : R E (κV E) (2 + n + 1) 218 0 [(0, .ref 60)] [] q (fb_X12_both r q) := by
  unfold fb_X12_both
  refine r_aload_n (x := 60) gX12_both_0.1 rfl ?_
  refine r_callV (k := 0) (idx := 226) (y := 217) (as := [.ref 60]) (rest := []) (L0 := [(0, .ref 60)]) gX12_both_0.2.1 rfl rfl rfl rfl rfl (vok_v (ob_60 hE) rfl) rfl (hr.2.2.2.1 q) (fun r1 => ?_)
  exact r_sub (L' := [(0, .ref 60)]) (sub_c rfl sub_n) (rb_X12_both_4 hE n hr r1)
def b_X12_either_4 (r : GT_X12_operand) : SS → Option SS :=
  fx1 (fun (rec_4 : SS → Option SS) (q : SS) =>
  if 0 ≤ (q.1 60 20) then
  (some q)
  else
  ((f_X12_look q).bind fun r2 =>
  if r2 = (124 : Int32) then
  (nm (sI q 60 19 ((q.1 60 19) + (1 : Int32))) fun q3 =>
  (r.2.2.2.2.1 q3).bind fun r4 =>
  (f_X12_addStep r4 (124 : Int32) (0 : Int32)).bind fun r5 =>
  rec_4 r5)
  else
  (some q))) FU
theorem rb_X12_either_4 {E : EE} (hE : GE E) {r : GT_X12_operand} (n : Nat) (hr : GS_X12_operand E n r) (q : SS)  : R E (κV E) (2 + n + 1) 219 4 [(0, .ref 60)] [] q (b_X12_either_4 r q) := by
  unfold b_X12_either_4
  refine fx1_ok (P := fun q o => R E (κV E) (2 + n + 1) 219 4 [(0, .ref 60)] [] q o) (fun _ => r_no) (fun rec_4 hrec_4 q => ?_) _ _
  refine r_aload_n (x := 60) gX12_either_0.2.2.1 rfl ?_
  refine r_getI gX12_either_0.2.2.2.1 (ff_12_184_60 hE) (by decide) ?_
  refine r_if_ge (t := 44) gX12_either_0.2.2.2.2.1 rfl (fun h7 => ?_) (fun h7 => ?_)
  · exact r_return gX12_either_31.2.2.2.2.2.2.1 rfl rfl
  · refine r_aload_n (x := 60) gX12_either_0.2.2.2.2.2.1 rfl ?_
    refine r_calli (k := 0) (idx := 196) (y := 208) (as := [.ref 60]) (rest := []) (L0 := [(0, .ref 60)]) gX12_either_0.2.2.2.2.2.2.1 rfl rfl rfl rfl rfl (vok_v (ob_60 hE) rfl) rfl (r_dep (by omega) (e_X12_look hE q)) (fun r2 => ?_)
    refine r_bipush (v := (124 : Int32)) gX12_either_0.2.2.2.2.2.2.2.1 rfl ?_
    refine r_icmp_ne (t := 44) gX12_either_0.2.2.2.2.2.2.2.2.1 rfl (fun h6 => ?_) (fun h6 => ?_)
    · refine r_aload_n (x := 60) gX12_either_0.2.2.2.2.2.2.2.2.2.1 rfl ?_
      refine r_dup gX12_either_0.2.2.2.2.2.2.2.2.2.2.1 rfl ?_
      refine r_getI gX12_either_0.2.2.2.2.2.2.2.2.2.2.2.1 (ff_12_181_60 hE) (by decide) ?_
      refine r_iconst (v := (1 : Int32)) gX12_either_0.2.2.2.2.2.2.2.2.2.2.2.2.1 rfl ?_
      refine r_iadd gX12_either_0.2.2.2.2.2.2.2.2.2.2.2.2.2.1 ?_
      refine r_putI gX12_either_0.2.2.2.2.2.2.2.2.2.2.2.2.2.2.1 (ff_12_181_60 hE) ?_
      refine r_nmS fun q3 _ => ?_
      refine r_aload_n (x := 60) gX12_either_0.2.2.2.2.2.2.2.2.2.2.2.2.2.2.2.1 rfl ?_
      refine r_callV (k := 0) (idx := 229) (y := 218) (as := [.ref 60]) (rest := []) (L0 := [(0, .ref 60)]) gX12_either_31.1 rfl rfl rfl rfl rfl (vok_v (ob_60 hE) rfl) rfl (hr.2.2.2.2.1 q3) (fun r4 => ?_)
      refine r_aload_n (x := 60) gX12_either_31.2.1 rfl ?_
      refine r_bipush (v := (124 : Int32)) gX12_either_31.2.2.1 rfl ?_
      refine r_iconst (v := (0 : Int32)) gX12_either_31.2.2.2.1 rfl ?_
      refine r_callV (k := 0) (idx := 200) (y := 210) (as := [.ref 60, .int (124 : Int32), .int (0 : Int32)]) (rest := []) (L0 := [(0, .ref 60), (1, .int (124 : Int32)), (2, .int (0 : Int32))]) gX12_either_31.2.2.2.2.1 rfl rfl rfl rfl rfl (vok_v (ob_60 hE) rfl) rfl (r_dep (by omega) (e_X12_addStep hE r4 (124 : Int32) (0 : Int32))) (fun r5 => ?_)
      refine r_goto (t := 4) gX12_either_31.2.2.2.2.2.1 rfl ?_
      exact r_sub (L' := [(0, .ref 60)]) (sub_c rfl sub_n) (hrec_4 r5)
    · exact r_return gX12_either_31.2.2.2.2.2.2.1 rfl rfl
def fb_X12_either (r : GT_X12_operand) (q : SS)  : Option SS :=
  (r.2.2.2.2.1 q).bind fun r1 =>
  b_X12_either_4 r r1
theorem eb_X12_either {E : EE} (hE : GE E) {r : GT_X12_operand} (n : Nat) (hr : GS_X12_operand E n r) (q : SS)  : R E (κV E) (2 + n + 1) 219 0 [(0, .ref 60)] [] q (fb_X12_either r q) := by
  unfold fb_X12_either
  refine r_aload_n (x := 60) gX12_either_0.1 rfl ?_
  refine r_callV (k := 0) (idx := 229) (y := 218) (as := [.ref 60]) (rest := []) (L0 := [(0, .ref 60)]) gX12_either_0.2.1 rfl rfl rfl rfl rfl (vok_v (ob_60 hE) rfl) rfl (hr.2.2.2.2.1 q) (fun r1 => ?_)
  exact r_sub (L' := [(0, .ref 60)]) (sub_c rfl sub_n) (rb_X12_either_4 hE n hr r1)
def g_X12_operand : Nat → GT_X12_operand
  | 0 => (fun _ => none, fun _ => none, fun _ => none, fun _ => none, fun _ => none, fun _ => none)
  | n + 1 => (fb_X12_operand (g_X12_operand n), fb_X12_product (g_X12_operand n), fb_X12_sum (g_X12_operand n), fb_X12_compared (g_X12_operand n), fb_X12_both (g_X12_operand n), fb_X12_either (g_X12_operand n))
theorem gs_X12_operand {E : EE} (hE : GE E) : ∀ n, GS_X12_operand E n (g_X12_operand n)
  | 0 => ⟨fun _ => r_no, fun _ => r_no, fun _ => r_no, fun _ => r_no, fun _ => r_no, fun _ => r_no⟩
  | n + 1 => ⟨eb_X12_operand hE n (gs_X12_operand hE n), eb_X12_product hE n (gs_X12_operand hE n), eb_X12_sum hE n (gs_X12_operand hE n), eb_X12_compared hE n (gs_X12_operand hE n), eb_X12_both hE n (gs_X12_operand hE n), eb_X12_either hE n (gs_X12_operand hE n)⟩
def f_X12_operand : SS → Option SS := (g_X12_operand 900).1
theorem e_X12_operand {E : EE} (hE : GE E) : ∀ (q : SS) , R E (κV E) 902 214 0 [(0, .ref 60)] [] q (f_X12_operand q) := (gs_X12_operand hE 900).1
def f_X12_product : SS → Option SS := (g_X12_operand 900).2.1
theorem e_X12_product {E : EE} (hE : GE E) : ∀ (q : SS) , R E (κV E) 902 215 0 [(0, .ref 60)] [] q (f_X12_product q) := (gs_X12_operand hE 900).2.1
def f_X12_sum : SS → Option SS := (g_X12_operand 900).2.2.1
theorem e_X12_sum {E : EE} (hE : GE E) : ∀ (q : SS) , R E (κV E) 902 216 0 [(0, .ref 60)] [] q (f_X12_sum q) := (gs_X12_operand hE 900).2.2.1
def f_X12_compared : SS → Option SS := (g_X12_operand 900).2.2.2.1
theorem e_X12_compared {E : EE} (hE : GE E) : ∀ (q : SS) , R E (κV E) 902 217 0 [(0, .ref 60)] [] q (f_X12_compared q) := (gs_X12_operand hE 900).2.2.2.1
def f_X12_both : SS → Option SS := (g_X12_operand 900).2.2.2.2.1
theorem e_X12_both {E : EE} (hE : GE E) : ∀ (q : SS) , R E (κV E) 902 218 0 [(0, .ref 60)] [] q (f_X12_both q) := (gs_X12_operand hE 900).2.2.2.2.1
def f_X12_either : SS → Option SS := (g_X12_operand 900).2.2.2.2.2
theorem e_X12_either {E : EE} (hE : GE E) : ∀ (q : SS) , R E (κV E) 902 219 0 [(0, .ref 60)] [] q (f_X12_either q) := (gs_X12_operand hE 900).2.2.2.2.2

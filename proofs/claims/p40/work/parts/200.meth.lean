def f_X3_ran (q : SS)  : Option Int32 :=
  some (q.1 57 3)
theorem e_X3_ran {E : EE} (hE : GE E) (q : SS)  : R E (κi E q) 0 33 0 [(0, .ref 57)] [] q (f_X3_ran q) := by
  unfold f_X3_ran
  refine r_aload_n (x := 57) gX3_ran_0.1 rfl ?_
  refine r_getI gX3_ran_0.2.1 (ff_3_32_57 hE) (by decide) ?_
  exact r_ireturn gX3_ran_0.2.2.1 rfl rfl
def f_X3_bodies (q : SS)  : Option Int32 :=
  some (q.1 57 2)
theorem e_X3_bodies {E : EE} (hE : GE E) (q : SS)  : R E (κi E q) 0 32 0 [(0, .ref 57)] [] q (f_X3_bodies q) := by
  unfold f_X3_bodies
  refine r_aload_n (x := 57) gX3_bodies_0.1 rfl ?_
  refine r_getI gX3_bodies_0.2.1 (ff_3_25_57 hE) (by decide) ?_
  exact r_ireturn gX3_bodies_0.2.2.1 rfl rfl
def f_X0_done (q : SS)  : Option Int32 :=
  some (q.1 52 5)
theorem e_X0_done {E : EE} (hE : GE E) (q : SS)  : R E (κi E q) 0 1 0 [(0, .ref 52)] [] q (f_X0_done q) := by
  unfold f_X0_done
  refine r_aload_n (x := 52) gX0_done_0.1 rfl ?_
  refine r_getI gX0_done_0.2.1 (ff_0_26_52 hE) (by decide) ?_
  exact r_ireturn gX0_done_0.2.2.1 rfl rfl
def f_X5_tapeLength (q : SS)  : Option Int32 :=
  some (q.1 17 2)
theorem e_X5_tapeLength {E : EE} (hE : GE E) (q : SS)  : R E (κi E q) 0 52 0 [(0, .ref 17)] [] q (f_X5_tapeLength q) := by
  unfold f_X5_tapeLength
  refine r_aload_n (x := 17) gX5_tapeLength_0.1 rfl ?_
  refine r_getI gX5_tapeLength_0.2.1 (ff_5_22_17 hE) (by decide) ?_
  exact r_ireturn gX5_tapeLength_0.2.2.1 rfl rfl
def f_X10_tickets (q : SS)  : Option Int32 :=
  some (q.1 1 2)
theorem e_X10_tickets {E : EE} (hE : GE E) (q : SS)  : R E (κi E q) 0 126 0 [(0, .ref 1)] [] q (f_X10_tickets q) := by
  unfold f_X10_tickets
  refine r_aload_n (x := 1) gX10_tickets_0.1 rfl ?_
  refine r_getI gX10_tickets_0.2.1 (ff_10_20_1 hE) (by decide) ?_
  exact r_ireturn gX10_tickets_0.2.2.1 rfl rfl
def f_X10_people (q : SS)  : Option Int32 :=
  some (q.1 1 1)
theorem e_X10_people {E : EE} (hE : GE E) (q : SS)  : R E (κi E q) 0 125 0 [(0, .ref 1)] [] q (f_X10_people q) := by
  unfold f_X10_people
  refine r_aload_n (x := 1) gX10_people_0.1 rfl ?_
  refine r_getI gX10_people_0.2.1 (ff_10_16_1 hE) (by decide) ?_
  exact r_ireturn gX10_people_0.2.2.1 rfl rfl
def f_X11_count (q : SS) (a1 : Int32) : Option Int32 :=
  sw a1 [(0, ((f_X10_people q).bind fun r2 =>
  some r2)), (1, ((f_X10_tickets q).bind fun r4 =>
  some r4)), (2, ((f_X5_tapeLength q).bind fun r6 =>
  some r6)), (3, ((f_X0_done q).bind fun r8 =>
  some r8)), (4, ((f_X3_bodies q).bind fun r10 =>
  some r10)), (5, ((f_X3_ran q).bind fun r12 =>
  some r12))]
  (some (-1 : Int32))
theorem e_X11_count {E : EE} (hE : GE E) (q : SS) (a1 : Int32) : R E (κi E q) 1 187 0 [(0, .ref 0), (1, .int a1)] [] q (f_X11_count q a1) := by
  unfold f_X11_count
  refine r_iload_n (x := a1) gX11_count_0.1 rfl ?_
  refine r_sw1 (fun h1 => ?_) (fun h1 => ?_)
  · refine r_jmp (t := 40) dX11_count_1 rfl (by rw [h1]; rfl) ?_
    refine r_aload_n (x := 0) gX11_count_40.1 rfl ?_
    refine r_getA gX11_count_40.2.1 (fa_11_10_0 hE) ?_
    refine r_calli (k := 0) (idx := 226) (y := 125) (as := [.ref 1]) (rest := []) (L0 := [(0, .ref 1)]) gX11_count_40.2.2.1 rfl rfl rfl rfl rfl (vok_v (ob_1 hE) rfl) rfl (r_dep (by decide) (e_X10_people hE q)) (fun r2 => ?_)
    exact r_ireturn gX11_count_40.2.2.2.1 rfl rfl
  refine r_sw1 (fun h3 => ?_) (fun h3 => ?_)
  · refine r_jmp (t := 48) dX11_count_1 rfl (by rw [h3]; rfl) ?_
    refine r_aload_n (x := 0) gX11_count_40.2.2.2.2.1 rfl ?_
    refine r_getA gX11_count_40.2.2.2.2.2.1 (fa_11_10_0 hE) ?_
    refine r_calli (k := 0) (idx := 229) (y := 126) (as := [.ref 1]) (rest := []) (L0 := [(0, .ref 1)]) gX11_count_40.2.2.2.2.2.2.1 rfl rfl rfl rfl rfl (vok_v (ob_1 hE) rfl) rfl (r_dep (by decide) (e_X10_tickets hE q)) (fun r4 => ?_)
    exact r_ireturn gX11_count_40.2.2.2.2.2.2.2.1 rfl rfl
  refine r_sw1 (fun h5 => ?_) (fun h5 => ?_)
  · refine r_jmp (t := 56) dX11_count_1 rfl (by rw [h5]; rfl) ?_
    refine r_aload_n (x := 0) gX11_count_40.2.2.2.2.2.2.2.2.1 rfl ?_
    refine r_getA gX11_count_40.2.2.2.2.2.2.2.2.2.1 (fa_11_26_0 hE) ?_
    refine r_calli (k := 0) (idx := 393) (y := 52) (as := [.ref 17]) (rest := []) (L0 := [(0, .ref 17)]) gX11_count_40.2.2.2.2.2.2.2.2.2.2.1 rfl rfl rfl rfl rfl (vok_v (ob_17 hE) rfl) rfl (r_dep (by decide) (e_X5_tapeLength hE q)) (fun r6 => ?_)
    exact r_ireturn gX11_count_40.2.2.2.2.2.2.2.2.2.2.2.1 rfl rfl
  refine r_sw1 (fun h7 => ?_) (fun h7 => ?_)
  · refine r_jmp (t := 64) dX11_count_1 rfl (by rw [h7]; rfl) ?_
    refine r_aload_n (x := 0) gX11_count_40.2.2.2.2.2.2.2.2.2.2.2.2.1 rfl ?_
    refine r_getA gX11_count_40.2.2.2.2.2.2.2.2.2.2.2.2.2.1 (fa_11_83_0 hE) ?_
    refine r_calli (k := 0) (idx := 324) (y := 1) (as := [.ref 52]) (rest := []) (L0 := [(0, .ref 52)]) gX11_count_40.2.2.2.2.2.2.2.2.2.2.2.2.2.2.1 rfl rfl rfl rfl rfl (vok_v (ob_52 hE) rfl) rfl (r_dep (by decide) (e_X0_done hE q)) (fun r8 => ?_)
    exact r_ireturn gX11_count_40.2.2.2.2.2.2.2.2.2.2.2.2.2.2.2.1 rfl rfl
  refine r_sw1 (fun h9 => ?_) (fun h9 => ?_)
  · refine r_jmp (t := 72) dX11_count_1 rfl (by rw [h9]; rfl) ?_
    refine r_aload_n (x := 0) gX11_count_72.1 rfl ?_
    refine r_getA gX11_count_72.2.1 (fa_11_90_0 hE) ?_
    refine r_calli (k := 0) (idx := 396) (y := 32) (as := [.ref 57]) (rest := []) (L0 := [(0, .ref 57)]) gX11_count_72.2.2.1 rfl rfl rfl rfl rfl (vok_v (ob_57 hE) rfl) rfl (r_dep (by decide) (e_X3_bodies hE q)) (fun r10 => ?_)
    exact r_ireturn gX11_count_72.2.2.2.1 rfl rfl
  refine r_sw1 (fun h11 => ?_) (fun h11 => ?_)
  · refine r_jmp (t := 80) dX11_count_1 rfl (by rw [h11]; rfl) ?_
    refine r_aload_n (x := 0) gX11_count_72.2.2.2.2.1 rfl ?_
    refine r_getA gX11_count_72.2.2.2.2.2.1 (fa_11_90_0 hE) ?_
    refine r_calli (k := 0) (idx := 399) (y := 33) (as := [.ref 57]) (rest := []) (L0 := [(0, .ref 57)]) gX11_count_72.2.2.2.2.2.2.1 rfl rfl rfl rfl rfl (vok_v (ob_57 hE) rfl) rfl (r_dep (by decide) (e_X3_ran hE q)) (fun r12 => ?_)
    exact r_ireturn gX11_count_72.2.2.2.2.2.2.2.1 rfl rfl
  refine r_jmp (t := 88) dX11_count_1 rfl ?_ ?_
  · have h13 := sw_lo (v := a1.toInt) 0
    have h13 := sw_st h13 h1
    have h13 := sw_st h13 h3
    have h13 := sw_st h13 h5
    have h13 := sw_st h13 h7
    have h13 := sw_st h13 h9
    have h13 := sw_st h13 h11
    exact sw_df h13 (by decide) rfl
  refine r_iconst (v := (-1 : Int32)) gX11_count_72.2.2.2.2.2.2.2.2.1 rfl ?_
  exact r_ireturn gX11_count_72.2.2.2.2.2.2.2.2.2.1 rfl rfl
def f_X12_count (q : SS) (a1 : Int32) : Option Int32 :=
  sw a1 [(0, (some (q.1 60 1))), (1, (some (q.1 60 6))), (2, (some (q.1 60 18))), (3, (some (q.1 60 11))), (4, (some (q.1 60 52))), (5, (some (q.1 60 54)))]
  (some (-1 : Int32))
theorem e_X12_count {E : EE} (hE : GE E) (q : SS) (a1 : Int32) : R E (κi E q) 0 287 0 [(0, .ref 60), (1, .int a1)] [] q (f_X12_count q a1) := by
  unfold f_X12_count
  refine r_iload_n (x := a1) gX12_count_0.1 rfl ?_
  refine r_sw1 (fun h1 => ?_) (fun h1 => ?_)
  · refine r_jmp (t := 40) dX12_count_1 rfl (by rw [h1]; rfl) ?_
    refine r_aload_n (x := 60) gX12_count_40.1 rfl ?_
    refine r_getI gX12_count_40.2.1 (ff_12_115_60 hE) (by decide) ?_
    exact r_ireturn gX12_count_40.2.2.1 rfl rfl
  refine r_sw1 (fun h2 => ?_) (fun h2 => ?_)
  · refine r_jmp (t := 45) dX12_count_1 rfl (by rw [h2]; rfl) ?_
    refine r_aload_n (x := 60) gX12_count_40.2.2.2.1 rfl ?_
    refine r_getI gX12_count_40.2.2.2.2.1 (ff_12_122_60 hE) (by decide) ?_
    exact r_ireturn gX12_count_40.2.2.2.2.2.1 rfl rfl
  refine r_sw1 (fun h3 => ?_) (fun h3 => ?_)
  · refine r_jmp (t := 50) dX12_count_1 rfl (by rw [h3]; rfl) ?_
    refine r_aload_n (x := 60) gX12_count_40.2.2.2.2.2.2.1 rfl ?_
    refine r_getI gX12_count_40.2.2.2.2.2.2.2.1 (ff_12_178_60 hE) (by decide) ?_
    exact r_ireturn gX12_count_40.2.2.2.2.2.2.2.2.1 rfl rfl
  refine r_sw1 (fun h4 => ?_) (fun h4 => ?_)
  · refine r_jmp (t := 55) dX12_count_1 rfl (by rw [h4]; rfl) ?_
    refine r_aload_n (x := 60) gX12_count_40.2.2.2.2.2.2.2.2.2.1 rfl ?_
    refine r_getI gX12_count_40.2.2.2.2.2.2.2.2.2.2.1 (ff_12_149_60 hE) (by decide) ?_
    exact r_ireturn gX12_count_40.2.2.2.2.2.2.2.2.2.2.2.1 rfl rfl
  refine r_sw1 (fun h5 => ?_) (fun h5 => ?_)
  · refine r_jmp (t := 60) dX12_count_1 rfl (by rw [h5]; rfl) ?_
    refine r_aload_n (x := 60) gX12_count_40.2.2.2.2.2.2.2.2.2.2.2.2.1 rfl ?_
    refine r_getI gX12_count_40.2.2.2.2.2.2.2.2.2.2.2.2.2.1 (ff_12_365_60 hE) (by decide) ?_
    exact r_ireturn gX12_count_40.2.2.2.2.2.2.2.2.2.2.2.2.2.2.1 rfl rfl
  refine r_sw1 (fun h6 => ?_) (fun h6 => ?_)
  · refine r_jmp (t := 65) dX12_count_1 rfl (by rw [h6]; rfl) ?_
    refine r_aload_n (x := 60) gX12_count_40.2.2.2.2.2.2.2.2.2.2.2.2.2.2.2.1 rfl ?_
    refine r_getI gX12_count_66.1 (ff_12_368_60 hE) (by decide) ?_
    exact r_ireturn gX12_count_66.2.1 rfl rfl
  refine r_jmp (t := 70) dX12_count_1 rfl ?_ ?_
  · have h7 := sw_lo (v := a1.toInt) 0
    have h7 := sw_st h7 h1
    have h7 := sw_st h7 h2
    have h7 := sw_st h7 h3
    have h7 := sw_st h7 h4
    have h7 := sw_st h7 h5
    have h7 := sw_st h7 h6
    exact sw_df h7 (by decide) rfl
  refine r_iconst (v := (-1 : Int32)) gX12_count_66.2.2.1 rfl ?_
  exact r_ireturn gX12_count_66.2.2.2.1 rfl rfl
def f_X7_isShelf (q : SS) (a1 : Int32) : Option Int32 :=
  if a1 < 0 then
  (some (0 : Int32))
  else
  (if (6 : Int32) ≤ a1 then
  (some (0 : Int32))
  else
  (some (1 : Int32)))
theorem e_X7_isShelf {E : EE} (hE : GE E) (q : SS) (a1 : Int32) : R E (κi E q) 0 79 0 [(0, .ref 26), (1, .int a1)] [] q (f_X7_isShelf q a1) := by
  unfold f_X7_isShelf
  refine r_iload_n (x := a1) gX7_isShelf_0.1 rfl ?_
  refine r_if_lt (t := 14) gX7_isShelf_0.2.1 rfl (fun h2 => ?_) (fun h2 => ?_)
  · refine r_iconst (v := (0 : Int32)) gX7_isShelf_0.2.2.2.2.2.2.2.1 rfl ?_
    exact r_ireturn gX7_isShelf_0.2.2.2.2.2.2.2.2.1 rfl rfl
  · refine r_iload_n (x := a1) gX7_isShelf_0.2.2.1 rfl ?_
    refine r_bipush (v := (6 : Int32)) gX7_isShelf_0.2.2.2.1 rfl ?_
    refine r_icmp_ge (t := 14) gX7_isShelf_0.2.2.2.2.1 rfl (fun h1 => ?_) (fun h1 => ?_)
    · refine r_iconst (v := (0 : Int32)) gX7_isShelf_0.2.2.2.2.2.2.2.1 rfl ?_
      exact r_ireturn gX7_isShelf_0.2.2.2.2.2.2.2.2.1 rfl rfl
    · refine r_iconst (v := (1 : Int32)) gX7_isShelf_0.2.2.2.2.2.1 rfl ?_
      refine r_goto (t := 15) gX7_isShelf_0.2.2.2.2.2.2.1 rfl ?_
      exact r_ireturn gX7_isShelf_0.2.2.2.2.2.2.2.2.1 rfl rfl
def f_X3_isKind (q : SS) (a0 : Int32) : Option Int32 :=
  if a0 < 0 then
  (some (0 : Int32))
  else
  (if (8 : Int32) ≤ a0 then
  (some (0 : Int32))
  else
  (some (1 : Int32)))
theorem e_X3_isKind {E : EE} (hE : GE E) (q : SS) (a0 : Int32) : R E (κi E q) 0 27 0 [(0, .int a0)] [] q (f_X3_isKind q a0) := by
  unfold f_X3_isKind
  refine r_iload_n (x := a0) gX3_isKind_0.1 rfl ?_
  refine r_if_lt (t := 14) gX3_isKind_0.2.1 rfl (fun h2 => ?_) (fun h2 => ?_)
  · refine r_iconst (v := (0 : Int32)) gX3_isKind_0.2.2.2.2.2.2.2.1 rfl ?_
    exact r_ireturn gX3_isKind_0.2.2.2.2.2.2.2.2.1 rfl rfl
  · refine r_iload_n (x := a0) gX3_isKind_0.2.2.1 rfl ?_
    refine r_bipush (v := (8 : Int32)) gX3_isKind_0.2.2.2.1 rfl ?_
    refine r_icmp_ge (t := 14) gX3_isKind_0.2.2.2.2.1 rfl (fun h1 => ?_) (fun h1 => ?_)
    · refine r_iconst (v := (0 : Int32)) gX3_isKind_0.2.2.2.2.2.2.2.1 rfl ?_
      exact r_ireturn gX3_isKind_0.2.2.2.2.2.2.2.2.1 rfl rfl
    · refine r_iconst (v := (1 : Int32)) gX3_isKind_0.2.2.2.2.2.1 rfl ?_
      refine r_goto (t := 15) gX3_isKind_0.2.2.2.2.2.2.1 rfl ?_
      exact r_ireturn gX3_isKind_0.2.2.2.2.2.2.2.2.1 rfl rfl
def f_X7_isEmpty (q : SS) (a1 : Int32) : Option Int32 :=
  (f_X7_isShelf q a1).bind fun r1 =>
  if r1 = 0 then
  (some (0 : Int32))
  else
  (if vin a1 6 then
  if (q.1 27 a1.toNatClampNeg) = (-2 : Int32) then
  (some (1 : Int32))
  else
  (some (0 : Int32))
  else none)
theorem e_X7_isEmpty {E : EE} (hE : GE E) (q : SS) (a1 : Int32) : R E (κi E q) 1 80 0 [(0, .ref 26), (1, .int a1)] [] q (f_X7_isEmpty q a1) := by
  unfold f_X7_isEmpty
  refine r_aload_n (x := 26) gX7_isEmpty_0.1 rfl ?_
  refine r_iload_n (x := a1) gX7_isEmpty_0.2.1 rfl ?_
  refine r_calli (k := 0) (idx := 26) (y := 79) (as := [.ref 26, .int a1]) (rest := []) (L0 := [(0, .ref 26), (1, .int a1)]) gX7_isEmpty_0.2.2.1 rfl rfl rfl rfl rfl (vok_v (ob_26 hE) rfl) rfl (r_dep (by decide) (e_X7_isShelf hE q a1)) (fun r1 => ?_)
  refine r_if_eq (t := 23) gX7_isEmpty_0.2.2.2.1 rfl (fun h3 => ?_) (fun h3 => ?_)
  · refine r_iconst (v := (0 : Int32)) gX7_isEmpty_0.2.2.2.2.2.2.2.2.2.2.2.2.1 rfl ?_
    exact r_ireturn gX7_isEmpty_0.2.2.2.2.2.2.2.2.2.2.2.2.2.1 rfl rfl
  · refine r_aload_n (x := 26) gX7_isEmpty_0.2.2.2.2.1 rfl ?_
    refine r_getA gX7_isEmpty_0.2.2.2.2.2.1 (fa_7_11_26 hE) ?_
    refine r_iload_n (x := a1) gX7_isEmpty_0.2.2.2.2.2.2.1 rfl ?_
    refine r_iaload gX7_isEmpty_0.2.2.2.2.2.2.2.1 (ar_27 hE) ?_
    refine r_bipush (v := (-2 : Int32)) gX7_isEmpty_0.2.2.2.2.2.2.2.2.1 rfl ?_
    refine r_icmp_ne (t := 23) gX7_isEmpty_0.2.2.2.2.2.2.2.2.2.1 rfl (fun h2 => ?_) (fun h2 => ?_)
    · refine r_iconst (v := (1 : Int32)) gX7_isEmpty_0.2.2.2.2.2.2.2.2.2.2.1 rfl ?_
      refine r_goto (t := 24) gX7_isEmpty_0.2.2.2.2.2.2.2.2.2.2.2.1 rfl ?_
      exact r_ireturn gX7_isEmpty_0.2.2.2.2.2.2.2.2.2.2.2.2.2.1 rfl rfl
    · refine r_iconst (v := (0 : Int32)) gX7_isEmpty_0.2.2.2.2.2.2.2.2.2.2.2.2.1 rfl ?_
      exact r_ireturn gX7_isEmpty_0.2.2.2.2.2.2.2.2.2.2.2.2.2.1 rfl rfl
def f_X7_isSort (q : SS) (a0 : Int32) : Option Int32 :=
  if a0 < 0 then
  (some (0 : Int32))
  else
  (if (4 : Int32) < a0 then
  (some (0 : Int32))
  else
  (some (1 : Int32)))
theorem e_X7_isSort {E : EE} (hE : GE E) (q : SS) (a0 : Int32) : R E (κi E q) 0 78 0 [(0, .int a0)] [] q (f_X7_isSort q a0) := by
  unfold f_X7_isSort
  refine r_iload_n (x := a0) gX7_isSort_0.1 rfl ?_
  refine r_if_lt (t := 13) gX7_isSort_0.2.1 rfl (fun h2 => ?_) (fun h2 => ?_)
  · refine r_iconst (v := (0 : Int32)) gX7_isSort_0.2.2.2.2.2.2.2.1 rfl ?_
    exact r_ireturn gX7_isSort_0.2.2.2.2.2.2.2.2.1 rfl rfl
  · refine r_iload_n (x := a0) gX7_isSort_0.2.2.1 rfl ?_
    refine r_iconst (v := (4 : Int32)) gX7_isSort_0.2.2.2.1 rfl ?_
    refine r_icmp_gt (t := 13) gX7_isSort_0.2.2.2.2.1 rfl (fun h1 => ?_) (fun h1 => ?_)
    · refine r_iconst (v := (0 : Int32)) gX7_isSort_0.2.2.2.2.2.2.2.1 rfl ?_
      exact r_ireturn gX7_isSort_0.2.2.2.2.2.2.2.2.1 rfl rfl
    · refine r_iconst (v := (1 : Int32)) gX7_isSort_0.2.2.2.2.2.1 rfl ?_
      refine r_goto (t := 14) gX7_isSort_0.2.2.2.2.2.2.1 rfl ?_
      exact r_ireturn gX7_isSort_0.2.2.2.2.2.2.2.2.1 rfl rfl
def f_X7_isRow (q : SS) (a1 : Int32) : Option Int32 :=
  (f_X7_isShelf q a1).bind fun r1 =>
  if r1 = 0 then
  (some (0 : Int32))
  else
  (if vin a1 6 then
  (f_X7_isSort q (q.1 27 a1.toNatClampNeg)).bind fun r2 =>
  if r2 = 0 then
  (some (0 : Int32))
  else
  (some (1 : Int32))
  else none)
theorem e_X7_isRow {E : EE} (hE : GE E) (q : SS) (a1 : Int32) : R E (κi E q) 1 81 0 [(0, .ref 26), (1, .int a1)] [] q (f_X7_isRow q a1) := by
  unfold f_X7_isRow
  refine r_aload_n (x := 26) gX7_isRow_0.1 rfl ?_
  refine r_iload_n (x := a1) gX7_isRow_0.2.1 rfl ?_
  refine r_calli (k := 0) (idx := 26) (y := 79) (as := [.ref 26, .int a1]) (rest := []) (L0 := [(0, .ref 26), (1, .int a1)]) gX7_isRow_0.2.2.1 rfl rfl rfl rfl rfl (vok_v (ob_26 hE) rfl) rfl (r_dep (by decide) (e_X7_isShelf hE q a1)) (fun r1 => ?_)
  refine r_if_eq (t := 24) gX7_isRow_0.2.2.2.1 rfl (fun h4 => ?_) (fun h4 => ?_)
  · refine r_iconst (v := (0 : Int32)) gX7_isRow_0.2.2.2.2.2.2.2.2.2.2.2.2.1 rfl ?_
    exact r_ireturn gX7_isRow_0.2.2.2.2.2.2.2.2.2.2.2.2.2.1 rfl rfl
  · refine r_aload_n (x := 26) gX7_isRow_0.2.2.2.2.1 rfl ?_
    refine r_getA gX7_isRow_0.2.2.2.2.2.1 (fa_7_11_26 hE) ?_
    refine r_iload_n (x := a1) gX7_isRow_0.2.2.2.2.2.2.1 rfl ?_
    refine r_iaload gX7_isRow_0.2.2.2.2.2.2.2.1 (ar_27 hE) ?_
    refine r_calli (k := 2) (idx := 30) (y := 78) (as := [.int (q.1 27 a1.toNatClampNeg)]) (rest := []) (L0 := [(0, .int (q.1 27 a1.toNatClampNeg))]) gX7_isRow_0.2.2.2.2.2.2.2.2.1 rfl rfl rfl rfl rfl vok_s rfl (r_dep (by decide) (e_X7_isSort hE q (q.1 27 a1.toNatClampNeg))) (fun r2 => ?_)
    refine r_if_eq (t := 24) gX7_isRow_0.2.2.2.2.2.2.2.2.2.1 rfl (fun h3 => ?_) (fun h3 => ?_)
    · refine r_iconst (v := (0 : Int32)) gX7_isRow_0.2.2.2.2.2.2.2.2.2.2.2.2.1 rfl ?_
      exact r_ireturn gX7_isRow_0.2.2.2.2.2.2.2.2.2.2.2.2.2.1 rfl rfl
    · refine r_iconst (v := (1 : Int32)) gX7_isRow_0.2.2.2.2.2.2.2.2.2.2.1 rfl ?_
      refine r_goto (t := 25) gX7_isRow_0.2.2.2.2.2.2.2.2.2.2.2.1 rfl ?_
      exact r_ireturn gX7_isRow_0.2.2.2.2.2.2.2.2.2.2.2.2.2.1 rfl rfl
def b_X3_isUnder_4 (q : SS) : Int32 → Int32 → Int32 → Option Int32 :=
  fx3 (fun (rec_4 : Int32 → Int32 → Int32 → Option Int32) (l1 : Int32) (l2 : Int32) (l3 : Int32) =>
  if (8 : Int32) ≤ l3 then
  (some (0 : Int32))
  else
  ((f_X3_isKind q l2).bind fun r1 =>
  if r1 = 0 then
  (some (0 : Int32))
  else
  (if l2 = l1 then
  (some (1 : Int32))
  else
  (if vin l2 8 then
  nm (stV 1 l2.toNatClampNeg) fun v2 =>
  rec_4 l1 v2 (l3 + (1 : Int32))
  else none)))) FU
theorem rb_X3_isUnder_4 {E : EE} (hE : GE E) (q : SS) (l1 : Int32) (l2 : Int32) (l3 : Int32) : R E (κi E q) 1 28 4 [(1, .int l1), (2, .int l2), (3, .int l3)] [] q (b_X3_isUnder_4 q l1 l2 l3) := by
  unfold b_X3_isUnder_4
  refine fx3_ok (P := fun l1 l2 l3 o => R E (κi E q) 1 28 4 [(1, .int l1), (2, .int l2), (3, .int l3)] [] q o) (fun _ _ _ => r_no) (fun rec_4 hrec_4 l1 l2 l3 => ?_) _ _ _ _
  refine r_iload_n (x := l3) gX3_isUnder_0.2.2.2.2.1 rfl ?_
  refine r_bipush (v := (8 : Int32)) gX3_isUnder_0.2.2.2.2.2.1 rfl ?_
  refine r_icmp_ge (t := 36) gX3_isUnder_0.2.2.2.2.2.2.1 rfl (fun h5 => ?_) (fun h5 => ?_)
  · refine r_iconst (v := (0 : Int32)) gX3_isUnder_27.2.2.2.2.2.1 rfl ?_
    exact r_ireturn gX3_isUnder_27.2.2.2.2.2.2.1 rfl rfl
  · refine r_iload_n (x := l2) gX3_isUnder_0.2.2.2.2.2.2.2.1 rfl ?_
    refine r_calli (k := 2) (idx := 18) (y := 27) (as := [.int l2]) (rest := []) (L0 := [(0, .int l2)]) gX3_isUnder_0.2.2.2.2.2.2.2.2.1 rfl rfl rfl rfl rfl vok_s rfl (r_dep (by decide) (e_X3_isKind hE q l2)) (fun r1 => ?_)
    refine r_if_eq (t := 36) gX3_isUnder_0.2.2.2.2.2.2.2.2.2.1 rfl (fun h4 => ?_) (fun h4 => ?_)
    · refine r_iconst (v := (0 : Int32)) gX3_isUnder_27.2.2.2.2.2.1 rfl ?_
      exact r_ireturn gX3_isUnder_27.2.2.2.2.2.2.1 rfl rfl
    · refine r_iload_n (x := l2) gX3_isUnder_0.2.2.2.2.2.2.2.2.2.2.1 rfl ?_
      refine r_iload_n (x := l1) gX3_isUnder_0.2.2.2.2.2.2.2.2.2.2.2.1 rfl ?_
      refine r_icmp_ne (t := 24) gX3_isUnder_0.2.2.2.2.2.2.2.2.2.2.2.2.1 rfl (fun h3 => ?_) (fun h3 => ?_)
      · refine r_iconst (v := (1 : Int32)) gX3_isUnder_0.2.2.2.2.2.2.2.2.2.2.2.2.2.1 rfl ?_
        exact r_ireturn gX3_isUnder_0.2.2.2.2.2.2.2.2.2.2.2.2.2.2.1 rfl rfl
      · refine r_gets (j := 1) gX3_isUnder_0.2.2.2.2.2.2.2.2.2.2.2.2.2.2.2.1 rfl ?_
        refine r_iload_n (x := l2) gX3_isUnder_27.1 rfl ?_
        refine r_stload (n := 8) gX3_isUnder_27.2.1 rfl rfl (by decide) ?_
        refine r_nmI fun v2 _ => ?_
        refine r_istore_n (L2 := [(1, .int l1), (2, .int v2), (3, .int l3)]) gX3_isUnder_27.2.2.1 rfl rfl ?_
        refine r_iinc (x := l3) (v := (l3 + (1 : Int32))) (L2 := [(1, .int l1), (2, .int v2), (3, .int (l3 + (1 : Int32)))]) gX3_isUnder_27.2.2.2.1 rfl rfl rfl rfl ?_
        refine r_goto (t := 4) gX3_isUnder_27.2.2.2.2.1 rfl ?_
        exact r_sub (L' := [(1, .int l1), (2, .int v2), (3, .int (l3 + (1 : Int32)))]) (sub_c rfl (sub_c rfl (sub_c rfl sub_n))) (hrec_4 l1 v2 (l3 + (1 : Int32)))
def f_X3_isUnder (q : SS) (a0 : Int32) (a1 : Int32) : Option Int32 :=
  b_X3_isUnder_4 q a1 a0 (0 : Int32)
theorem e_X3_isUnder {E : EE} (hE : GE E) (q : SS) (a0 : Int32) (a1 : Int32) : R E (κi E q) 1 28 0 [(0, .int a0), (1, .int a1)] [] q (f_X3_isUnder q a0 a1) := by
  unfold f_X3_isUnder
  refine r_iload_n (x := a0) gX3_isUnder_0.1 rfl ?_
  refine r_istore_n (L2 := [(0, .int a0), (1, .int a1), (2, .int a0)]) gX3_isUnder_0.2.1 rfl rfl ?_
  refine r_iconst (v := (0 : Int32)) gX3_isUnder_0.2.2.1 rfl ?_
  refine r_istore_n (L2 := [(0, .int a0), (1, .int a1), (2, .int a0), (3, .int (0 : Int32))]) gX3_isUnder_0.2.2.2.1 rfl rfl ?_
  exact r_sub (L' := [(1, .int a1), (2, .int a0), (3, .int (0 : Int32))]) (sub_c rfl (sub_c rfl (sub_c rfl sub_n))) (rb_X3_isUnder_4 hE q a1 a0 (0 : Int32))
def f_X7_bodyOn (q : SS) (a1 : Int32) : Option Int32 :=
  (f_X7_isShelf q a1).bind fun r1 =>
  if r1 = 0 then
  (some (-1 : Int32))
  else
  (if vin a1 6 then
  if (q.1 27 a1.toNatClampNeg) = (-1 : Int32) then
  (if vin a1 6 then
  some (q.1 29 a1.toNatClampNeg)
  else none)
  else
  (some (-1 : Int32))
  else none)
theorem e_X7_bodyOn {E : EE} (hE : GE E) (q : SS) (a1 : Int32) : R E (κi E q) 1 83 0 [(0, .ref 26), (1, .int a1)] [] q (f_X7_bodyOn q a1) := by
  unfold f_X7_bodyOn
  refine r_aload_n (x := 26) gX7_bodyOn_0.1 rfl ?_
  refine r_iload_n (x := a1) gX7_bodyOn_0.2.1 rfl ?_
  refine r_calli (k := 0) (idx := 26) (y := 79) (as := [.ref 26, .int a1]) (rest := []) (L0 := [(0, .ref 26), (1, .int a1)]) gX7_bodyOn_0.2.2.1 rfl rfl rfl rfl rfl (vok_v (ob_26 hE) rfl) rfl (r_dep (by decide) (e_X7_isShelf hE q a1)) (fun r1 => ?_)
  refine r_if_eq (t := 27) gX7_bodyOn_0.2.2.2.1 rfl (fun h3 => ?_) (fun h3 => ?_)
  · refine r_iconst (v := (-1 : Int32)) gX7_bodyOn_0.2.2.2.2.2.2.2.2.2.2.2.2.2.2.2.1 rfl ?_
    exact r_ireturn gX7_bodyOn_28.1 rfl rfl
  · refine r_aload_n (x := 26) gX7_bodyOn_0.2.2.2.2.1 rfl ?_
    refine r_getA gX7_bodyOn_0.2.2.2.2.2.1 (fa_7_11_26 hE) ?_
    refine r_iload_n (x := a1) gX7_bodyOn_0.2.2.2.2.2.2.1 rfl ?_
    refine r_iaload gX7_bodyOn_0.2.2.2.2.2.2.2.1 (ar_27 hE) ?_
    refine r_iconst (v := (-1 : Int32)) gX7_bodyOn_0.2.2.2.2.2.2.2.2.1 rfl ?_
    refine r_icmp_ne (t := 27) gX7_bodyOn_0.2.2.2.2.2.2.2.2.2.1 rfl (fun h2 => ?_) (fun h2 => ?_)
    · refine r_aload_n (x := 26) gX7_bodyOn_0.2.2.2.2.2.2.2.2.2.2.1 rfl ?_
      refine r_getA gX7_bodyOn_0.2.2.2.2.2.2.2.2.2.2.2.1 (fa_7_18_26 hE) ?_
      refine r_iload_n (x := a1) gX7_bodyOn_0.2.2.2.2.2.2.2.2.2.2.2.2.1 rfl ?_
      refine r_iaload gX7_bodyOn_0.2.2.2.2.2.2.2.2.2.2.2.2.2.1 (ar_29 hE) ?_
      refine r_goto (t := 28) gX7_bodyOn_0.2.2.2.2.2.2.2.2.2.2.2.2.2.2.1 rfl ?_
      exact r_ireturn gX7_bodyOn_28.1 rfl rfl
    · refine r_iconst (v := (-1 : Int32)) gX7_bodyOn_0.2.2.2.2.2.2.2.2.2.2.2.2.2.2.2.1 rfl ?_
      exact r_ireturn gX7_bodyOn_28.1 rfl rfl
def f_X3_isBody (q : SS) (a1 : Int32) : Option Int32 :=
  if a1 < 0 then
  (some (0 : Int32))
  else
  (if (q.1 57 2) ≤ a1 then
  (some (0 : Int32))
  else
  (some (1 : Int32)))
theorem e_X3_isBody {E : EE} (hE : GE E) (q : SS) (a1 : Int32) : R E (κi E q) 0 29 0 [(0, .ref 57), (1, .int a1)] [] q (f_X3_isBody q a1) := by
  unfold f_X3_isBody
  refine r_iload_n (x := a1) gX3_isBody_0.1 rfl ?_
  refine r_if_lt (t := 16) gX3_isBody_0.2.1 rfl (fun h2 => ?_) (fun h2 => ?_)
  · refine r_iconst (v := (0 : Int32)) gX3_isBody_0.2.2.2.2.2.2.2.2.1 rfl ?_
    exact r_ireturn gX3_isBody_0.2.2.2.2.2.2.2.2.2.1 rfl rfl
  · refine r_iload_n (x := a1) gX3_isBody_0.2.2.1 rfl ?_
    refine r_aload_n (x := 57) gX3_isBody_0.2.2.2.1 rfl ?_
    refine r_getI gX3_isBody_0.2.2.2.2.1 (ff_3_25_57 hE) (by decide) ?_
    refine r_icmp_ge (t := 16) gX3_isBody_0.2.2.2.2.2.1 rfl (fun h1 => ?_) (fun h1 => ?_)
    · refine r_iconst (v := (0 : Int32)) gX3_isBody_0.2.2.2.2.2.2.2.2.1 rfl ?_
      exact r_ireturn gX3_isBody_0.2.2.2.2.2.2.2.2.2.1 rfl rfl
    · refine r_iconst (v := (1 : Int32)) gX3_isBody_0.2.2.2.2.2.2.1 rfl ?_
      refine r_goto (t := 17) gX3_isBody_0.2.2.2.2.2.2.2.1 rfl ?_
      exact r_ireturn gX3_isBody_0.2.2.2.2.2.2.2.2.2.1 rfl rfl
def f_X3_kindOf (q : SS) (a1 : Int32) : Option Int32 :=
  (f_X3_isBody q a1).bind fun r1 =>
  if r1 = 0 then
  (some (-1 : Int32))
  else
  (if vin a1 50 then
  some (q.1 58 a1.toNatClampNeg)
  else none)
theorem e_X3_kindOf {E : EE} (hE : GE E) (q : SS) (a1 : Int32) : R E (κi E q) 1 30 0 [(0, .ref 57), (1, .int a1)] [] q (f_X3_kindOf q a1) := by
  unfold f_X3_kindOf
  refine r_aload_n (x := 57) gX3_kindOf_0.1 rfl ?_
  refine r_iload_n (x := a1) gX3_kindOf_0.2.1 rfl ?_
  refine r_calli (k := 0) (idx := 29) (y := 29) (as := [.ref 57, .int a1]) (rest := []) (L0 := [(0, .ref 57), (1, .int a1)]) gX3_kindOf_0.2.2.1 rfl rfl rfl rfl rfl (vok_v (ob_57 hE) rfl) rfl (r_dep (by decide) (e_X3_isBody hE q a1)) (fun r1 => ?_)
  refine r_if_eq (t := 17) gX3_kindOf_0.2.2.2.1 rfl (fun h2 => ?_) (fun h2 => ?_)
  · refine r_iconst (v := (-1 : Int32)) gX3_kindOf_0.2.2.2.2.2.2.2.2.2.1 rfl ?_
    exact r_ireturn gX3_kindOf_0.2.2.2.2.2.2.2.2.2.2.1 rfl rfl
  · refine r_aload_n (x := 57) gX3_kindOf_0.2.2.2.2.1 rfl ?_
    refine r_getA gX3_kindOf_0.2.2.2.2.2.1 (fa_3_11_57 hE) ?_
    refine r_iload_n (x := a1) gX3_kindOf_0.2.2.2.2.2.2.1 rfl ?_
    refine r_iaload gX3_kindOf_0.2.2.2.2.2.2.2.1 (ar_58 hE) ?_
    refine r_goto (t := 18) gX3_kindOf_0.2.2.2.2.2.2.2.2.1 rfl ?_
    exact r_ireturn gX3_kindOf_0.2.2.2.2.2.2.2.2.2.2.1 rfl rfl
def b_X11_taken_64 (q : SS) (l2 : Int32) (s0 : Int32) : Option Int32 :=
  (f_X3_isUnder q s0 l2).bind fun r7 =>
  if r7 = 0 then
  (some (-12 : Int32))
  else
  (some s0)
theorem rb_X11_taken_64 {E : EE} (hE : GE E) (q : SS) (l2 : Int32) (s0 : Int32) : R E (κi E q) 2 186 64 [(2, .int l2)] [.int s0] q (b_X11_taken_64 q l2 s0) := by
  unfold b_X11_taken_64
  refine r_istore_n (L2 := [(2, .int l2), (3, .int s0)]) gX11_taken_33.2.2.2.2.2.2.2.2.2.2.2.2.2.2.2.1 rfl rfl ?_
  refine r_iload_n (x := s0) gX11_taken_65.1 rfl ?_
  refine r_iload_n (x := l2) gX11_taken_65.2.1 rfl ?_
  refine r_calli (k := 2) (idx := 390) (y := 28) (as := [.int s0, .int l2]) (rest := []) (L0 := [(0, .int s0), (1, .int l2)]) gX11_taken_65.2.2.1 rfl rfl rfl rfl rfl vok_s rfl (r_dep (by decide) (e_X3_isUnder hE q s0 l2)) (fun r7 => ?_)
  refine r_if_eq (t := 77) gX11_taken_65.2.2.2.1 rfl (fun h8 => ?_) (fun h8 => ?_)
  · refine r_bipush (v := (-12 : Int32)) gX11_taken_65.2.2.2.2.2.2.1 rfl ?_
    exact r_ireturn gX11_taken_65.2.2.2.2.2.2.2.1 rfl rfl
  · refine r_iload_n (x := s0) gX11_taken_65.2.2.2.2.1 rfl ?_
    refine r_goto (t := 79) gX11_taken_65.2.2.2.2.2.1 rfl ?_
    exact r_ireturn gX11_taken_65.2.2.2.2.2.2.2.1 rfl rfl
def f_X11_taken (q : SS) (a1 : Int32) (a2 : Int32) : Option Int32 :=
  (f_X7_isShelf q a1).bind fun r1 =>
  if r1 = 0 then
  (some (-1 : Int32))
  else
  ((f_X3_isKind q a2).bind fun r2 =>
  if r2 = 0 then
  (some (-1 : Int32))
  else
  ((f_X7_isEmpty q a1).bind fun r3 =>
  if r3 = 0 then
  ((f_X7_isRow q a1).bind fun r4 =>
  if r4 = 0 then
  ((f_X7_bodyOn q a1).bind fun r5 =>
  (f_X3_kindOf q r5).bind fun r6 =>
  b_X11_taken_64 q a2 r6)
  else
  (b_X11_taken_64 q a2 (-1 : Int32)))
  else
  (some (-11 : Int32))))
theorem e_X11_taken {E : EE} (hE : GE E) (q : SS) (a1 : Int32) (a2 : Int32) : R E (κi E q) 2 186 0 [(0, .ref 0), (1, .int a1), (2, .int a2)] [] q (f_X11_taken q a1 a2) := by
  unfold f_X11_taken
  refine r_aload_n (x := 0) gX11_taken_0.1 rfl ?_
  refine r_getA gX11_taken_0.2.1 (fa_11_42_0 hE) ?_
  refine r_iload_n (x := a1) gX11_taken_0.2.2.1 rfl ?_
  refine r_calli (k := 0) (idx := 106) (y := 79) (as := [.ref 26, .int a1]) (rest := []) (L0 := [(0, .ref 26), (1, .int a1)]) gX11_taken_0.2.2.2.1 rfl rfl rfl rfl rfl (vok_v (ob_26 hE) rfl) rfl (r_dep (by decide) (e_X7_isShelf hE q a1)) (fun r1 => ?_)
  refine r_if_eq (t := 18) gX11_taken_0.2.2.2.2.1 rfl (fun h12 => ?_) (fun h12 => ?_)
  · refine r_iconst (v := (-1 : Int32)) gX11_taken_0.2.2.2.2.2.2.2.2.1 rfl ?_
    exact r_ireturn gX11_taken_0.2.2.2.2.2.2.2.2.2.1 rfl rfl
  · refine r_iload_n (x := a2) gX11_taken_0.2.2.2.2.2.1 rfl ?_
    refine r_calli (k := 2) (idx := 336) (y := 27) (as := [.int a2]) (rest := []) (L0 := [(0, .int a2)]) gX11_taken_0.2.2.2.2.2.2.1 rfl rfl rfl rfl rfl vok_s rfl (r_dep (by decide) (e_X3_isKind hE q a2)) (fun r2 => ?_)
    refine r_if_ne (t := 20) gX11_taken_0.2.2.2.2.2.2.2.1 rfl (fun h11 => ?_) (fun h11 => ?_)
    · refine r_iconst (v := (-1 : Int32)) gX11_taken_0.2.2.2.2.2.2.2.2.1 rfl ?_
      exact r_ireturn gX11_taken_0.2.2.2.2.2.2.2.2.2.1 rfl rfl
    · refine r_aload_n (x := 0) gX11_taken_0.2.2.2.2.2.2.2.2.2.2.1 rfl ?_
      refine r_getA gX11_taken_0.2.2.2.2.2.2.2.2.2.2.2.1 (fa_11_42_0 hE) ?_
      refine r_iload_n (x := a1) gX11_taken_0.2.2.2.2.2.2.2.2.2.2.2.2.1 rfl ?_
      refine r_calli (k := 0) (idx := 273) (y := 80) (as := [.ref 26, .int a1]) (rest := []) (L0 := [(0, .ref 26), (1, .int a1)]) gX11_taken_0.2.2.2.2.2.2.2.2.2.2.2.2.2.1 rfl rfl rfl rfl rfl (vok_v (ob_26 hE) rfl) rfl (r_dep (by decide) (e_X7_isEmpty hE q a1)) (fun r3 => ?_)
      refine r_if_eq (t := 34) gX11_taken_0.2.2.2.2.2.2.2.2.2.2.2.2.2.2.1 rfl (fun h10 => ?_) (fun h10 => ?_)
      · refine r_aload_n (x := 0) gX11_taken_33.2.1 rfl ?_
        refine r_getA gX11_taken_33.2.2.1 (fa_11_42_0 hE) ?_
        refine r_iload_n (x := a1) gX11_taken_33.2.2.2.1 rfl ?_
        refine r_calli (k := 0) (idx := 381) (y := 81) (as := [.ref 26, .int a1]) (rest := []) (L0 := [(0, .ref 26), (1, .int a1)]) gX11_taken_33.2.2.2.2.1 rfl rfl rfl rfl rfl (vok_v (ob_26 hE) rfl) rfl (r_dep (by decide) (e_X7_isRow hE q a1)) (fun r4 => ?_)
        refine r_if_eq (t := 49) gX11_taken_33.2.2.2.2.2.1 rfl (fun h9 => ?_) (fun h9 => ?_)
        · refine r_aload_n (x := 0) gX11_taken_33.2.2.2.2.2.2.2.2.1 rfl ?_
          refine r_getA gX11_taken_33.2.2.2.2.2.2.2.2.2.1 (fa_11_90_0 hE) ?_
          refine r_aload_n (x := 0) gX11_taken_33.2.2.2.2.2.2.2.2.2.2.1 rfl ?_
          refine r_getA gX11_taken_33.2.2.2.2.2.2.2.2.2.2.2.1 (fa_11_42_0 hE) ?_
          refine r_iload_n (x := a1) gX11_taken_33.2.2.2.2.2.2.2.2.2.2.2.2.1 rfl ?_
          refine r_calli (k := 0) (idx := 384) (y := 83) (as := [.ref 26, .int a1]) (rest := [.ref 57]) (L0 := [(0, .ref 26), (1, .int a1)]) gX11_taken_33.2.2.2.2.2.2.2.2.2.2.2.2.2.1 rfl rfl rfl rfl rfl (vok_v (ob_26 hE) rfl) rfl (r_dep (by decide) (e_X7_bodyOn hE q a1)) (fun r5 => ?_)
          refine r_calli (k := 0) (idx := 387) (y := 30) (as := [.ref 57, .int r5]) (rest := []) (L0 := [(0, .ref 57), (1, .int r5)]) gX11_taken_33.2.2.2.2.2.2.2.2.2.2.2.2.2.2.1 rfl rfl rfl rfl rfl (vok_v (ob_57 hE) rfl) rfl (r_dep (by decide) (e_X3_kindOf hE q r5)) (fun r6 => ?_)
          exact r_sub (L' := [(2, .int a2)]) (sub_c rfl sub_n) (rb_X11_taken_64 hE q a2 r6)
        · refine r_iconst (v := (-1 : Int32)) gX11_taken_33.2.2.2.2.2.2.1 rfl ?_
          refine r_goto (t := 64) gX11_taken_33.2.2.2.2.2.2.2.1 rfl ?_
          exact r_sub (L' := [(2, .int a2)]) (sub_c rfl sub_n) (rb_X11_taken_64 hE q a2 (-1 : Int32))
      · refine r_bipush (v := (-11 : Int32)) gX11_taken_0.2.2.2.2.2.2.2.2.2.2.2.2.2.2.2.1 rfl ?_
        exact r_ireturn gX11_taken_33.1 rfl rfl
def f_X12_in (q : SS) (a0 : Int32) (a1 : Int32) (a2 : Int32) : Option Int32 :=
  if a0 < a1 then
  (some (0 : Int32))
  else
  (if a2 < a0 then
  (some (0 : Int32))
  else
  (some (1 : Int32)))
theorem e_X12_in {E : EE} (hE : GE E) (q : SS) (a0 : Int32) (a1 : Int32) (a2 : Int32) : R E (κi E q) 0 189 0 [(0, .int a0), (1, .int a1), (2, .int a2)] [] q (f_X12_in q a0 a1 a2) := by
  unfold f_X12_in
  refine r_iload_n (x := a0) gX12_in_0.1 rfl ?_
  refine r_iload_n (x := a1) gX12_in_0.2.1 rfl ?_
  refine r_icmp_lt (t := 14) gX12_in_0.2.2.1 rfl (fun h2 => ?_) (fun h2 => ?_)
  · refine r_iconst (v := (0 : Int32)) gX12_in_0.2.2.2.2.2.2.2.2.1 rfl ?_
    exact r_ireturn gX12_in_0.2.2.2.2.2.2.2.2.2.1 rfl rfl
  · refine r_iload_n (x := a0) gX12_in_0.2.2.2.1 rfl ?_
    refine r_iload_n (x := a2) gX12_in_0.2.2.2.2.1 rfl ?_
    refine r_icmp_gt (t := 14) gX12_in_0.2.2.2.2.2.1 rfl (fun h1 => ?_) (fun h1 => ?_)
    · refine r_iconst (v := (0 : Int32)) gX12_in_0.2.2.2.2.2.2.2.2.1 rfl ?_
      exact r_ireturn gX12_in_0.2.2.2.2.2.2.2.2.2.1 rfl rfl
    · refine r_iconst (v := (1 : Int32)) gX12_in_0.2.2.2.2.2.2.1 rfl ?_
      refine r_goto (t := 15) gX12_in_0.2.2.2.2.2.2.2.1 rfl ?_
      exact r_ireturn gX12_in_0.2.2.2.2.2.2.2.2.2.1 rfl rfl
def f_X12_isShelf (q : SS) (a0 : Int32) : Option Int32 :=
  (f_X12_in q a0 (0 : Int32) (5 : Int32)).bind fun r1 =>
  if r1 = 0 ∨ r1 = 1 then some r1 else none
theorem e_X12_isShelf {E : EE} (hE : GE E) (q : SS) (a0 : Int32) : R E (κi E q) 1 288 0 [(0, .int a0)] [] q (f_X12_isShelf q a0) := by
  unfold f_X12_isShelf
  refine r_iload_n (x := a0) gX12_isShelf_0.1 rfl ?_
  refine r_iconst (v := (0 : Int32)) gX12_isShelf_0.2.1 rfl ?_
  refine r_iconst (v := (5 : Int32)) gX12_isShelf_0.2.2.1 rfl ?_
  refine r_calli (k := 2) (idx := 118) (y := 189) (as := [.int a0, .int (0 : Int32), .int (5 : Int32)]) (rest := []) (L0 := [(0, .int a0), (1, .int (0 : Int32)), (2, .int (5 : Int32))]) gX12_isShelf_0.2.2.2.1 rfl rfl rfl rfl rfl vok_s rfl (r_dep (by decide) (e_X12_in hE q a0 (0 : Int32) (5 : Int32))) (fun r1 => ?_)
  exact r_zreturn gX12_isShelf_0.2.2.2.2.1 rfl rfl
def b_X12_isUnder_56 (q : SS)  : Option Int32 :=
  some (1 : Int32)
theorem rb_X12_isUnder_56 {E : EE} (hE : GE E) (q : SS)  : R E (κi E q) 0 274 56 [] [] q (b_X12_isUnder_56 q) := by
  unfold b_X12_isUnder_56
  refine r_iconst (v := (1 : Int32)) gX12_isUnder_56.1 rfl ?_
  refine r_goto (t := 61) gX12_isUnder_56.2.1 rfl ?_
  exact r_ireturn gX12_isUnder_56.2.2.2.1 rfl rfl
def b_X12_isUnder_44 (q : SS) (l0 : Int32) (l1 : Int32) : Option Int32 :=
  if l1 = (6 : Int32) then
  (if l0 = (7 : Int32) then
  (b_X12_isUnder_56 q)
  else
  (some (0 : Int32)))
  else
  (some (0 : Int32))
theorem rb_X12_isUnder_44 {E : EE} (hE : GE E) (q : SS) (l0 : Int32) (l1 : Int32) : R E (κi E q) 0 274 44 [(0, .int l0), (1, .int l1)] [] q (b_X12_isUnder_44 q l0 l1) := by
  unfold b_X12_isUnder_44
  refine r_iload_n (x := l1) gX12_isUnder_26.2.2.2.2.2.2.2.2.2.2.1 rfl ?_
  refine r_bipush (v := (6 : Int32)) gX12_isUnder_26.2.2.2.2.2.2.2.2.2.2.2.1 rfl ?_
  refine r_icmp_ne (t := 60) gX12_isUnder_26.2.2.2.2.2.2.2.2.2.2.2.2.1 rfl (fun h2 => ?_) (fun h2 => ?_)
  · refine r_iload_n (x := l0) gX12_isUnder_26.2.2.2.2.2.2.2.2.2.2.2.2.2.1 rfl ?_
    refine r_bipush (v := (7 : Int32)) gX12_isUnder_26.2.2.2.2.2.2.2.2.2.2.2.2.2.2.1 rfl ?_
    refine r_icmp_ne (t := 60) gX12_isUnder_26.2.2.2.2.2.2.2.2.2.2.2.2.2.2.2.1 rfl (fun h1 => ?_) (fun h1 => ?_)
    · exact r_sub (L' := []) sub_n (rb_X12_isUnder_56 hE q)
    · refine r_iconst (v := (0 : Int32)) gX12_isUnder_56.2.2.1 rfl ?_
      exact r_ireturn gX12_isUnder_56.2.2.2.1 rfl rfl
  · refine r_iconst (v := (0 : Int32)) gX12_isUnder_56.2.2.1 rfl ?_
    exact r_ireturn gX12_isUnder_56.2.2.2.1 rfl rfl
def b_X12_isUnder_34 (q : SS) (l0 : Int32) (l1 : Int32) : Option Int32 :=
  if l1 = (3 : Int32) then
  (if l0 = (5 : Int32) then
  (b_X12_isUnder_56 q)
  else
  (b_X12_isUnder_44 q l0 l1))
  else
  (b_X12_isUnder_44 q l0 l1)
theorem rb_X12_isUnder_34 {E : EE} (hE : GE E) (q : SS) (l0 : Int32) (l1 : Int32) : R E (κi E q) 0 274 34 [(0, .int l0), (1, .int l1)] [] q (b_X12_isUnder_34 q l0 l1) := by
  unfold b_X12_isUnder_34
  refine r_iload_n (x := l1) gX12_isUnder_26.2.2.2.2.1 rfl ?_
  refine r_iconst (v := (3 : Int32)) gX12_isUnder_26.2.2.2.2.2.1 rfl ?_
  refine r_icmp_ne (t := 44) gX12_isUnder_26.2.2.2.2.2.2.1 rfl (fun h4 => ?_) (fun h4 => ?_)
  · refine r_iload_n (x := l0) gX12_isUnder_26.2.2.2.2.2.2.2.1 rfl ?_
    refine r_iconst (v := (5 : Int32)) gX12_isUnder_26.2.2.2.2.2.2.2.2.1 rfl ?_
    refine r_icmp_eq (t := 56) gX12_isUnder_26.2.2.2.2.2.2.2.2.2.1 rfl (fun h3 => ?_) (fun h3 => ?_)
    · exact r_sub (L' := []) sub_n (rb_X12_isUnder_56 hE q)
    · exact r_sub (L' := [(0, .int l0), (1, .int l1)]) (sub_c rfl (sub_c rfl sub_n)) (rb_X12_isUnder_44 hE q l0 l1)
  · exact r_sub (L' := [(0, .int l0), (1, .int l1)]) (sub_c rfl (sub_c rfl sub_n)) (rb_X12_isUnder_44 hE q l0 l1)
def b_X12_isUnder_19 (q : SS) (l0 : Int32) (l1 : Int32) : Option Int32 :=
  if l1 = (2 : Int32) then
  (if l0 = (3 : Int32) then
  (b_X12_isUnder_56 q)
  else
  (if l0 = (5 : Int32) then
  (b_X12_isUnder_56 q)
  else
  (b_X12_isUnder_34 q l0 l1)))
  else
  (b_X12_isUnder_34 q l0 l1)
theorem rb_X12_isUnder_19 {E : EE} (hE : GE E) (q : SS) (l0 : Int32) (l1 : Int32) : R E (κi E q) 0 274 19 [(0, .int l0), (1, .int l1)] [] q (b_X12_isUnder_19 q l0 l1) := by
  unfold b_X12_isUnder_19
  refine r_iload_n (x := l1) gX12_isUnder_0.2.2.2.2.2.2.2.2.2.2.2.1 rfl ?_
  refine r_iconst (v := (2 : Int32)) gX12_isUnder_0.2.2.2.2.2.2.2.2.2.2.2.2.1 rfl ?_
  refine r_icmp_ne (t := 34) gX12_isUnder_0.2.2.2.2.2.2.2.2.2.2.2.2.2.1 rfl (fun h7 => ?_) (fun h7 => ?_)
  · refine r_iload_n (x := l0) gX12_isUnder_0.2.2.2.2.2.2.2.2.2.2.2.2.2.2.1 rfl ?_
    refine r_iconst (v := (3 : Int32)) gX12_isUnder_0.2.2.2.2.2.2.2.2.2.2.2.2.2.2.2.1 rfl ?_
    refine r_icmp_eq (t := 56) gX12_isUnder_26.1 rfl (fun h6 => ?_) (fun h6 => ?_)
    · exact r_sub (L' := []) sub_n (rb_X12_isUnder_56 hE q)
    · refine r_iload_n (x := l0) gX12_isUnder_26.2.1 rfl ?_
      refine r_iconst (v := (5 : Int32)) gX12_isUnder_26.2.2.1 rfl ?_
      refine r_icmp_eq (t := 56) gX12_isUnder_26.2.2.2.1 rfl (fun h5 => ?_) (fun h5 => ?_)
      · exact r_sub (L' := []) sub_n (rb_X12_isUnder_56 hE q)
      · exact r_sub (L' := [(0, .int l0), (1, .int l1)]) (sub_c rfl (sub_c rfl sub_n)) (rb_X12_isUnder_34 hE q l0 l1)
  · exact r_sub (L' := [(0, .int l0), (1, .int l1)]) (sub_c rfl (sub_c rfl sub_n)) (rb_X12_isUnder_34 hE q l0 l1)
def f_X12_isUnder (q : SS) (a0 : Int32) (a1 : Int32) : Option Int32 :=
  if a1 = 0 then
  (b_X12_isUnder_56 q)
  else
  (if a0 = a1 then
  (b_X12_isUnder_56 q)
  else
  (if a1 = (1 : Int32) then
  (if a0 = (4 : Int32) then
  (b_X12_isUnder_56 q)
  else
  (b_X12_isUnder_19 q a0 a1))
  else
  (b_X12_isUnder_19 q a0 a1)))
theorem e_X12_isUnder {E : EE} (hE : GE E) (q : SS) (a0 : Int32) (a1 : Int32) : R E (κi E q) 0 274 0 [(0, .int a0), (1, .int a1)] [] q (f_X12_isUnder q a0 a1) := by
  unfold f_X12_isUnder
  refine r_iload_n (x := a1) gX12_isUnder_0.1 rfl ?_
  refine r_if_eq (t := 56) gX12_isUnder_0.2.1 rfl (fun h11 => ?_) (fun h11 => ?_)
  · exact r_sub (L' := []) sub_n (rb_X12_isUnder_56 hE q)
  · refine r_iload_n (x := a0) gX12_isUnder_0.2.2.1 rfl ?_
    refine r_iload_n (x := a1) gX12_isUnder_0.2.2.2.1 rfl ?_
    refine r_icmp_eq (t := 56) gX12_isUnder_0.2.2.2.2.1 rfl (fun h10 => ?_) (fun h10 => ?_)
    · exact r_sub (L' := []) sub_n (rb_X12_isUnder_56 hE q)
    · refine r_iload_n (x := a1) gX12_isUnder_0.2.2.2.2.2.1 rfl ?_
      refine r_iconst (v := (1 : Int32)) gX12_isUnder_0.2.2.2.2.2.2.1 rfl ?_
      refine r_icmp_ne (t := 19) gX12_isUnder_0.2.2.2.2.2.2.2.1 rfl (fun h9 => ?_) (fun h9 => ?_)
      · refine r_iload_n (x := a0) gX12_isUnder_0.2.2.2.2.2.2.2.2.1 rfl ?_
        refine r_iconst (v := (4 : Int32)) gX12_isUnder_0.2.2.2.2.2.2.2.2.2.1 rfl ?_
        refine r_icmp_eq (t := 56) gX12_isUnder_0.2.2.2.2.2.2.2.2.2.2.1 rfl (fun h8 => ?_) (fun h8 => ?_)
        · exact r_sub (L' := []) sub_n (rb_X12_isUnder_56 hE q)
        · exact r_sub (L' := [(0, .int a0), (1, .int a1)]) (sub_c rfl (sub_c rfl sub_n)) (rb_X12_isUnder_19 hE q a0 a1)
      · exact r_sub (L' := [(0, .int a0), (1, .int a1)]) (sub_c rfl (sub_c rfl sub_n)) (rb_X12_isUnder_19 hE q a0 a1)
def f_X12_taken (q : SS) (a1 : Int32) (a2 : Int32) : Option Int32 :=
  (f_X12_isShelf q a1).bind fun r1 =>
  if r1 = 0 then
  (some (-1 : Int32))
  else
  ((f_X12_in q a2 (0 : Int32) (7 : Int32)).bind fun r2 =>
  if r2 = 0 then
  (some (-1 : Int32))
  else
  (if vin a1 6 then
  if (q.1 89 a1.toNatClampNeg) = (-1 : Int32) then
  (some (-11 : Int32))
  else
  (if vin a1 6 then
  if (q.1 89 a1.toNatClampNeg) < 0 then
  (some (-12 : Int32))
  else
  (if vin a1 6 then
  if vin (q.1 89 a1.toNatClampNeg) 50 then
  (f_X12_isUnder q (q.1 87 (q.1 89 a1.toNatClampNeg).toNatClampNeg) a2).bind fun r3 =>
  if r3 = 0 then
  (some (-12 : Int32))
  else
  (if vin a1 6 then
  if vin (q.1 89 a1.toNatClampNeg) 50 then
  some (q.1 87 (q.1 89 a1.toNatClampNeg).toNatClampNeg)
  else none
  else none)
  else none
  else none)
  else none)
  else none))
theorem e_X12_taken {E : EE} (hE : GE E) (q : SS) (a1 : Int32) (a2 : Int32) : R E (κi E q) 2 295 0 [(0, .ref 60), (1, .int a1), (2, .int a2)] [] q (f_X12_taken q a1 a2) := by
  unfold f_X12_taken
  refine r_iload_n (x := a1) gX12_taken_0.1 rfl ?_
  refine r_calli (k := 2) (idx := 137) (y := 288) (as := [.int a1]) (rest := []) (L0 := [(0, .int a1)]) gX12_taken_0.2.1 rfl rfl rfl rfl rfl vok_s rfl (r_dep (by decide) (e_X12_isShelf hE q a1)) (fun r1 => ?_)
  refine r_if_eq (t := 17) gX12_taken_0.2.2.1 rfl (fun h8 => ?_) (fun h8 => ?_)
  · refine r_iconst (v := (-1 : Int32)) gX12_taken_0.2.2.2.2.2.2.2.2.1 rfl ?_
    exact r_ireturn gX12_taken_0.2.2.2.2.2.2.2.2.2.1 rfl rfl
  · refine r_iload_n (x := a2) gX12_taken_0.2.2.2.1 rfl ?_
    refine r_iconst (v := (0 : Int32)) gX12_taken_0.2.2.2.2.1 rfl ?_
    refine r_bipush (v := (7 : Int32)) gX12_taken_0.2.2.2.2.2.1 rfl ?_
    refine r_calli (k := 2) (idx := 118) (y := 189) (as := [.int a2, .int (0 : Int32), .int (7 : Int32)]) (rest := []) (L0 := [(0, .int a2), (1, .int (0 : Int32)), (2, .int (7 : Int32))]) gX12_taken_0.2.2.2.2.2.2.1 rfl rfl rfl rfl rfl vok_s rfl (r_dep (by decide) (e_X12_in hE q a2 (0 : Int32) (7 : Int32))) (fun r2 => ?_)
    refine r_if_ne (t := 19) gX12_taken_0.2.2.2.2.2.2.2.1 rfl (fun h7 => ?_) (fun h7 => ?_)
    · refine r_iconst (v := (-1 : Int32)) gX12_taken_0.2.2.2.2.2.2.2.2.1 rfl ?_
      exact r_ireturn gX12_taken_0.2.2.2.2.2.2.2.2.2.1 rfl rfl
    · refine r_aload_n (x := 60) gX12_taken_0.2.2.2.2.2.2.2.2.2.2.1 rfl ?_
      refine r_getA gX12_taken_0.2.2.2.2.2.2.2.2.2.2.2.1 (fa_12_98_60 hE) ?_
      refine r_iload_n (x := a1) gX12_taken_0.2.2.2.2.2.2.2.2.2.2.2.2.1 rfl ?_
      refine r_iaload gX12_taken_0.2.2.2.2.2.2.2.2.2.2.2.2.2.1 (ar_89 hE) ?_
      refine r_iconst (v := (-1 : Int32)) gX12_taken_0.2.2.2.2.2.2.2.2.2.2.2.2.2.2.1 rfl ?_
      refine r_icmp_ne (t := 32) gX12_taken_0.2.2.2.2.2.2.2.2.2.2.2.2.2.2.2.1 rfl (fun h6 => ?_) (fun h6 => ?_)
      · refine r_bipush (v := (-11 : Int32)) gX12_taken_29.1 rfl ?_
        exact r_ireturn gX12_taken_29.2.1 rfl rfl
      · refine r_aload_n (x := 60) gX12_taken_29.2.2.1 rfl ?_
        refine r_getA gX12_taken_29.2.2.2.1 (fa_12_98_60 hE) ?_
        refine r_iload_n (x := a1) gX12_taken_29.2.2.2.2.1 rfl ?_
        refine r_iaload gX12_taken_29.2.2.2.2.2.1 (ar_89 hE) ?_
        refine r_if_lt (t := 73) gX12_taken_29.2.2.2.2.2.2.1 rfl (fun h5 => ?_) (fun h5 => ?_)
        · refine r_bipush (v := (-12 : Int32)) gX12_taken_56.2.2.2.2.2.2.2.2.2.1 rfl ?_
          exact r_ireturn gX12_taken_56.2.2.2.2.2.2.2.2.2.2.1 rfl rfl
        · refine r_aload_n (x := 60) gX12_taken_29.2.2.2.2.2.2.2.1 rfl ?_
          refine r_getA gX12_taken_29.2.2.2.2.2.2.2.2.1 (fa_12_92_60 hE) ?_
          refine r_aload_n (x := 60) gX12_taken_29.2.2.2.2.2.2.2.2.2.1 rfl ?_
          refine r_getA gX12_taken_29.2.2.2.2.2.2.2.2.2.2.1 (fa_12_98_60 hE) ?_
          refine r_iload_n (x := a1) gX12_taken_29.2.2.2.2.2.2.2.2.2.2.2.1 rfl ?_
          refine r_iaload gX12_taken_29.2.2.2.2.2.2.2.2.2.2.2.2.1 (ar_89 hE) ?_
          refine r_iaload gX12_taken_29.2.2.2.2.2.2.2.2.2.2.2.2.2.1 (ar_87 hE) ?_
          refine r_iload_n (x := a2) gX12_taken_29.2.2.2.2.2.2.2.2.2.2.2.2.2.2.1 rfl ?_
          refine r_calli (k := 2) (idx := 378) (y := 274) (as := [.int (q.1 87 (q.1 89 a1.toNatClampNeg).toNatClampNeg), .int a2]) (rest := []) (L0 := [(0, .int (q.1 87 (q.1 89 a1.toNatClampNeg).toNatClampNeg)), (1, .int a2)]) gX12_taken_29.2.2.2.2.2.2.2.2.2.2.2.2.2.2.2.1 rfl rfl rfl rfl rfl vok_s rfl (r_dep (by decide) (e_X12_isUnder hE q (q.1 87 (q.1 89 a1.toNatClampNeg).toNatClampNeg) a2)) (fun r3 => ?_)
          refine r_if_eq (t := 73) gX12_taken_56.1 rfl (fun h4 => ?_) (fun h4 => ?_)
          · refine r_bipush (v := (-12 : Int32)) gX12_taken_56.2.2.2.2.2.2.2.2.2.1 rfl ?_
            exact r_ireturn gX12_taken_56.2.2.2.2.2.2.2.2.2.2.1 rfl rfl
          · refine r_aload_n (x := 60) gX12_taken_56.2.1 rfl ?_
            refine r_getA gX12_taken_56.2.2.1 (fa_12_92_60 hE) ?_
            refine r_aload_n (x := 60) gX12_taken_56.2.2.2.1 rfl ?_
            refine r_getA gX12_taken_56.2.2.2.2.1 (fa_12_98_60 hE) ?_
            refine r_iload_n (x := a1) gX12_taken_56.2.2.2.2.2.1 rfl ?_
            refine r_iaload gX12_taken_56.2.2.2.2.2.2.1 (ar_89 hE) ?_
            refine r_iaload gX12_taken_56.2.2.2.2.2.2.2.1 (ar_87 hE) ?_
            refine r_goto (t := 75) gX12_taken_56.2.2.2.2.2.2.2.2.1 rfl ?_
            exact r_ireturn gX12_taken_56.2.2.2.2.2.2.2.2.2.2.1 rfl rfl
def f_X7_refusalOfPair (q : SS) (a1 : Int32) (a2 : Int32) : Option Int32 :=
  (f_X7_isShelf q a1).bind fun r1 =>
  if r1 = 0 then
  (some (-1 : Int32))
  else
  ((f_X7_isShelf q a2).bind fun r2 =>
  if r2 = 0 then
  (some (-1 : Int32))
  else
  ((f_X7_isEmpty q a1).bind fun r3 =>
  if r3 = 0 then
  ((f_X7_isEmpty q a2).bind fun r4 =>
  if r4 = 0 then
  ((f_X7_isRow q a1).bind fun r5 =>
  if r5 = 0 then
  (some (-12 : Int32))
  else
  (if vin a1 6 then
  if vin a2 6 then
  if (q.1 27 a1.toNatClampNeg) = (q.1 27 a2.toNatClampNeg) then
  (some (0 : Int32))
  else
  (some (-12 : Int32))
  else none
  else none))
  else
  (some (-11 : Int32)))
  else
  (some (-11 : Int32))))
theorem e_X7_refusalOfPair {E : EE} (hE : GE E) (q : SS) (a1 : Int32) (a2 : Int32) : R E (κi E q) 2 87 0 [(0, .ref 26), (1, .int a1), (2, .int a2)] [] q (f_X7_refusalOfPair q a1 a2) := by
  unfold f_X7_refusalOfPair
  refine r_aload_n (x := 26) gX7_refusalOfPair_0.1 rfl ?_
  refine r_iload_n (x := a1) gX7_refusalOfPair_0.2.1 rfl ?_
  refine r_calli (k := 0) (idx := 26) (y := 79) (as := [.ref 26, .int a1]) (rest := []) (L0 := [(0, .ref 26), (1, .int a1)]) gX7_refusalOfPair_0.2.2.1 rfl rfl rfl rfl rfl (vok_v (ob_26 hE) rfl) rfl (r_dep (by decide) (e_X7_isShelf hE q a1)) (fun r1 => ?_)
  refine r_if_eq (t := 16) gX7_refusalOfPair_0.2.2.2.1 rfl (fun h11 => ?_) (fun h11 => ?_)
  · refine r_iconst (v := (-1 : Int32)) gX7_refusalOfPair_0.2.2.2.2.2.2.2.2.1 rfl ?_
    exact r_ireturn gX7_refusalOfPair_0.2.2.2.2.2.2.2.2.2.1 rfl rfl
  · refine r_aload_n (x := 26) gX7_refusalOfPair_0.2.2.2.2.1 rfl ?_
    refine r_iload_n (x := a2) gX7_refusalOfPair_0.2.2.2.2.2.1 rfl ?_
    refine r_calli (k := 0) (idx := 26) (y := 79) (as := [.ref 26, .int a2]) (rest := []) (L0 := [(0, .ref 26), (1, .int a2)]) gX7_refusalOfPair_0.2.2.2.2.2.2.1 rfl rfl rfl rfl rfl (vok_v (ob_26 hE) rfl) rfl (r_dep (by decide) (e_X7_isShelf hE q a2)) (fun r2 => ?_)
    refine r_if_ne (t := 18) gX7_refusalOfPair_0.2.2.2.2.2.2.2.1 rfl (fun h10 => ?_) (fun h10 => ?_)
    · refine r_iconst (v := (-1 : Int32)) gX7_refusalOfPair_0.2.2.2.2.2.2.2.2.1 rfl ?_
      exact r_ireturn gX7_refusalOfPair_0.2.2.2.2.2.2.2.2.2.1 rfl rfl
    · refine r_aload_n (x := 26) gX7_refusalOfPair_0.2.2.2.2.2.2.2.2.2.2.1 rfl ?_
      refine r_iload_n (x := a1) gX7_refusalOfPair_0.2.2.2.2.2.2.2.2.2.2.2.1 rfl ?_
      refine r_calli (k := 0) (idx := 36) (y := 80) (as := [.ref 26, .int a1]) (rest := []) (L0 := [(0, .ref 26), (1, .int a1)]) gX7_refusalOfPair_0.2.2.2.2.2.2.2.2.2.2.2.2.1 rfl rfl rfl rfl rfl (vok_v (ob_26 hE) rfl) rfl (r_dep (by decide) (e_X7_isEmpty hE q a1)) (fun r3 => ?_)
      refine r_if_ne (t := 34) gX7_refusalOfPair_0.2.2.2.2.2.2.2.2.2.2.2.2.2.1 rfl (fun h9 => ?_) (fun h9 => ?_)
      · refine r_aload_n (x := 26) gX7_refusalOfPair_0.2.2.2.2.2.2.2.2.2.2.2.2.2.2.1 rfl ?_
        refine r_iload_n (x := a2) gX7_refusalOfPair_0.2.2.2.2.2.2.2.2.2.2.2.2.2.2.2.1 rfl ?_
        refine r_calli (k := 0) (idx := 36) (y := 80) (as := [.ref 26, .int a2]) (rest := []) (L0 := [(0, .ref 26), (1, .int a2)]) gX7_refusalOfPair_28.1 rfl rfl rfl rfl rfl (vok_v (ob_26 hE) rfl) rfl (r_dep (by decide) (e_X7_isEmpty hE q a2)) (fun r4 => ?_)
        refine r_if_eq (t := 37) gX7_refusalOfPair_28.2.1 rfl (fun h8 => ?_) (fun h8 => ?_)
        · refine r_aload_n (x := 26) gX7_refusalOfPair_28.2.2.2.2.1 rfl ?_
          refine r_iload_n (x := a1) gX7_refusalOfPair_28.2.2.2.2.2.1 rfl ?_
          refine r_calli (k := 0) (idx := 33) (y := 81) (as := [.ref 26, .int a1]) (rest := []) (L0 := [(0, .ref 26), (1, .int a1)]) gX7_refusalOfPair_28.2.2.2.2.2.2.1 rfl rfl rfl rfl rfl (vok_v (ob_26 hE) rfl) rfl (r_dep (by decide) (e_X7_isRow hE q a1)) (fun r5 => ?_)
          refine r_if_eq (t := 64) gX7_refusalOfPair_28.2.2.2.2.2.2.2.1 rfl (fun h7 => ?_) (fun h7 => ?_)
          · refine r_bipush (v := (-12 : Int32)) gX7_refusalOfPair_57.2.2.2.1 rfl ?_
            exact r_ireturn gX7_refusalOfPair_57.2.2.2.2.1 rfl rfl
          · refine r_aload_n (x := 26) gX7_refusalOfPair_28.2.2.2.2.2.2.2.2.1 rfl ?_
            refine r_getA gX7_refusalOfPair_28.2.2.2.2.2.2.2.2.2.1 (fa_7_11_26 hE) ?_
            refine r_iload_n (x := a1) gX7_refusalOfPair_28.2.2.2.2.2.2.2.2.2.2.1 rfl ?_
            refine r_iaload gX7_refusalOfPair_28.2.2.2.2.2.2.2.2.2.2.2.1 (ar_27 hE) ?_
            refine r_aload_n (x := 26) gX7_refusalOfPair_28.2.2.2.2.2.2.2.2.2.2.2.2.1 rfl ?_
            refine r_getA gX7_refusalOfPair_28.2.2.2.2.2.2.2.2.2.2.2.2.2.1 (fa_7_11_26 hE) ?_
            refine r_iload_n (x := a2) gX7_refusalOfPair_28.2.2.2.2.2.2.2.2.2.2.2.2.2.2.1 rfl ?_
            refine r_iaload gX7_refusalOfPair_28.2.2.2.2.2.2.2.2.2.2.2.2.2.2.2.1 (ar_27 hE) ?_
            refine r_icmp_ne (t := 64) gX7_refusalOfPair_57.1 rfl (fun h6 => ?_) (fun h6 => ?_)
            · refine r_iconst (v := (0 : Int32)) gX7_refusalOfPair_57.2.1 rfl ?_
              refine r_goto (t := 66) gX7_refusalOfPair_57.2.2.1 rfl ?_
              exact r_ireturn gX7_refusalOfPair_57.2.2.2.2.1 rfl rfl
            · refine r_bipush (v := (-12 : Int32)) gX7_refusalOfPair_57.2.2.2.1 rfl ?_
              exact r_ireturn gX7_refusalOfPair_57.2.2.2.2.1 rfl rfl
        · refine r_bipush (v := (-11 : Int32)) gX7_refusalOfPair_28.2.2.1 rfl ?_
          exact r_ireturn gX7_refusalOfPair_28.2.2.2.1 rfl rfl
      · refine r_bipush (v := (-11 : Int32)) gX7_refusalOfPair_28.2.2.1 rfl ?_
        exact r_ireturn gX7_refusalOfPair_28.2.2.2.1 rfl rfl
def f_X7_sizeOf (q : SS) (a1 : Int32) : Option Int32 :=
  (f_X7_isRow q a1).bind fun r1 =>
  if r1 = 0 then
  (some (0 : Int32))
  else
  (if vin a1 6 then
  some (q.1 28 a1.toNatClampNeg)
  else none)
theorem e_X7_sizeOf {E : EE} (hE : GE E) (q : SS) (a1 : Int32) : R E (κi E q) 2 82 0 [(0, .ref 26), (1, .int a1)] [] q (f_X7_sizeOf q a1) := by
  unfold f_X7_sizeOf
  refine r_aload_n (x := 26) gX7_sizeOf_0.1 rfl ?_
  refine r_iload_n (x := a1) gX7_sizeOf_0.2.1 rfl ?_
  refine r_calli (k := 0) (idx := 33) (y := 81) (as := [.ref 26, .int a1]) (rest := []) (L0 := [(0, .ref 26), (1, .int a1)]) gX7_sizeOf_0.2.2.1 rfl rfl rfl rfl rfl (vok_v (ob_26 hE) rfl) rfl (r_dep (by decide) (e_X7_isRow hE q a1)) (fun r1 => ?_)
  refine r_if_eq (t := 17) gX7_sizeOf_0.2.2.2.1 rfl (fun h2 => ?_) (fun h2 => ?_)
  · refine r_iconst (v := (0 : Int32)) gX7_sizeOf_0.2.2.2.2.2.2.2.2.2.1 rfl ?_
    exact r_ireturn gX7_sizeOf_0.2.2.2.2.2.2.2.2.2.2.1 rfl rfl
  · refine r_aload_n (x := 26) gX7_sizeOf_0.2.2.2.2.1 rfl ?_
    refine r_getA gX7_sizeOf_0.2.2.2.2.2.1 (fa_7_15_26 hE) ?_
    refine r_iload_n (x := a1) gX7_sizeOf_0.2.2.2.2.2.2.1 rfl ?_
    refine r_iaload gX7_sizeOf_0.2.2.2.2.2.2.2.1 (ar_28 hE) ?_
    refine r_goto (t := 18) gX7_sizeOf_0.2.2.2.2.2.2.2.2.1 rfl ?_
    exact r_ireturn gX7_sizeOf_0.2.2.2.2.2.2.2.2.2.2.1 rfl rfl
def f_X7_hasPlaces (q : SS) (a1 : Int32) (a2 : Int32) (a3 : Int32) : Option Int32 :=
  if a2 < 0 then
  (some (0 : Int32))
  else
  (if a3 < 0 then
  (some (0 : Int32))
  else
  ((f_X7_sizeOf q a1).bind fun r1 =>
  if 0 < (lg_cmp ((a2.toInt64) + (a3.toInt64)) (r1.toInt64)) then
  (some (0 : Int32))
  else
  (some (1 : Int32))))
theorem e_X7_hasPlaces {E : EE} (hE : GE E) (q : SS) (a1 : Int32) (a2 : Int32) (a3 : Int32) : R E (κi E q) 3 88 0 [(0, .ref 26), (1, .int a1), (2, .int a2), (3, .int a3)] [] q (f_X7_hasPlaces q a1 a2 a3) := by
  unfold f_X7_hasPlaces
  refine r_iload_n (x := a2) gX7_hasPlaces_0.1 rfl ?_
  refine r_if_lt (t := 27) gX7_hasPlaces_0.2.1 rfl (fun h4 => ?_) (fun h4 => ?_)
  · refine r_iconst (v := (0 : Int32)) gX7_hasPlaces_24.2.1 rfl ?_
    exact r_ireturn gX7_hasPlaces_24.2.2.1 rfl rfl
  · refine r_iload_n (x := a3) gX7_hasPlaces_0.2.2.1 rfl ?_
    refine r_if_lt (t := 27) gX7_hasPlaces_0.2.2.2.1 rfl (fun h3 => ?_) (fun h3 => ?_)
    · refine r_iconst (v := (0 : Int32)) gX7_hasPlaces_24.2.1 rfl ?_
      exact r_ireturn gX7_hasPlaces_24.2.2.1 rfl rfl
    · refine r_iload_n (x := a2) gX7_hasPlaces_0.2.2.2.2.1 rfl ?_
      refine r_i2l gX7_hasPlaces_0.2.2.2.2.2.1 ?_
      refine r_iload_n (x := a3) gX7_hasPlaces_0.2.2.2.2.2.2.1 rfl ?_
      refine r_i2l gX7_hasPlaces_0.2.2.2.2.2.2.2.1 ?_
      refine r_ladd gX7_hasPlaces_0.2.2.2.2.2.2.2.2.1 ?_
      refine r_aload_n (x := 26) gX7_hasPlaces_0.2.2.2.2.2.2.2.2.2.1 rfl ?_
      refine r_iload_n (x := a1) gX7_hasPlaces_0.2.2.2.2.2.2.2.2.2.2.1 rfl ?_
      refine r_calli (k := 0) (idx := 47) (y := 82) (as := [.ref 26, .int a1]) (rest := [.long ((a2.toInt64) + (a3.toInt64))]) (L0 := [(0, .ref 26), (1, .int a1)]) gX7_hasPlaces_0.2.2.2.2.2.2.2.2.2.2.2.1 rfl rfl rfl rfl rfl (vok_v (ob_26 hE) rfl) rfl (r_dep (by decide) (e_X7_sizeOf hE q a1)) (fun r1 => ?_)
      refine r_i2l gX7_hasPlaces_0.2.2.2.2.2.2.2.2.2.2.2.2.1 ?_
      refine r_lcmp gX7_hasPlaces_0.2.2.2.2.2.2.2.2.2.2.2.2.2.1 ?_
      refine r_if_gt (t := 27) gX7_hasPlaces_0.2.2.2.2.2.2.2.2.2.2.2.2.2.2.1 rfl (fun h2 => ?_) (fun h2 => ?_)
      · refine r_iconst (v := (0 : Int32)) gX7_hasPlaces_24.2.1 rfl ?_
        exact r_ireturn gX7_hasPlaces_24.2.2.1 rfl rfl
      · refine r_iconst (v := (1 : Int32)) gX7_hasPlaces_0.2.2.2.2.2.2.2.2.2.2.2.2.2.2.2.1 rfl ?_
        refine r_goto (t := 28) gX7_hasPlaces_24.1 rfl ?_
        exact r_ireturn gX7_hasPlaces_24.2.2.1 rfl rfl
def f_X7_copy (q : SS) (a1 : Int32) (a2 : Int32) (a3 : Int32) (a4 : Int32) (a5 : Int32) : Option SS :=
  (f_X7_hasPlaces q a1 a2 a5).bind fun r1 =>
  if r1 = 0 then
  (some q)
  else
  ((f_X7_hasPlaces q a3 a4 a5).bind fun r2 =>
  if r2 = 0 then
  (some q)
  else
  ((f_X7_isRow q a1).bind fun r3 =>
  if r3 = 0 then
  (some q)
  else
  ((f_X7_isRow q a3).bind fun r4 =>
  if r4 = 0 then
  (some q)
  else
  (if vin a1 6 then
  if vin a3 6 then
  if cpok 60 60 a2 a4 a5 then
  nm (sRL q (31 + a3.toNatClampNeg) (va_cpy (q.2 (31 + a1.toNatClampNeg)) (q.2 (31 + a3.toNatClampNeg)) a2.toNatClampNeg a4.toNatClampNeg a5.toNatClampNeg)) fun q7 =>
  some q7
  else none
  else none
  else none))))
theorem e_X7_copy {E : EE} (hE : GE E) (q : SS) (a1 : Int32) (a2 : Int32) (a3 : Int32) (a4 : Int32) (a5 : Int32) : R E (κV E) 4 95 0 [(0, .ref 26), (1, .int a1), (2, .int a2), (3, .int a3), (4, .int a4), (5, .int a5)] [] q (f_X7_copy q a1 a2 a3 a4 a5) := by
  unfold f_X7_copy
  refine r_aload_n (x := 26) gX7_copy_0.1 rfl ?_
  refine r_iload_n (x := a1) gX7_copy_0.2.1 rfl ?_
  refine r_iload_n (x := a2) gX7_copy_0.2.2.1 rfl ?_
  refine r_iload (x := a5) gX7_copy_0.2.2.2.1 rfl ?_
  refine r_calli (k := 0) (idx := 43) (y := 88) (as := [.ref 26, .int a1, .int a2, .int a5]) (rest := []) (L0 := [(0, .ref 26), (1, .int a1), (2, .int a2), (3, .int a5)]) gX7_copy_0.2.2.2.2.1 rfl rfl rfl rfl rfl (vok_v (ob_26 hE) rfl) rfl (r_dep (by decide) (e_X7_hasPlaces hE q a1 a2 a5)) (fun r1 => ?_)
  refine r_if_eq (t := 59) gX7_copy_0.2.2.2.2.2.1 rfl (fun h11 => ?_) (fun h11 => ?_)
  · exact r_return gX7_copy_59.1 rfl rfl
  · refine r_aload_n (x := 26) gX7_copy_0.2.2.2.2.2.2.1 rfl ?_
    refine r_iload_n (x := a3) gX7_copy_0.2.2.2.2.2.2.2.1 rfl ?_
    refine r_iload (x := a4) gX7_copy_0.2.2.2.2.2.2.2.2.1 rfl ?_
    refine r_iload (x := a5) gX7_copy_0.2.2.2.2.2.2.2.2.2.1 rfl ?_
    refine r_calli (k := 0) (idx := 43) (y := 88) (as := [.ref 26, .int a3, .int a4, .int a5]) (rest := []) (L0 := [(0, .ref 26), (1, .int a3), (2, .int a4), (3, .int a5)]) gX7_copy_0.2.2.2.2.2.2.2.2.2.2.1 rfl rfl rfl rfl rfl (vok_v (ob_26 hE) rfl) rfl (r_dep (by decide) (e_X7_hasPlaces hE q a3 a4 a5)) (fun r2 => ?_)
    refine r_if_eq (t := 59) gX7_copy_0.2.2.2.2.2.2.2.2.2.2.2.1 rfl (fun h10 => ?_) (fun h10 => ?_)
    · exact r_return gX7_copy_59.1 rfl rfl
    · refine r_aload_n (x := 26) gX7_copy_0.2.2.2.2.2.2.2.2.2.2.2.2.1 rfl ?_
      refine r_iload_n (x := a1) gX7_copy_0.2.2.2.2.2.2.2.2.2.2.2.2.2.1 rfl ?_
      refine r_calli (k := 0) (idx := 33) (y := 81) (as := [.ref 26, .int a1]) (rest := []) (L0 := [(0, .ref 26), (1, .int a1)]) gX7_copy_0.2.2.2.2.2.2.2.2.2.2.2.2.2.2.1 rfl rfl rfl rfl rfl (vok_v (ob_26 hE) rfl) rfl (r_dep (by decide) (e_X7_isRow hE q a1)) (fun r3 => ?_)
      refine r_if_eq (t := 59) gX7_copy_0.2.2.2.2.2.2.2.2.2.2.2.2.2.2.2.1 rfl (fun h9 => ?_) (fun h9 => ?_)
      · exact r_return gX7_copy_59.1 rfl rfl
      · refine r_aload_n (x := 26) gX7_copy_31.1 rfl ?_
        refine r_iload_n (x := a3) gX7_copy_31.2.1 rfl ?_
        refine r_calli (k := 0) (idx := 33) (y := 81) (as := [.ref 26, .int a3]) (rest := []) (L0 := [(0, .ref 26), (1, .int a3)]) gX7_copy_31.2.2.1 rfl rfl rfl rfl rfl (vok_v (ob_26 hE) rfl) rfl (r_dep (by decide) (e_X7_isRow hE q a3)) (fun r4 => ?_)
        refine r_if_eq (t := 59) gX7_copy_31.2.2.2.1 rfl (fun h8 => ?_) (fun h8 => ?_)
        · exact r_return gX7_copy_59.1 rfl rfl
        · refine r_aload_n (x := 26) gX7_copy_31.2.2.2.2.1 rfl ?_
          refine r_getA gX7_copy_31.2.2.2.2.2.1 (fa_7_23_26 hE) ?_
          refine r_iload_n (x := a1) gX7_copy_31.2.2.2.2.2.2.1 rfl ?_
          refine r_aaload gX7_copy_31.2.2.2.2.2.2.2.1 (ar_30 hE) (by decide) (rv_30 hE) (fun h5 => ?_)
          refine r_iload_n (x := a2) gX7_copy_31.2.2.2.2.2.2.2.2.1 rfl ?_
          refine r_aload_n (x := 26) gX7_copy_31.2.2.2.2.2.2.2.2.2.1 rfl ?_
          refine r_getA gX7_copy_31.2.2.2.2.2.2.2.2.2.2.1 (fa_7_23_26 hE) ?_
          refine r_iload_n (x := a3) gX7_copy_31.2.2.2.2.2.2.2.2.2.2.2.1 rfl ?_
          refine r_aaload gX7_copy_31.2.2.2.2.2.2.2.2.2.2.2.2.1 (ar_30 hE) (by decide) (rv_30 hE) (fun h6 => ?_)
          refine r_iload (x := a4) gX7_copy_31.2.2.2.2.2.2.2.2.2.2.2.2.2.1 rfl ?_
          refine r_iload (x := a5) gX7_copy_31.2.2.2.2.2.2.2.2.2.2.2.2.2.2.1 rfl ?_
          refine r_cpyL gX7_copy_31.2.2.2.2.2.2.2.2.2.2.2.2.2.2.2.1 ⟨rfl, rfl, rfl⟩ (aw_31 hE (vin_lt h5)) (aw_31 hE (vin_lt h6)) rfl ?_
          refine r_nmS fun q7 _ => ?_
          exact r_return gX7_copy_59.1 rfl rfl
def f_X11_shift (q : SS) (a1 : Int32) (a2 : Int32) (a3 : Int32) (a4 : Int32) (a5 : Int32) : Option (Int32 × SS) :=
  (f_X7_refusalOfPair q a1 a3).bind fun r1 =>
  if r1 = 0 then
  (if a5 < 0 then
  (some ((-13 : Int32), q))
  else
  ((f_X7_hasPlaces q a1 a2 a5).bind fun r2 =>
  if r2 = 0 then
  (some ((-13 : Int32), q))
  else
  ((f_X7_hasPlaces q a3 a4 a5).bind fun r3 =>
  if r3 = 0 then
  (some ((-13 : Int32), q))
  else
  ((f_X7_copy q a1 a2 a3 a4 a5).bind fun r4 =>
  some (a5, r4)))))
  else
  (some (r1, q))
theorem e_X11_shift {E : EE} (hE : GE E) (q : SS) (a1 : Int32) (a2 : Int32) (a3 : Int32) (a4 : Int32) (a5 : Int32) : R E (κI E) 5 185 0 [(0, .ref 0), (1, .int a1), (2, .int a2), (3, .int a3), (4, .int a4), (5, .int a5)] [] q (f_X11_shift q a1 a2 a3 a4 a5) := by
  unfold f_X11_shift
  refine r_aload_n (x := 0) gX11_shift_0.1 rfl ?_
  refine r_getA gX11_shift_0.2.1 (fa_11_42_0 hE) ?_
  refine r_iload_n (x := a1) gX11_shift_0.2.2.1 rfl ?_
  refine r_iload_n (x := a3) gX11_shift_0.2.2.2.1 rfl ?_
  refine r_calli (k := 0) (idx := 371) (y := 87) (as := [.ref 26, .int a1, .int a3]) (rest := []) (L0 := [(0, .ref 26), (1, .int a1), (2, .int a3)]) gX11_shift_0.2.2.2.2.1 rfl rfl rfl rfl rfl (vok_v (ob_26 hE) rfl) rfl (r_dep (by decide) (e_X7_refusalOfPair hE q a1 a3)) (fun r1 => ?_)
  refine r_istore (L2 := [(0, .ref 0), (1, .int a1), (2, .int a2), (3, .int a3), (4, .int a4), (5, .int a5), (6, .int r1)]) gX11_shift_0.2.2.2.2.2.1 rfl rfl ?_
  refine r_iload (x := r1) gX11_shift_0.2.2.2.2.2.2.1 rfl ?_
  refine r_if_eq (t := 19) gX11_shift_0.2.2.2.2.2.2.2.1 rfl (fun h8 => ?_) (fun h8 => ?_)
  · refine r_iload (x := a5) gX11_shift_0.2.2.2.2.2.2.2.2.2.2.1 rfl ?_
    refine r_if_lt (t := 53) gX11_shift_0.2.2.2.2.2.2.2.2.2.2.2.1 rfl (fun h7 => ?_) (fun h7 => ?_)
    · refine r_bipush (v := (-13 : Int32)) gX11_shift_30.2.2.2.2.2.2.2.2.2.2.1 rfl ?_
      exact r_ireturn gX11_shift_30.2.2.2.2.2.2.2.2.2.2.2.1 rfl rfl
    · refine r_aload_n (x := 0) gX11_shift_0.2.2.2.2.2.2.2.2.2.2.2.2.1 rfl ?_
      refine r_getA gX11_shift_0.2.2.2.2.2.2.2.2.2.2.2.2.2.1 (fa_11_42_0 hE) ?_
      refine r_iload_n (x := a1) gX11_shift_0.2.2.2.2.2.2.2.2.2.2.2.2.2.2.1 rfl ?_
      refine r_iload_n (x := a2) gX11_shift_0.2.2.2.2.2.2.2.2.2.2.2.2.2.2.2.1 rfl ?_
      refine r_iload (x := a5) gX11_shift_30.1 rfl ?_
      refine r_calli (k := 0) (idx := 374) (y := 88) (as := [.ref 26, .int a1, .int a2, .int a5]) (rest := []) (L0 := [(0, .ref 26), (1, .int a1), (2, .int a2), (3, .int a5)]) gX11_shift_30.2.1 rfl rfl rfl rfl rfl (vok_v (ob_26 hE) rfl) rfl (r_dep (by decide) (e_X7_hasPlaces hE q a1 a2 a5)) (fun r2 => ?_)
      refine r_if_eq (t := 53) gX11_shift_30.2.2.1 rfl (fun h6 => ?_) (fun h6 => ?_)
      · refine r_bipush (v := (-13 : Int32)) gX11_shift_30.2.2.2.2.2.2.2.2.2.2.1 rfl ?_
        exact r_ireturn gX11_shift_30.2.2.2.2.2.2.2.2.2.2.2.1 rfl rfl
      · refine r_aload_n (x := 0) gX11_shift_30.2.2.2.1 rfl ?_
        refine r_getA gX11_shift_30.2.2.2.2.1 (fa_11_42_0 hE) ?_
        refine r_iload_n (x := a3) gX11_shift_30.2.2.2.2.2.1 rfl ?_
        refine r_iload (x := a4) gX11_shift_30.2.2.2.2.2.2.1 rfl ?_
        refine r_iload (x := a5) gX11_shift_30.2.2.2.2.2.2.2.1 rfl ?_
        refine r_calli (k := 0) (idx := 374) (y := 88) (as := [.ref 26, .int a3, .int a4, .int a5]) (rest := []) (L0 := [(0, .ref 26), (1, .int a3), (2, .int a4), (3, .int a5)]) gX11_shift_30.2.2.2.2.2.2.2.2.1 rfl rfl rfl rfl rfl (vok_v (ob_26 hE) rfl) rfl (r_dep (by decide) (e_X7_hasPlaces hE q a3 a4 a5)) (fun r3 => ?_)
        refine r_if_ne (t := 56) gX11_shift_30.2.2.2.2.2.2.2.2.2.1 rfl (fun h5 => ?_) (fun h5 => ?_)
        · refine r_bipush (v := (-13 : Int32)) gX11_shift_30.2.2.2.2.2.2.2.2.2.2.1 rfl ?_
          exact r_ireturn gX11_shift_30.2.2.2.2.2.2.2.2.2.2.2.1 rfl rfl
        · refine r_aload_n (x := 0) gX11_shift_30.2.2.2.2.2.2.2.2.2.2.2.2.1 rfl ?_
          refine r_getA gX11_shift_30.2.2.2.2.2.2.2.2.2.2.2.2.2.1 (fa_11_42_0 hE) ?_
          refine r_iload_n (x := a1) gX11_shift_30.2.2.2.2.2.2.2.2.2.2.2.2.2.2.1 rfl ?_
          refine r_iload_n (x := a2) gX11_shift_30.2.2.2.2.2.2.2.2.2.2.2.2.2.2.2.1 rfl ?_
          refine r_iload_n (x := a3) gX11_shift_62.1 rfl ?_
          refine r_iload (x := a4) gX11_shift_62.2.1 rfl ?_
          refine r_iload (x := a5) gX11_shift_62.2.2.1 rfl ?_
          refine r_callV (k := 0) (idx := 377) (y := 95) (as := [.ref 26, .int a1, .int a2, .int a3, .int a4, .int a5]) (rest := []) (L0 := [(0, .ref 26), (1, .int a1), (2, .int a2), (3, .int a3), (4, .int a4), (5, .int a5)]) gX11_shift_62.2.2.2.1 rfl rfl rfl rfl rfl (vok_v (ob_26 hE) rfl) rfl (r_dep (by decide) (e_X7_copy hE q a1 a2 a3 a4 a5)) (fun r4 => ?_)
          refine r_iload (x := a5) gX11_shift_62.2.2.2.2.1 rfl ?_
          exact r_ireturn gX11_shift_62.2.2.2.2.2.1 rfl rfl
  · refine r_iload (x := r1) gX11_shift_0.2.2.2.2.2.2.2.2.1 rfl ?_
    exact r_ireturn gX11_shift_0.2.2.2.2.2.2.2.2.2.1 rfl rfl
def b_X12_shift_150 : SS → Int32 → Int32 → Int32 → Int32 → Option (Int32 × SS) :=
  fx5 (fun (rec_150 : SS → Int32 → Int32 → Int32 → Int32 → Option (Int32 × SS)) (q : SS) (l3 : Int32) (l4 : Int32) (l5 : Int32) (l6 : Int32) =>
  if l5 ≤ l6 then
  (some (l5, q))
  else
  (if vin l6 60 then
  if vin ((((60 : Int32) * l3) + l4) + l6) 360 then
  nm (sL q 91 ((((60 : Int32) * l3) + l4) + l6).toNatClampNeg (q.2 92 l6.toNatClampNeg)) fun q3 =>
  rec_150 q3 l3 l4 l5 (l6 + (1 : Int32))
  else none
  else none)) FU
theorem rb_X12_shift_150 {E : EE} (hE : GE E) (q : SS) (l3 : Int32) (l4 : Int32) (l5 : Int32) (l6 : Int32) : R E (κI E) 2 294 150 [(0, .ref 60), (3, .int l3), (4, .int l4), (5, .int l5), (6, .int l6)] [] q (b_X12_shift_150 q l3 l4 l5 l6) := by
  unfold b_X12_shift_150
  refine fx5_ok (P := fun q l3 l4 l5 l6 o => R E (κI E) 2 294 150 [(0, .ref 60), (3, .int l3), (4, .int l4), (5, .int l5), (6, .int l6)] [] q o) (fun _ _ _ _ _ => r_no) (fun rec_150 hrec_150 q l3 l4 l5 l6 => ?_) _ _ _ _ _ _
  refine r_iload (x := l6) gX12_shift_140.2.2.2.2.2.1 rfl ?_
  refine r_iload (x := l5) gX12_shift_140.2.2.2.2.2.2.1 rfl ?_
  refine r_icmp_ge (t := 185) gX12_shift_140.2.2.2.2.2.2.2.1 rfl (fun h4 => ?_) (fun h4 => ?_)
  · refine r_iload (x := l5) gX12_shift_170.2.2.2.2.2.2.2.2.1 rfl ?_
    exact r_ireturn gX12_shift_170.2.2.2.2.2.2.2.2.2.1 rfl rfl
  · refine r_aload_n (x := 60) gX12_shift_140.2.2.2.2.2.2.2.2.1 rfl ?_
    refine r_getA gX12_shift_140.2.2.2.2.2.2.2.2.2.1 (fa_12_104_60 hE) ?_
    refine r_bipush (v := (60 : Int32)) gX12_shift_140.2.2.2.2.2.2.2.2.2.2.1 rfl ?_
    refine r_iload_n (x := l3) gX12_shift_140.2.2.2.2.2.2.2.2.2.2.2.1 rfl ?_
    refine r_imul gX12_shift_140.2.2.2.2.2.2.2.2.2.2.2.2.1 ?_
    refine r_iload (x := l4) gX12_shift_140.2.2.2.2.2.2.2.2.2.2.2.2.2.1 rfl ?_
    refine r_iadd gX12_shift_140.2.2.2.2.2.2.2.2.2.2.2.2.2.2.1 ?_
    refine r_iload (x := l6) gX12_shift_140.2.2.2.2.2.2.2.2.2.2.2.2.2.2.2.1 rfl ?_
    refine r_iadd gX12_shift_170.1 ?_
    refine r_aload_n (x := 60) gX12_shift_170.2.1 rfl ?_
    refine r_getA gX12_shift_170.2.2.1 (fa_12_108_60 hE) ?_
    refine r_iload (x := l6) gX12_shift_170.2.2.2.1 rfl ?_
    refine r_laload gX12_shift_170.2.2.2.2.1 (ar_92 hE) ?_
    refine r_lastore gX12_shift_170.2.2.2.2.2.1 (ar_91 hE) ?_
    refine r_nmS fun q3 _ => ?_
    refine r_iinc (x := l6) (v := (l6 + (1 : Int32))) (L2 := [(0, .ref 60), (3, .int l3), (4, .int l4), (5, .int l5), (6, .int (l6 + (1 : Int32)))]) gX12_shift_170.2.2.2.2.2.2.1 rfl rfl rfl rfl ?_
    refine r_goto (t := 150) gX12_shift_170.2.2.2.2.2.2.2.1 rfl ?_
    exact r_sub (L' := [(0, .ref 60), (3, .int l3), (4, .int l4), (5, .int l5), (6, .int (l6 + (1 : Int32)))]) (sub_c rfl (sub_c rfl (sub_c rfl (sub_c rfl (sub_c rfl sub_n))))) (hrec_150 q3 l3 l4 l5 (l6 + (1 : Int32)))
def b_X12_shift_113 : SS → Int32 → Int32 → Int32 → Int32 → Int32 → Int32 → Option (Int32 × SS) :=
  fx7 (fun (rec_113 : SS → Int32 → Int32 → Int32 → Int32 → Int32 → Int32 → Option (Int32 × SS)) (q : SS) (l1 : Int32) (l2 : Int32) (l3 : Int32) (l4 : Int32) (l5 : Int32) (l6 : Int32) =>
  if l5 ≤ l6 then
  (b_X12_shift_150 q l3 l4 l5 (0 : Int32))
  else
  (if vin ((((60 : Int32) * l1) + l2) + l6) 360 then
  if vin l6 60 then
  nm (sL q 92 l6.toNatClampNeg (q.2 91 ((((60 : Int32) * l1) + l2) + l6).toNatClampNeg)) fun q5 =>
  rec_113 q5 l1 l2 l3 l4 l5 (l6 + (1 : Int32))
  else none
  else none)) FU
theorem rb_X12_shift_113 {E : EE} (hE : GE E) (q : SS) (l1 : Int32) (l2 : Int32) (l3 : Int32) (l4 : Int32) (l5 : Int32) (l6 : Int32) : R E (κI E) 2 294 113 [(0, .ref 60), (1, .int l1), (2, .int l2), (3, .int l3), (4, .int l4), (5, .int l5), (6, .int l6)] [] q (b_X12_shift_113 q l1 l2 l3 l4 l5 l6) := by
  unfold b_X12_shift_113
  refine fx7_ok (P := fun q l1 l2 l3 l4 l5 l6 o => R E (κI E) 2 294 113 [(0, .ref 60), (1, .int l1), (2, .int l2), (3, .int l3), (4, .int l4), (5, .int l5), (6, .int l6)] [] q o) (fun _ _ _ _ _ _ _ => r_no) (fun rec_113 hrec_113 q l1 l2 l3 l4 l5 l6 => ?_) _ _ _ _ _ _ _ _
  refine r_iload (x := l6) gX12_shift_113.1 rfl ?_
  refine r_iload (x := l5) gX12_shift_113.2.1 rfl ?_
  refine r_icmp_ge (t := 147) gX12_shift_113.2.2.1 rfl (fun h6 => ?_) (fun h6 => ?_)
  · refine r_iconst (v := (0 : Int32)) gX12_shift_140.2.2.2.1 rfl ?_
    refine r_istore (L2 := [(0, .ref 60), (1, .int l1), (2, .int l2), (3, .int l3), (4, .int l4), (5, .int l5), (6, .int (0 : Int32))]) gX12_shift_140.2.2.2.2.1 rfl rfl ?_
    exact r_sub (L' := [(0, .ref 60), (3, .int l3), (4, .int l4), (5, .int l5), (6, .int (0 : Int32))]) (sub_c rfl (sub_c rfl (sub_c rfl (sub_c rfl (sub_c rfl sub_n))))) (rb_X12_shift_150 hE q l3 l4 l5 (0 : Int32))
  · refine r_aload_n (x := 60) gX12_shift_113.2.2.2.1 rfl ?_
    refine r_getA gX12_shift_113.2.2.2.2.1 (fa_12_108_60 hE) ?_
    refine r_iload (x := l6) gX12_shift_113.2.2.2.2.2.1 rfl ?_
    refine r_aload_n (x := 60) gX12_shift_113.2.2.2.2.2.2.1 rfl ?_
    refine r_getA gX12_shift_113.2.2.2.2.2.2.2.1 (fa_12_104_60 hE) ?_
    refine r_bipush (v := (60 : Int32)) gX12_shift_113.2.2.2.2.2.2.2.2.1 rfl ?_
    refine r_iload_n (x := l1) gX12_shift_113.2.2.2.2.2.2.2.2.2.1 rfl ?_
    refine r_imul gX12_shift_113.2.2.2.2.2.2.2.2.2.2.1 ?_
    refine r_iload_n (x := l2) gX12_shift_113.2.2.2.2.2.2.2.2.2.2.2.1 rfl ?_
    refine r_iadd gX12_shift_113.2.2.2.2.2.2.2.2.2.2.2.2.1 ?_
    refine r_iload (x := l6) gX12_shift_113.2.2.2.2.2.2.2.2.2.2.2.2.2.1 rfl ?_
    refine r_iadd gX12_shift_113.2.2.2.2.2.2.2.2.2.2.2.2.2.2.1 ?_
    refine r_laload gX12_shift_113.2.2.2.2.2.2.2.2.2.2.2.2.2.2.2.1 (ar_91 hE) ?_
    refine r_lastore gX12_shift_140.1 (ar_92 hE) ?_
    refine r_nmS fun q5 _ => ?_
    refine r_iinc (x := l6) (v := (l6 + (1 : Int32))) (L2 := [(0, .ref 60), (1, .int l1), (2, .int l2), (3, .int l3), (4, .int l4), (5, .int l5), (6, .int (l6 + (1 : Int32)))]) gX12_shift_140.2.1 rfl rfl rfl rfl ?_
    refine r_goto (t := 113) gX12_shift_140.2.2.1 rfl ?_
    exact r_sub (L' := [(0, .ref 60), (1, .int l1), (2, .int l2), (3, .int l3), (4, .int l4), (5, .int l5), (6, .int (l6 + (1 : Int32)))]) (sub_c rfl (sub_c rfl (sub_c rfl (sub_c rfl (sub_c rfl (sub_c rfl (sub_c rfl sub_n))))))) (hrec_113 q5 l1 l2 l3 l4 l5 (l6 + (1 : Int32)))
def f_X12_shift (q : SS) (a1 : Int32) (a2 : Int32) (a3 : Int32) (a4 : Int32) (a5 : Int32) : Option (Int32 × SS) :=
  (f_X12_isShelf q a1).bind fun r1 =>
  if r1 = 0 then
  (some ((-1 : Int32), q))
  else
  ((f_X12_isShelf q a3).bind fun r2 =>
  if r2 = 0 then
  (some ((-1 : Int32), q))
  else
  (if vin a1 6 then
  if (q.1 89 a1.toNatClampNeg) = (-1 : Int32) then
  (some ((-11 : Int32), q))
  else
  (if vin a3 6 then
  if (q.1 89 a3.toNatClampNeg) = (-1 : Int32) then
  (some ((-11 : Int32), q))
  else
  (if vin a1 6 then
  if 0 ≤ (q.1 89 a1.toNatClampNeg) then
  (some ((-12 : Int32), q))
  else
  (if vin a1 6 then
  if vin a3 6 then
  if (q.1 89 a1.toNatClampNeg) = (q.1 89 a3.toNatClampNeg) then
  (if a5 < 0 then
  (some ((-13 : Int32), q))
  else
  (if a2 < 0 then
  (some ((-13 : Int32), q))
  else
  (if a4 < 0 then
  (some ((-13 : Int32), q))
  else
  (if vin a1 6 then
  if ((q.1 90 a1.toNatClampNeg) - a5) < a2 then
  (some ((-13 : Int32), q))
  else
  (if vin a3 6 then
  if a4 ≤ ((q.1 90 a3.toNatClampNeg) - a5) then
  (b_X12_shift_113 q a1 a2 a3 a4 a5 (0 : Int32))
  else
  (some ((-13 : Int32), q))
  else none)
  else none))))
  else
  (some ((-12 : Int32), q))
  else none
  else none)
  else none)
  else none)
  else none))
theorem e_X12_shift {E : EE} (hE : GE E) (q : SS) (a1 : Int32) (a2 : Int32) (a3 : Int32) (a4 : Int32) (a5 : Int32) : R E (κI E) 2 294 0 [(0, .ref 60), (1, .int a1), (2, .int a2), (3, .int a3), (4, .int a4), (5, .int a5)] [] q (f_X12_shift q a1 a2 a3 a4 a5) := by
  unfold f_X12_shift
  refine r_iload_n (x := a1) gX12_shift_0.1 rfl ?_
  refine r_calli (k := 2) (idx := 137) (y := 288) (as := [.int a1]) (rest := []) (L0 := [(0, .int a1)]) gX12_shift_0.2.1 rfl rfl rfl rfl rfl vok_s rfl (r_dep (by decide) (e_X12_isShelf hE q a1)) (fun r1 => ?_)
  refine r_if_eq (t := 14) gX12_shift_0.2.2.1 rfl (fun h17 => ?_) (fun h17 => ?_)
  · refine r_iconst (v := (-1 : Int32)) gX12_shift_0.2.2.2.2.2.2.1 rfl ?_
    exact r_ireturn gX12_shift_0.2.2.2.2.2.2.2.1 rfl rfl
  · refine r_iload_n (x := a3) gX12_shift_0.2.2.2.1 rfl ?_
    refine r_calli (k := 2) (idx := 137) (y := 288) (as := [.int a3]) (rest := []) (L0 := [(0, .int a3)]) gX12_shift_0.2.2.2.2.1 rfl rfl rfl rfl rfl vok_s rfl (r_dep (by decide) (e_X12_isShelf hE q a3)) (fun r2 => ?_)
    refine r_if_ne (t := 16) gX12_shift_0.2.2.2.2.2.1 rfl (fun h16 => ?_) (fun h16 => ?_)
    · refine r_iconst (v := (-1 : Int32)) gX12_shift_0.2.2.2.2.2.2.1 rfl ?_
      exact r_ireturn gX12_shift_0.2.2.2.2.2.2.2.1 rfl rfl
    · refine r_aload_n (x := 60) gX12_shift_0.2.2.2.2.2.2.2.2.1 rfl ?_
      refine r_getA gX12_shift_0.2.2.2.2.2.2.2.2.2.1 (fa_12_98_60 hE) ?_
      refine r_iload_n (x := a1) gX12_shift_0.2.2.2.2.2.2.2.2.2.2.1 rfl ?_
      refine r_iaload gX12_shift_0.2.2.2.2.2.2.2.2.2.2.2.1 (ar_89 hE) ?_
      refine r_iconst (v := (-1 : Int32)) gX12_shift_0.2.2.2.2.2.2.2.2.2.2.2.2.1 rfl ?_
      refine r_icmp_eq (t := 36) gX12_shift_0.2.2.2.2.2.2.2.2.2.2.2.2.2.1 rfl (fun h15 => ?_) (fun h15 => ?_)
      · refine r_bipush (v := (-11 : Int32)) gX12_shift_30.2.2.2.2.1 rfl ?_
        exact r_ireturn gX12_shift_30.2.2.2.2.2.1 rfl rfl
      · refine r_aload_n (x := 60) gX12_shift_0.2.2.2.2.2.2.2.2.2.2.2.2.2.2.1 rfl ?_
        refine r_getA gX12_shift_0.2.2.2.2.2.2.2.2.2.2.2.2.2.2.2.1 (fa_12_98_60 hE) ?_
        refine r_iload_n (x := a3) gX12_shift_30.1 rfl ?_
        refine r_iaload gX12_shift_30.2.1 (ar_89 hE) ?_
        refine r_iconst (v := (-1 : Int32)) gX12_shift_30.2.2.1 rfl ?_
        refine r_icmp_ne (t := 39) gX12_shift_30.2.2.2.1 rfl (fun h14 => ?_) (fun h14 => ?_)
        · refine r_bipush (v := (-11 : Int32)) gX12_shift_30.2.2.2.2.1 rfl ?_
          exact r_ireturn gX12_shift_30.2.2.2.2.2.1 rfl rfl
        · refine r_aload_n (x := 60) gX12_shift_30.2.2.2.2.2.2.1 rfl ?_
          refine r_getA gX12_shift_30.2.2.2.2.2.2.2.1 (fa_12_98_60 hE) ?_
          refine r_iload_n (x := a1) gX12_shift_30.2.2.2.2.2.2.2.2.1 rfl ?_
          refine r_iaload gX12_shift_30.2.2.2.2.2.2.2.2.2.1 (ar_89 hE) ?_
          refine r_if_ge (t := 63) gX12_shift_30.2.2.2.2.2.2.2.2.2.2.1 rfl (fun h13 => ?_) (fun h13 => ?_)
          · refine r_bipush (v := (-12 : Int32)) gX12_shift_55.2.2.2.2.1 rfl ?_
            exact r_ireturn gX12_shift_55.2.2.2.2.2.1 rfl rfl
          · refine r_aload_n (x := 60) gX12_shift_30.2.2.2.2.2.2.2.2.2.2.2.1 rfl ?_
            refine r_getA gX12_shift_30.2.2.2.2.2.2.2.2.2.2.2.2.1 (fa_12_98_60 hE) ?_
            refine r_iload_n (x := a1) gX12_shift_30.2.2.2.2.2.2.2.2.2.2.2.2.2.1 rfl ?_
            refine r_iaload gX12_shift_30.2.2.2.2.2.2.2.2.2.2.2.2.2.2.1 (ar_89 hE) ?_
            refine r_aload_n (x := 60) gX12_shift_30.2.2.2.2.2.2.2.2.2.2.2.2.2.2.2.1 rfl ?_
            refine r_getA gX12_shift_55.1 (fa_12_98_60 hE) ?_
            refine r_iload_n (x := a3) gX12_shift_55.2.1 rfl ?_
            refine r_iaload gX12_shift_55.2.2.1 (ar_89 hE) ?_
            refine r_icmp_eq (t := 66) gX12_shift_55.2.2.2.1 rfl (fun h12 => ?_) (fun h12 => ?_)
            · refine r_iload (x := a5) gX12_shift_55.2.2.2.2.2.2.1 rfl ?_
              refine r_if_lt (t := 107) gX12_shift_55.2.2.2.2.2.2.2.1 rfl (fun h11 => ?_) (fun h11 => ?_)
              · refine r_bipush (v := (-13 : Int32)) gX12_shift_86.2.2.2.2.2.2.2.2.2.2.2.2.1 rfl ?_
                exact r_ireturn gX12_shift_86.2.2.2.2.2.2.2.2.2.2.2.2.2.1 rfl rfl
              · refine r_iload_n (x := a2) gX12_shift_55.2.2.2.2.2.2.2.2.1 rfl ?_
                refine r_if_lt (t := 107) gX12_shift_55.2.2.2.2.2.2.2.2.2.1 rfl (fun h10 => ?_) (fun h10 => ?_)
                · refine r_bipush (v := (-13 : Int32)) gX12_shift_86.2.2.2.2.2.2.2.2.2.2.2.2.1 rfl ?_
                  exact r_ireturn gX12_shift_86.2.2.2.2.2.2.2.2.2.2.2.2.2.1 rfl rfl
                · refine r_iload (x := a4) gX12_shift_55.2.2.2.2.2.2.2.2.2.2.1 rfl ?_
                  refine r_if_lt (t := 107) gX12_shift_55.2.2.2.2.2.2.2.2.2.2.2.1 rfl (fun h9 => ?_) (fun h9 => ?_)
                  · refine r_bipush (v := (-13 : Int32)) gX12_shift_86.2.2.2.2.2.2.2.2.2.2.2.2.1 rfl ?_
                    exact r_ireturn gX12_shift_86.2.2.2.2.2.2.2.2.2.2.2.2.2.1 rfl rfl
                  · refine r_iload_n (x := a2) gX12_shift_55.2.2.2.2.2.2.2.2.2.2.2.2.1 rfl ?_
                    refine r_aload_n (x := 60) gX12_shift_55.2.2.2.2.2.2.2.2.2.2.2.2.2.1 rfl ?_
                    refine r_getA gX12_shift_55.2.2.2.2.2.2.2.2.2.2.2.2.2.2.1 (fa_12_101_60 hE) ?_
                    refine r_iload_n (x := a1) gX12_shift_55.2.2.2.2.2.2.2.2.2.2.2.2.2.2.2.1 rfl ?_
                    refine r_iaload gX12_shift_86.1 (ar_90 hE) ?_
                    refine r_iload (x := a5) gX12_shift_86.2.1 rfl ?_
                    refine r_isub gX12_shift_86.2.2.1 ?_
                    refine r_icmp_gt (t := 107) gX12_shift_86.2.2.2.1 rfl (fun h8 => ?_) (fun h8 => ?_)
                    · refine r_bipush (v := (-13 : Int32)) gX12_shift_86.2.2.2.2.2.2.2.2.2.2.2.2.1 rfl ?_
                      exact r_ireturn gX12_shift_86.2.2.2.2.2.2.2.2.2.2.2.2.2.1 rfl rfl
                    · refine r_iload (x := a4) gX12_shift_86.2.2.2.2.1 rfl ?_
                      refine r_aload_n (x := 60) gX12_shift_86.2.2.2.2.2.1 rfl ?_
                      refine r_getA gX12_shift_86.2.2.2.2.2.2.1 (fa_12_101_60 hE) ?_
                      refine r_iload_n (x := a3) gX12_shift_86.2.2.2.2.2.2.2.1 rfl ?_
                      refine r_iaload gX12_shift_86.2.2.2.2.2.2.2.2.1 (ar_90 hE) ?_
                      refine r_iload (x := a5) gX12_shift_86.2.2.2.2.2.2.2.2.2.1 rfl ?_
                      refine r_isub gX12_shift_86.2.2.2.2.2.2.2.2.2.2.1 ?_
                      refine r_icmp_le (t := 110) gX12_shift_86.2.2.2.2.2.2.2.2.2.2.2.1 rfl (fun h7 => ?_) (fun h7 => ?_)
                      · refine r_iconst (v := (0 : Int32)) gX12_shift_86.2.2.2.2.2.2.2.2.2.2.2.2.2.2.1 rfl ?_
                        refine r_istore (L2 := [(0, .ref 60), (1, .int a1), (2, .int a2), (3, .int a3), (4, .int a4), (5, .int a5), (6, .int (0 : Int32))]) gX12_shift_86.2.2.2.2.2.2.2.2.2.2.2.2.2.2.2.1 rfl rfl ?_
                        exact r_sub (L' := [(0, .ref 60), (1, .int a1), (2, .int a2), (3, .int a3), (4, .int a4), (5, .int a5), (6, .int (0 : Int32))]) (sub_c rfl (sub_c rfl (sub_c rfl (sub_c rfl (sub_c rfl (sub_c rfl (sub_c rfl sub_n))))))) (rb_X12_shift_113 hE q a1 a2 a3 a4 a5 (0 : Int32))
                      · refine r_bipush (v := (-13 : Int32)) gX12_shift_86.2.2.2.2.2.2.2.2.2.2.2.2.1 rfl ?_
                        exact r_ireturn gX12_shift_86.2.2.2.2.2.2.2.2.2.2.2.2.2.1 rfl rfl
            · refine r_bipush (v := (-12 : Int32)) gX12_shift_55.2.2.2.2.1 rfl ?_
              exact r_ireturn gX12_shift_55.2.2.2.2.2.1 rfl rfl
def f_X7_refusalOfRow (q : SS) (a1 : Int32) : Option Int32 :=
  (f_X7_isShelf q a1).bind fun r1 =>
  if r1 = 0 then
  (some (-1 : Int32))
  else
  ((f_X7_isEmpty q a1).bind fun r2 =>
  if r2 = 0 then
  ((f_X7_isRow q a1).bind fun r3 =>
  if r3 = 0 then
  (some (-12 : Int32))
  else
  (some (0 : Int32)))
  else
  (some (-11 : Int32)))
theorem e_X7_refusalOfRow {E : EE} (hE : GE E) (q : SS) (a1 : Int32) : R E (κi E q) 2 84 0 [(0, .ref 26), (1, .int a1)] [] q (f_X7_refusalOfRow q a1) := by
  unfold f_X7_refusalOfRow
  refine r_aload_n (x := 26) gX7_refusalOfRow_0.1 rfl ?_
  refine r_iload_n (x := a1) gX7_refusalOfRow_0.2.1 rfl ?_
  refine r_calli (k := 0) (idx := 26) (y := 79) (as := [.ref 26, .int a1]) (rest := []) (L0 := [(0, .ref 26), (1, .int a1)]) gX7_refusalOfRow_0.2.2.1 rfl rfl rfl rfl rfl (vok_v (ob_26 hE) rfl) rfl (r_dep (by decide) (e_X7_isShelf hE q a1)) (fun r1 => ?_)
  refine r_if_ne (t := 10) gX7_refusalOfRow_0.2.2.2.1 rfl (fun h6 => ?_) (fun h6 => ?_)
  · refine r_iconst (v := (-1 : Int32)) gX7_refusalOfRow_0.2.2.2.2.1 rfl ?_
    exact r_ireturn gX7_refusalOfRow_0.2.2.2.2.2.1 rfl rfl
  · refine r_aload_n (x := 26) gX7_refusalOfRow_0.2.2.2.2.2.2.1 rfl ?_
    refine r_iload_n (x := a1) gX7_refusalOfRow_0.2.2.2.2.2.2.2.1 rfl ?_
    refine r_calli (k := 0) (idx := 36) (y := 80) (as := [.ref 26, .int a1]) (rest := []) (L0 := [(0, .ref 26), (1, .int a1)]) gX7_refusalOfRow_0.2.2.2.2.2.2.2.2.1 rfl rfl rfl rfl rfl (vok_v (ob_26 hE) rfl) rfl (r_dep (by decide) (e_X7_isEmpty hE q a1)) (fun r2 => ?_)
    refine r_if_eq (t := 21) gX7_refusalOfRow_0.2.2.2.2.2.2.2.2.2.1 rfl (fun h5 => ?_) (fun h5 => ?_)
    · refine r_aload_n (x := 26) gX7_refusalOfRow_0.2.2.2.2.2.2.2.2.2.2.2.2.1 rfl ?_
      refine r_iload_n (x := a1) gX7_refusalOfRow_0.2.2.2.2.2.2.2.2.2.2.2.2.2.1 rfl ?_
      refine r_calli (k := 0) (idx := 33) (y := 81) (as := [.ref 26, .int a1]) (rest := []) (L0 := [(0, .ref 26), (1, .int a1)]) gX7_refusalOfRow_0.2.2.2.2.2.2.2.2.2.2.2.2.2.2.1 rfl rfl rfl rfl rfl (vok_v (ob_26 hE) rfl) rfl (r_dep (by decide) (e_X7_isRow hE q a1)) (fun r3 => ?_)
      refine r_if_eq (t := 33) gX7_refusalOfRow_0.2.2.2.2.2.2.2.2.2.2.2.2.2.2.2.1 rfl (fun h4 => ?_) (fun h4 => ?_)
      · refine r_bipush (v := (-12 : Int32)) gX7_refusalOfRow_29.2.2.1 rfl ?_
        exact r_ireturn gX7_refusalOfRow_29.2.2.2.1 rfl rfl
      · refine r_iconst (v := (0 : Int32)) gX7_refusalOfRow_29.1 rfl ?_
        refine r_goto (t := 35) gX7_refusalOfRow_29.2.1 rfl ?_
        exact r_ireturn gX7_refusalOfRow_29.2.2.2.1 rfl rfl
    · refine r_bipush (v := (-11 : Int32)) gX7_refusalOfRow_0.2.2.2.2.2.2.2.2.2.2.1 rfl ?_
      exact r_ireturn gX7_refusalOfRow_0.2.2.2.2.2.2.2.2.2.2.2.1 rfl rfl
def f_X7_refusalOfElement (q : SS) (a1 : Int32) (a2 : Int32) : Option Int32 :=
  (f_X7_refusalOfRow q a1).bind fun r1 =>
  if r1 = 0 then
  ((f_X7_hasPlaces q a1 a2 (1 : Int32)).bind fun r2 =>
  if r2 = 0 then
  (some (-13 : Int32))
  else
  (some r1))
  else
  (some r1)
theorem e_X7_refusalOfElement {E : EE} (hE : GE E) (q : SS) (a1 : Int32) (a2 : Int32) : R E (κi E q) 4 86 0 [(0, .ref 26), (1, .int a1), (2, .int a2)] [] q (f_X7_refusalOfElement q a1 a2) := by
  unfold f_X7_refusalOfElement
  refine r_aload_n (x := 26) gX7_refusalOfElement_0.1 rfl ?_
  refine r_iload_n (x := a1) gX7_refusalOfElement_0.2.1 rfl ?_
  refine r_calli (k := 0) (idx := 39) (y := 84) (as := [.ref 26, .int a1]) (rest := []) (L0 := [(0, .ref 26), (1, .int a1)]) gX7_refusalOfElement_0.2.2.1 rfl rfl rfl rfl rfl (vok_v (ob_26 hE) rfl) rfl (r_dep (by decide) (e_X7_refusalOfRow hE q a1)) (fun r1 => ?_)
  refine r_istore_n (L2 := [(0, .ref 26), (1, .int a1), (2, .int a2), (3, .int r1)]) gX7_refusalOfElement_0.2.2.2.1 rfl rfl ?_
  refine r_iload_n (x := r1) gX7_refusalOfElement_0.2.2.2.2.1 rfl ?_
  refine r_if_ne (t := 25) gX7_refusalOfElement_0.2.2.2.2.2.1 rfl (fun h4 => ?_) (fun h4 => ?_)
  · refine r_aload_n (x := 26) gX7_refusalOfElement_0.2.2.2.2.2.2.1 rfl ?_
    refine r_iload_n (x := a1) gX7_refusalOfElement_0.2.2.2.2.2.2.2.1 rfl ?_
    refine r_iload_n (x := a2) gX7_refusalOfElement_0.2.2.2.2.2.2.2.2.1 rfl ?_
    refine r_iconst (v := (1 : Int32)) gX7_refusalOfElement_0.2.2.2.2.2.2.2.2.2.1 rfl ?_
    refine r_calli (k := 0) (idx := 43) (y := 88) (as := [.ref 26, .int a1, .int a2, .int (1 : Int32)]) (rest := []) (L0 := [(0, .ref 26), (1, .int a1), (2, .int a2), (3, .int (1 : Int32))]) gX7_refusalOfElement_0.2.2.2.2.2.2.2.2.2.2.1 rfl rfl rfl rfl rfl (vok_v (ob_26 hE) rfl) rfl (r_dep (by decide) (e_X7_hasPlaces hE q a1 a2 (1 : Int32))) (fun r2 => ?_)
    refine r_if_ne (t := 25) gX7_refusalOfElement_0.2.2.2.2.2.2.2.2.2.2.2.1 rfl (fun h3 => ?_) (fun h3 => ?_)
    · refine r_bipush (v := (-13 : Int32)) gX7_refusalOfElement_0.2.2.2.2.2.2.2.2.2.2.2.2.1 rfl ?_
      refine r_goto (t := 26) gX7_refusalOfElement_0.2.2.2.2.2.2.2.2.2.2.2.2.2.1 rfl ?_
      exact r_ireturn gX7_refusalOfElement_0.2.2.2.2.2.2.2.2.2.2.2.2.2.2.2.1 rfl rfl
    · refine r_iload_n (x := r1) gX7_refusalOfElement_0.2.2.2.2.2.2.2.2.2.2.2.2.2.2.1 rfl ?_
      exact r_ireturn gX7_refusalOfElement_0.2.2.2.2.2.2.2.2.2.2.2.2.2.2.2.1 rfl rfl
  · refine r_iload_n (x := r1) gX7_refusalOfElement_0.2.2.2.2.2.2.2.2.2.2.2.2.2.2.1 rfl ?_
    exact r_ireturn gX7_refusalOfElement_0.2.2.2.2.2.2.2.2.2.2.2.2.2.2.2.1 rfl rfl
def f_X7_get (q : SS) (a1 : Int32) (a2 : Int32) : Option Int64 :=
  (f_X7_isRow q a1).bind fun r1 =>
  if r1 = 0 then
  (some (0 : Int64))
  else
  ((f_X7_hasPlaces q a1 a2 (1 : Int32)).bind fun r2 =>
  if r2 = 0 then
  (some (0 : Int64))
  else
  (if vin a1 6 then
  if vin a2 60 then
  some (q.2 (31 + a1.toNatClampNeg) a2.toNatClampNeg)
  else none
  else none))
theorem e_X7_get {E : EE} (hE : GE E) (q : SS) (a1 : Int32) (a2 : Int32) : R E (κl E q) 4 92 0 [(0, .ref 26), (1, .int a1), (2, .int a2)] [] q (f_X7_get q a1 a2) := by
  unfold f_X7_get
  refine r_aload_n (x := 26) gX7_get_0.1 rfl ?_
  refine r_iload_n (x := a1) gX7_get_0.2.1 rfl ?_
  refine r_calli (k := 0) (idx := 33) (y := 81) (as := [.ref 26, .int a1]) (rest := []) (L0 := [(0, .ref 26), (1, .int a1)]) gX7_get_0.2.2.1 rfl rfl rfl rfl rfl (vok_v (ob_26 hE) rfl) rfl (r_dep (by decide) (e_X7_isRow hE q a1)) (fun r1 => ?_)
  refine r_if_eq (t := 29) gX7_get_0.2.2.2.1 rfl (fun h5 => ?_) (fun h5 => ?_)
  · refine r_lconst (v := (0 : Int64)) gX7_get_26.2.1 rfl ?_
    exact r_lreturn gX7_get_26.2.2.1 rfl rfl
  · refine r_aload_n (x := 26) gX7_get_0.2.2.2.2.1 rfl ?_
    refine r_iload_n (x := a1) gX7_get_0.2.2.2.2.2.1 rfl ?_
    refine r_iload_n (x := a2) gX7_get_0.2.2.2.2.2.2.1 rfl ?_
    refine r_iconst (v := (1 : Int32)) gX7_get_0.2.2.2.2.2.2.2.1 rfl ?_
    refine r_calli (k := 0) (idx := 43) (y := 88) (as := [.ref 26, .int a1, .int a2, .int (1 : Int32)]) (rest := []) (L0 := [(0, .ref 26), (1, .int a1), (2, .int a2), (3, .int (1 : Int32))]) gX7_get_0.2.2.2.2.2.2.2.2.1 rfl rfl rfl rfl rfl (vok_v (ob_26 hE) rfl) rfl (r_dep (by decide) (e_X7_hasPlaces hE q a1 a2 (1 : Int32))) (fun r2 => ?_)
    refine r_if_eq (t := 29) gX7_get_0.2.2.2.2.2.2.2.2.2.1 rfl (fun h4 => ?_) (fun h4 => ?_)
    · refine r_lconst (v := (0 : Int64)) gX7_get_26.2.1 rfl ?_
      exact r_lreturn gX7_get_26.2.2.1 rfl rfl
    · refine r_aload_n (x := 26) gX7_get_0.2.2.2.2.2.2.2.2.2.2.1 rfl ?_
      refine r_getA gX7_get_0.2.2.2.2.2.2.2.2.2.2.2.1 (fa_7_23_26 hE) ?_
      refine r_iload_n (x := a1) gX7_get_0.2.2.2.2.2.2.2.2.2.2.2.2.1 rfl ?_
      refine r_aaload gX7_get_0.2.2.2.2.2.2.2.2.2.2.2.2.2.1 (ar_30 hE) (by decide) (rv_30 hE) (fun h3 => ?_)
      refine r_iload_n (x := a2) gX7_get_0.2.2.2.2.2.2.2.2.2.2.2.2.2.2.1 rfl ?_
      refine r_laload gX7_get_0.2.2.2.2.2.2.2.2.2.2.2.2.2.2.2.1 (aw_31 hE (vin_lt h3)) ?_
      refine r_goto (t := 30) gX7_get_26.1 rfl ?_
      exact r_lreturn gX7_get_26.2.2.1 rfl rfl
def f_X11_element (q : SS) (a1 : Int32) (a2 : Int32) : Option Int64 :=
  (f_X7_refusalOfElement q a1 a2).bind fun r1 =>
  if r1 = 0 then
  ((f_X7_get q a1 a2).bind fun r2 =>
  some r2)
  else
  (some (-9223372036854775808 : Int64))
theorem e_X11_element {E : EE} (hE : GE E) (q : SS) (a1 : Int32) (a2 : Int32) : R E (κl E q) 5 184 0 [(0, .ref 0), (1, .int a1), (2, .int a2)] [] q (f_X11_element q a1 a2) := by
  unfold f_X11_element
  refine r_aload_n (x := 0) gX11_element_0.1 rfl ?_
  refine r_getA gX11_element_0.2.1 (fa_11_42_0 hE) ?_
  refine r_iload_n (x := a1) gX11_element_0.2.2.1 rfl ?_
  refine r_iload_n (x := a2) gX11_element_0.2.2.2.1 rfl ?_
  refine r_calli (k := 0) (idx := 365) (y := 86) (as := [.ref 26, .int a1, .int a2]) (rest := []) (L0 := [(0, .ref 26), (1, .int a1), (2, .int a2)]) gX11_element_0.2.2.2.2.1 rfl rfl rfl rfl rfl (vok_v (ob_26 hE) rfl) rfl (r_dep (by decide) (e_X7_refusalOfElement hE q a1 a2)) (fun r1 => ?_)
  refine r_if_eq (t := 18) gX11_element_0.2.2.2.2.2.1 rfl (fun h3 => ?_) (fun h3 => ?_)
  · refine r_aload_n (x := 0) gX11_element_0.2.2.2.2.2.2.2.2.1 rfl ?_
    refine r_getA gX11_element_0.2.2.2.2.2.2.2.2.2.1 (fa_11_42_0 hE) ?_
    refine r_iload_n (x := a1) gX11_element_0.2.2.2.2.2.2.2.2.2.2.1 rfl ?_
    refine r_iload_n (x := a2) gX11_element_0.2.2.2.2.2.2.2.2.2.2.2.1 rfl ?_
    refine r_calll (k := 0) (idx := 122) (y := 92) (as := [.ref 26, .int a1, .int a2]) (rest := []) (L0 := [(0, .ref 26), (1, .int a1), (2, .int a2)]) gX11_element_0.2.2.2.2.2.2.2.2.2.2.2.2.1 rfl rfl rfl rfl rfl (vok_v (ob_26 hE) rfl) rfl (r_dep (by decide) (e_X7_get hE q a1 a2)) (fun r2 => ?_)
    exact r_lreturn gX11_element_0.2.2.2.2.2.2.2.2.2.2.2.2.2.1 rfl rfl
  · refine r_ldc2 (v := (-9223372036854775808 : Int64)) gX11_element_0.2.2.2.2.2.2.1 rfl ?_
    refine r_goto (t := 27) gX11_element_0.2.2.2.2.2.2.2.1 rfl ?_
    exact r_lreturn gX11_element_0.2.2.2.2.2.2.2.2.2.2.2.2.2.1 rfl rfl
def f_X12_whyNoPlace (q : SS) (a1 : Int32) (a2 : Int32) : Option Int32 :=
  (f_X12_isShelf q a1).bind fun r1 =>
  if r1 = 0 then
  (some (-1 : Int32))
  else
  (if vin a1 6 then
  if (q.1 89 a1.toNatClampNeg) = (-1 : Int32) then
  (some (-11 : Int32))
  else
  (if vin a1 6 then
  if (q.1 89 a1.toNatClampNeg) < 0 then
  (if vin a1 6 then
  (f_X12_in q a2 (0 : Int32) ((q.1 90 a1.toNatClampNeg) - (1 : Int32))).bind fun r2 =>
  if r2 = 0 then
  (some (-13 : Int32))
  else
  (some (0 : Int32))
  else none)
  else
  (some (-12 : Int32))
  else none)
  else none)
theorem e_X12_whyNoPlace {E : EE} (hE : GE E) (q : SS) (a1 : Int32) (a2 : Int32) : R E (κi E q) 2 291 0 [(0, .ref 60), (1, .int a1), (2, .int a2)] [] q (f_X12_whyNoPlace q a1 a2) := by
  unfold f_X12_whyNoPlace
  refine r_iload_n (x := a1) gX12_whyNoPlace_0.1 rfl ?_
  refine r_calli (k := 2) (idx := 137) (y := 288) (as := [.int a1]) (rest := []) (L0 := [(0, .int a1)]) gX12_whyNoPlace_0.2.1 rfl rfl rfl rfl rfl vok_s rfl (r_dep (by decide) (e_X12_isShelf hE q a1)) (fun r1 => ?_)
  refine r_if_ne (t := 9) gX12_whyNoPlace_0.2.2.1 rfl (fun h6 => ?_) (fun h6 => ?_)
  · refine r_iconst (v := (-1 : Int32)) gX12_whyNoPlace_0.2.2.2.1 rfl ?_
    exact r_ireturn gX12_whyNoPlace_0.2.2.2.2.1 rfl rfl
  · refine r_aload_n (x := 60) gX12_whyNoPlace_0.2.2.2.2.2.1 rfl ?_
    refine r_getA gX12_whyNoPlace_0.2.2.2.2.2.2.1 (fa_12_98_60 hE) ?_
    refine r_iload_n (x := a1) gX12_whyNoPlace_0.2.2.2.2.2.2.2.1 rfl ?_
    refine r_iaload gX12_whyNoPlace_0.2.2.2.2.2.2.2.2.1 (ar_89 hE) ?_
    refine r_iconst (v := (-1 : Int32)) gX12_whyNoPlace_0.2.2.2.2.2.2.2.2.2.1 rfl ?_
    refine r_icmp_ne (t := 22) gX12_whyNoPlace_0.2.2.2.2.2.2.2.2.2.2.1 rfl (fun h5 => ?_) (fun h5 => ?_)
    · refine r_bipush (v := (-11 : Int32)) gX12_whyNoPlace_0.2.2.2.2.2.2.2.2.2.2.2.1 rfl ?_
      exact r_ireturn gX12_whyNoPlace_0.2.2.2.2.2.2.2.2.2.2.2.2.1 rfl rfl
    · refine r_aload_n (x := 60) gX12_whyNoPlace_0.2.2.2.2.2.2.2.2.2.2.2.2.2.1 rfl ?_
      refine r_getA gX12_whyNoPlace_0.2.2.2.2.2.2.2.2.2.2.2.2.2.2.1 (fa_12_98_60 hE) ?_
      refine r_iload_n (x := a1) gX12_whyNoPlace_0.2.2.2.2.2.2.2.2.2.2.2.2.2.2.2.1 rfl ?_
      refine r_iaload gX12_whyNoPlace_27.1 (ar_89 hE) ?_
      refine r_if_lt (t := 34) gX12_whyNoPlace_27.2.1 rfl (fun h4 => ?_) (fun h4 => ?_)
      · refine r_iload_n (x := a2) gX12_whyNoPlace_27.2.2.2.2.1 rfl ?_
        refine r_iconst (v := (0 : Int32)) gX12_whyNoPlace_27.2.2.2.2.2.1 rfl ?_
        refine r_aload_n (x := 60) gX12_whyNoPlace_27.2.2.2.2.2.2.1 rfl ?_
        refine r_getA gX12_whyNoPlace_27.2.2.2.2.2.2.2.1 (fa_12_101_60 hE) ?_
        refine r_iload_n (x := a1) gX12_whyNoPlace_27.2.2.2.2.2.2.2.2.1 rfl ?_
        refine r_iaload gX12_whyNoPlace_27.2.2.2.2.2.2.2.2.2.1 (ar_90 hE) ?_
        refine r_iconst (v := (1 : Int32)) gX12_whyNoPlace_27.2.2.2.2.2.2.2.2.2.2.1 rfl ?_
        refine r_isub gX12_whyNoPlace_27.2.2.2.2.2.2.2.2.2.2.2.1 ?_
        refine r_calli (k := 2) (idx := 118) (y := 189) (as := [.int a2, .int (0 : Int32), .int ((q.1 90 a1.toNatClampNeg) - (1 : Int32))]) (rest := []) (L0 := [(0, .int a2), (1, .int (0 : Int32)), (2, .int ((q.1 90 a1.toNatClampNeg) - (1 : Int32)))]) gX12_whyNoPlace_27.2.2.2.2.2.2.2.2.2.2.2.2.1 rfl rfl rfl rfl rfl vok_s rfl (r_dep (by decide) (e_X12_in hE q a2 (0 : Int32) ((q.1 90 a1.toNatClampNeg) - (1 : Int32)))) (fun r2 => ?_)
        refine r_if_eq (t := 54) gX12_whyNoPlace_27.2.2.2.2.2.2.2.2.2.2.2.2.2.1 rfl (fun h3 => ?_) (fun h3 => ?_)
        · refine r_bipush (v := (-13 : Int32)) gX12_whyNoPlace_54.1 rfl ?_
          exact r_ireturn gX12_whyNoPlace_54.2.1 rfl rfl
        · refine r_iconst (v := (0 : Int32)) gX12_whyNoPlace_27.2.2.2.2.2.2.2.2.2.2.2.2.2.2.1 rfl ?_
          refine r_goto (t := 56) gX12_whyNoPlace_27.2.2.2.2.2.2.2.2.2.2.2.2.2.2.2.1 rfl ?_
          exact r_ireturn gX12_whyNoPlace_54.2.1 rfl rfl
      · refine r_bipush (v := (-12 : Int32)) gX12_whyNoPlace_27.2.2.1 rfl ?_
        exact r_ireturn gX12_whyNoPlace_27.2.2.2.1 rfl rfl
def f_X12_element (q : SS) (a1 : Int32) (a2 : Int32) : Option Int64 :=
  (f_X12_whyNoPlace q a1 a2).bind fun r1 =>
  if 0 ≤ r1 then
  (if vin (((60 : Int32) * a1) + a2) 360 then
  some (q.2 91 (((60 : Int32) * a1) + a2).toNatClampNeg)
  else none)
  else
  (some (-9223372036854775808 : Int64))
theorem e_X12_element {E : EE} (hE : GE E) (q : SS) (a1 : Int32) (a2 : Int32) : R E (κl E q) 3 293 0 [(0, .ref 60), (1, .int a1), (2, .int a2)] [] q (f_X12_element q a1 a2) := by
  unfold f_X12_element
  refine r_aload_n (x := 60) gX12_element_0.1 rfl ?_
  refine r_iload_n (x := a1) gX12_element_0.2.1 rfl ?_
  refine r_iload_n (x := a2) gX12_element_0.2.2.1 rfl ?_
  refine r_calli (k := 0) (idx := 414) (y := 291) (as := [.ref 60, .int a1, .int a2]) (rest := []) (L0 := [(0, .ref 60), (1, .int a1), (2, .int a2)]) gX12_element_0.2.2.2.1 rfl rfl rfl rfl rfl (vok_v (ob_60 hE) rfl) rfl (r_dep (by decide) (e_X12_whyNoPlace hE q a1 a2)) (fun r1 => ?_)
  refine r_if_ge (t := 15) gX12_element_0.2.2.2.2.1 rfl (fun h2 => ?_) (fun h2 => ?_)
  · refine r_aload_n (x := 60) gX12_element_0.2.2.2.2.2.2.2.1 rfl ?_
    refine r_getA gX12_element_0.2.2.2.2.2.2.2.2.1 (fa_12_104_60 hE) ?_
    refine r_bipush (v := (60 : Int32)) gX12_element_0.2.2.2.2.2.2.2.2.2.1 rfl ?_
    refine r_iload_n (x := a1) gX12_element_0.2.2.2.2.2.2.2.2.2.2.1 rfl ?_
    refine r_imul gX12_element_0.2.2.2.2.2.2.2.2.2.2.2.1 ?_
    refine r_iload_n (x := a2) gX12_element_0.2.2.2.2.2.2.2.2.2.2.2.2.1 rfl ?_
    refine r_iadd gX12_element_0.2.2.2.2.2.2.2.2.2.2.2.2.2.1 ?_
    refine r_laload gX12_element_0.2.2.2.2.2.2.2.2.2.2.2.2.2.2.1 (ar_91 hE) ?_
    exact r_lreturn gX12_element_0.2.2.2.2.2.2.2.2.2.2.2.2.2.2.2.1 rfl rfl
  · refine r_ldc2 (v := (-9223372036854775808 : Int64)) gX12_element_0.2.2.2.2.2.1 rfl ?_
    refine r_goto (t := 26) gX12_element_0.2.2.2.2.2.2.1 rfl ?_
    exact r_lreturn gX12_element_0.2.2.2.2.2.2.2.2.2.2.2.2.2.2.2.1 rfl rfl
def f_X7_lowestBits (q : SS) (a0 : Int32) (a1 : Int64) : Option Int64 :=
  sw a0 [(0, (some (((a1.toInt32).toInt8.toInt32).toInt64))), (1, (some (((a1.toInt32).toInt16.toInt32).toInt64))), (2, (some ((a1.toInt32).toInt64))), (3, (some a1)), (4, (if (lg_cmp a1 (0 : Int64)) = 0 then
  (some (0 : Int64))
  else
  (some (1 : Int64))))]
  (some a1)
theorem e_X7_lowestBits {E : EE} (hE : GE E) (q : SS) (a0 : Int32) (a1 : Int64) : R E (κl E q) 0 94 0 [(0, .int a0), (1, .long a1)] [] q (f_X7_lowestBits q a0 a1) := by
  unfold f_X7_lowestBits
  refine r_iload_n (x := a0) gX7_lowestBits_0.1 rfl ?_
  refine r_sw1 (fun h1 => ?_) (fun h1 => ?_)
  · refine r_jmp (t := 36) dX7_lowestBits_1 rfl (by rw [h1]; rfl) ?_
    refine r_lload_n (x := a1) gX7_lowestBits_36.1 rfl ?_
    refine r_l2i gX7_lowestBits_36.2.1 ?_
    refine r_i2b gX7_lowestBits_36.2.2.1 ?_
    refine r_i2l gX7_lowestBits_36.2.2.2.1 ?_
    exact r_lreturn gX7_lowestBits_36.2.2.2.2.1 rfl rfl
  refine r_sw1 (fun h2 => ?_) (fun h2 => ?_)
  · refine r_jmp (t := 41) dX7_lowestBits_1 rfl (by rw [h2]; rfl) ?_
    refine r_lload_n (x := a1) gX7_lowestBits_36.2.2.2.2.2.1 rfl ?_
    refine r_l2i gX7_lowestBits_36.2.2.2.2.2.2.1 ?_
    refine r_i2s gX7_lowestBits_36.2.2.2.2.2.2.2.1 ?_
    refine r_i2l gX7_lowestBits_36.2.2.2.2.2.2.2.2.1 ?_
    exact r_lreturn gX7_lowestBits_36.2.2.2.2.2.2.2.2.2.1 rfl rfl
  refine r_sw1 (fun h3 => ?_) (fun h3 => ?_)
  · refine r_jmp (t := 46) dX7_lowestBits_1 rfl (by rw [h3]; rfl) ?_
    refine r_lload_n (x := a1) gX7_lowestBits_36.2.2.2.2.2.2.2.2.2.2.1 rfl ?_
    refine r_l2i gX7_lowestBits_36.2.2.2.2.2.2.2.2.2.2.2.1 ?_
    refine r_i2l gX7_lowestBits_36.2.2.2.2.2.2.2.2.2.2.2.2.1 ?_
    exact r_lreturn gX7_lowestBits_36.2.2.2.2.2.2.2.2.2.2.2.2.2.1 rfl rfl
  refine r_sw1 (fun h4 => ?_) (fun h4 => ?_)
  · refine r_jmp (t := 62) dX7_lowestBits_1 rfl (by rw [h4]; rfl) ?_
    refine r_lload_n (x := a1) gX7_lowestBits_52.2.2.2.2.2.2.1 rfl ?_
    exact r_lreturn gX7_lowestBits_52.2.2.2.2.2.2.2.1 rfl rfl
  refine r_sw1 (fun h5 => ?_) (fun h5 => ?_)
  · refine r_jmp (t := 50) dX7_lowestBits_1 rfl (by rw [h5]; rfl) ?_
    refine r_lload_n (x := a1) gX7_lowestBits_36.2.2.2.2.2.2.2.2.2.2.2.2.2.2.1 rfl ?_
    refine r_lconst (v := (0 : Int64)) gX7_lowestBits_36.2.2.2.2.2.2.2.2.2.2.2.2.2.2.2.1 rfl ?_
    refine r_lcmp gX7_lowestBits_52.1 ?_
    refine r_if_eq (t := 60) gX7_lowestBits_52.2.1 rfl (fun h6 => ?_) (fun h6 => ?_)
    · refine r_lconst (v := (0 : Int64)) gX7_lowestBits_52.2.2.2.2.1 rfl ?_
      exact r_lreturn gX7_lowestBits_52.2.2.2.2.2.1 rfl rfl
    · refine r_lconst (v := (1 : Int64)) gX7_lowestBits_52.2.2.1 rfl ?_
      refine r_goto (t := 61) gX7_lowestBits_52.2.2.2.1 rfl ?_
      exact r_lreturn gX7_lowestBits_52.2.2.2.2.2.1 rfl rfl
  refine r_jmp (t := 62) dX7_lowestBits_1 rfl ?_ ?_
  · have h7 := sw_lo (v := a0.toInt) 0
    have h7 := sw_st h7 h1
    have h7 := sw_st h7 h2
    have h7 := sw_st h7 h3
    have h7 := sw_st h7 h4
    have h7 := sw_st h7 h5
    exact sw_df h7 (by decide) rfl
  refine r_lload_n (x := a1) gX7_lowestBits_52.2.2.2.2.2.2.1 rfl ?_
  exact r_lreturn gX7_lowestBits_52.2.2.2.2.2.2.2.1 rfl rfl

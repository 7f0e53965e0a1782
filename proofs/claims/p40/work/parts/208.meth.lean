def f_X11_first (q : SS) (a1 : Int32) (a2 : Int32) : Option (Int32 × SS) :=
  (f_X10_isPerson q a1).bind fun r1 =>
  if r1 = 0 then
  (some ((-1 : Int32), q))
  else
  (if a2 < 0 then
  (some ((-1 : Int32), q))
  else
  (if a2 ≤ (3 : Int32) then
  ((f_X6_begin q a1 a2).bind fun r2 =>
  (f_X6_firstSlipping r2).bind fun r3 =>
  some (r3.1, r3.2))
  else
  (some ((-1 : Int32), q))))
theorem e_X11_first {E : EE} (hE : GE E) (q : SS) (a1 : Int32) (a2 : Int32) : R E (κI E) 64 160 0 [(0, .ref 0), (1, .int a1), (2, .int a2)] [] q (f_X11_first q a1 a2) := by
  unfold f_X11_first
  refine r_aload_n (x := 0) gX11_first_0.1 rfl ?_
  refine r_getA gX11_first_0.2.1 (fa_11_10_0 hE) ?_
  refine r_iload_n (x := a1) gX11_first_0.2.2.1 rfl ?_
  refine r_calli (k := 0) (idx := 140) (y := 128) (as := [.ref 1, .int a1]) (rest := []) (L0 := [(0, .ref 1), (1, .int a1)]) gX11_first_0.2.2.2.1 rfl rfl rfl rfl rfl (vok_v (ob_1 hE) rfl) rfl (r_dep (by decide) (e_X10_isPerson hE q a1)) (fun r1 => ?_)
  refine r_if_eq (t := 20) gX11_first_0.2.2.2.2.1 rfl (fun h6 => ?_) (fun h6 => ?_)
  · refine r_iconst (v := (-1 : Int32)) gX11_first_0.2.2.2.2.2.2.2.2.2.2.1 rfl ?_
    exact r_ireturn gX11_first_0.2.2.2.2.2.2.2.2.2.2.2.1 rfl rfl
  · refine r_iload_n (x := a2) gX11_first_0.2.2.2.2.2.1 rfl ?_
    refine r_if_lt (t := 20) gX11_first_0.2.2.2.2.2.2.1 rfl (fun h5 => ?_) (fun h5 => ?_)
    · refine r_iconst (v := (-1 : Int32)) gX11_first_0.2.2.2.2.2.2.2.2.2.2.1 rfl ?_
      exact r_ireturn gX11_first_0.2.2.2.2.2.2.2.2.2.2.2.1 rfl rfl
    · refine r_iload_n (x := a2) gX11_first_0.2.2.2.2.2.2.2.1 rfl ?_
      refine r_iconst (v := (3 : Int32)) gX11_first_0.2.2.2.2.2.2.2.2.1 rfl ?_
      refine r_icmp_le (t := 22) gX11_first_0.2.2.2.2.2.2.2.2.2.1 rfl (fun h4 => ?_) (fun h4 => ?_)
      · refine r_aload_n (x := 0) gX11_first_0.2.2.2.2.2.2.2.2.2.2.2.2.1 rfl ?_
        refine r_getA gX11_first_0.2.2.2.2.2.2.2.2.2.2.2.2.2.1 (fa_11_67_0 hE) ?_
        refine r_iload_n (x := a1) gX11_first_0.2.2.2.2.2.2.2.2.2.2.2.2.2.2.1 rfl ?_
        refine r_iload_n (x := a2) gX11_first_0.2.2.2.2.2.2.2.2.2.2.2.2.2.2.2.1 rfl ?_
        refine r_callV (k := 0) (idx := 235) (y := 67) (as := [.ref 42, .int a1, .int a2]) (rest := []) (L0 := [(0, .ref 42), (1, .int a1), (2, .int a2)]) gX11_first_28.1 rfl rfl rfl rfl rfl (vok_v (ob_42 hE) rfl) rfl (r_dep (by decide) (e_X6_begin hE q a1 a2)) (fun r2 => ?_)
        refine r_aload_n (x := 0) gX11_first_28.2.1 rfl ?_
        refine r_getA gX11_first_28.2.2.1 (fa_11_67_0 hE) ?_
        refine r_callI (k := 0) (idx := 244) (y := 76) (as := [.ref 42]) (rest := []) (L0 := [(0, .ref 42)]) gX11_first_28.2.2.2.1 rfl rfl rfl rfl rfl (vok_v (ob_42 hE) rfl) rfl (r_dep (by decide) (e_X6_firstSlipping hE r2)) (fun r3 => ?_)
        exact r_ireturn gX11_first_28.2.2.2.2.1 rfl rfl
      · refine r_iconst (v := (-1 : Int32)) gX11_first_0.2.2.2.2.2.2.2.2.2.2.1 rfl ?_
        exact r_ireturn gX11_first_0.2.2.2.2.2.2.2.2.2.2.2.1 rfl rfl
def f_X12_onHour (q : SS) (a1 : Int32) : Option Int32 :=
  if vin (0 : Int32) 2 then
  if ((q.1 68 (0 : Int32).toNatClampNeg) + a1) ≤ (11 : Int32) then
  (if vin (0 : Int32) 2 then
  some ((q.1 68 (0 : Int32).toNatClampNeg) + a1)
  else none)
  else
  (some (11 : Int32))
  else none
theorem e_X12_onHour {E : EE} (hE : GE E) (q : SS) (a1 : Int32) : R E (κi E q) 0 248 0 [(0, .ref 60), (1, .int a1)] [] q (f_X12_onHour q a1) := by
  unfold f_X12_onHour
  refine r_aload_n (x := 60) gX12_onHour_0.1 rfl ?_
  refine r_getA gX12_onHour_0.2.1 (fa_12_33_60 hE) ?_
  refine r_iconst (v := (0 : Int32)) gX12_onHour_0.2.2.1 rfl ?_
  refine r_iaload gX12_onHour_0.2.2.2.1 (ar_68 hE) ?_
  refine r_iload_n (x := a1) gX12_onHour_0.2.2.2.2.1 rfl ?_
  refine r_iadd gX12_onHour_0.2.2.2.2.2.1 ?_
  refine r_bipush (v := (11 : Int32)) gX12_onHour_0.2.2.2.2.2.2.1 rfl ?_
  refine r_icmp_le (t := 18) gX12_onHour_0.2.2.2.2.2.2.2.1 rfl (fun h1 => ?_) (fun h1 => ?_)
  · refine r_aload_n (x := 60) gX12_onHour_0.2.2.2.2.2.2.2.2.2.2.1 rfl ?_
    refine r_getA gX12_onHour_0.2.2.2.2.2.2.2.2.2.2.2.1 (fa_12_33_60 hE) ?_
    refine r_iconst (v := (0 : Int32)) gX12_onHour_0.2.2.2.2.2.2.2.2.2.2.2.2.1 rfl ?_
    refine r_iaload gX12_onHour_0.2.2.2.2.2.2.2.2.2.2.2.2.2.1 (ar_68 hE) ?_
    refine r_iload_n (x := a1) gX12_onHour_0.2.2.2.2.2.2.2.2.2.2.2.2.2.2.1 rfl ?_
    refine r_iadd gX12_onHour_0.2.2.2.2.2.2.2.2.2.2.2.2.2.2.2.1 ?_
    exact r_ireturn gX12_onHour_26.1 rfl rfl
  · refine r_bipush (v := (11 : Int32)) gX12_onHour_0.2.2.2.2.2.2.2.2.1 rfl ?_
    refine r_goto (t := 26) gX12_onHour_0.2.2.2.2.2.2.2.2.2.1 rfl ?_
    exact r_ireturn gX12_onHour_26.1 rfl rfl
abbrev GT_X12_leftBy : Type := (SS → Int32 → Int32 → Int32 → Int64 → Option (Int64 × SS)) × (SS → Int32 → Int32 → Int32 → Int64 → Int32 → Int32 → Option (Int64 × SS)) × (SS → Int32 → Int32 → Int32 → Option (Int64 × SS))
def GS_X12_leftBy (E : EE) (n : Nat) (r : GT_X12_leftBy) : Prop := (∀ (q : SS) (a1 : Int32) (a2 : Int32) (a3 : Int32) (a4 : Int64), R E (κL E) (4 + n) 249 0 [(0, .ref 60), (1, .int a1), (2, .int a2), (3, .int a3), (4, .long a4)] [] q (r.1 q a1 a2 a3 a4)) ∧ (∀ (q : SS) (a1 : Int32) (a2 : Int32) (a3 : Int32) (a4 : Int64) (a6 : Int32) (a7 : Int32), R E (κL E) (4 + n) 250 0 [(0, .ref 60), (1, .int a1), (2, .int a2), (3, .int a3), (4, .long a4), (6, .int a6), (7, .int a7)] [] q (r.2.1 q a1 a2 a3 a4 a6 a7)) ∧ (∀ (q : SS) (a1 : Int32) (a2 : Int32) (a3 : Int32), R E (κL E) (4 + n) 251 0 [(0, .ref 60), (1, .int a1), (2, .int a2), (3, .int a3)] [] q (r.2.2 q a1 a2 a3))
def b_X12_leftBy_100 (r : GT_X12_leftBy) (rec_7 : SS → Int32 → Int32 → Int32 → Int64 → Int64 → Int32 → Option (Int64 × SS)) (q : SS) (l1 : Int32) (l2 : Int32) (l3 : Int32) (l4 : Int64) (l6 : Int64) (l8 : Int32) : Option (Int64 × SS) :=
  rec_7 q l1 l2 l3 l4 l6 (l8 + (1 : Int32))
theorem rb_X12_leftBy_100 {E : EE} (hE : GE E) {r : GT_X12_leftBy} (n : Nat) (hr : GS_X12_leftBy E n r) {rec_7 : SS → Int32 → Int32 → Int32 → Int64 → Int64 → Int32 → Option (Int64 × SS)} (hrec_7 : ∀ (yq : SS) (yl1 : Int32) (yl2 : Int32) (yl3 : Int32) (yl4 : Int64) (yl6 : Int64) (yl8 : Int32), R E (κL E) (4 + n + 1) 249 7 [(0, .ref 60), (1, .int yl1), (2, .int yl2), (3, .int yl3), (4, .long yl4), (6, .long yl6), (8, .int yl8)] [] yq (rec_7 yq yl1 yl2 yl3 yl4 yl6 yl8)) (q : SS) (l1 : Int32) (l2 : Int32) (l3 : Int32) (l4 : Int64) (l6 : Int64) (l8 : Int32) : R E (κL E) (4 + n + 1) 249 100 [(0, .ref 60), (1, .int l1), (2, .int l2), (3, .int l3), (4, .long l4), (6, .long l6), (8, .int l8)] [] q (b_X12_leftBy_100 r rec_7 q l1 l2 l3 l4 l6 l8) := by
  unfold b_X12_leftBy_100
  refine r_iinc (x := l8) (v := (l8 + (1 : Int32))) (L2 := [(0, .ref 60), (1, .int l1), (2, .int l2), (3, .int l3), (4, .long l4), (6, .long l6), (8, .int (l8 + (1 : Int32)))]) gX12_leftBy_94.2.2.1 rfl rfl rfl rfl ?_
  refine r_goto (t := 7) gX12_leftBy_94.2.2.2.1 rfl ?_
  exact r_sub (L' := [(0, .ref 60), (1, .int l1), (2, .int l2), (3, .int l3), (4, .long l4), (6, .long l6), (8, .int (l8 + (1 : Int32)))]) (sub_c rfl (sub_c rfl (sub_c rfl (sub_c rfl (sub_c rfl (sub_c rfl (sub_c rfl sub_n))))))) (hrec_7 q l1 l2 l3 l4 l6 (l8 + (1 : Int32)))
def b_X12_leftBy_94 (r : GT_X12_leftBy) (rec_7 : SS → Int32 → Int32 → Int32 → Int64 → Int64 → Int32 → Option (Int64 × SS)) (rec_44 : SS → Int32 → Int32 → Int32 → Int64 → Int64 → Int32 → Int32 → Option (Int64 × SS)) (q : SS) (l1 : Int32) (l2 : Int32) (l3 : Int32) (l4 : Int64) (l6 : Int64) (l8 : Int32) (l9 : Int32) : Option (Int64 × SS) :=
  rec_44 q l1 l2 l3 l4 l6 l8 (l9 + (1 : Int32))
theorem rb_X12_leftBy_94 {E : EE} (hE : GE E) {r : GT_X12_leftBy} (n : Nat) (hr : GS_X12_leftBy E n r) {rec_7 : SS → Int32 → Int32 → Int32 → Int64 → Int64 → Int32 → Option (Int64 × SS)} (hrec_7 : ∀ (yq : SS) (yl1 : Int32) (yl2 : Int32) (yl3 : Int32) (yl4 : Int64) (yl6 : Int64) (yl8 : Int32), R E (κL E) (4 + n + 1) 249 7 [(0, .ref 60), (1, .int yl1), (2, .int yl2), (3, .int yl3), (4, .long yl4), (6, .long yl6), (8, .int yl8)] [] yq (rec_7 yq yl1 yl2 yl3 yl4 yl6 yl8)) {rec_44 : SS → Int32 → Int32 → Int32 → Int64 → Int64 → Int32 → Int32 → Option (Int64 × SS)} (hrec_44 : ∀ (yq : SS) (yl1 : Int32) (yl2 : Int32) (yl3 : Int32) (yl4 : Int64) (yl6 : Int64) (yl8 : Int32) (yl9 : Int32), R E (κL E) (4 + n + 1) 249 44 [(0, .ref 60), (1, .int yl1), (2, .int yl2), (3, .int yl3), (4, .long yl4), (6, .long yl6), (8, .int yl8), (9, .int yl9)] [] yq (rec_44 yq yl1 yl2 yl3 yl4 yl6 yl8 yl9)) (q : SS) (l1 : Int32) (l2 : Int32) (l3 : Int32) (l4 : Int64) (l6 : Int64) (l8 : Int32) (l9 : Int32) : R E (κL E) (4 + n + 1) 249 94 [(0, .ref 60), (1, .int l1), (2, .int l2), (3, .int l3), (4, .long l4), (6, .long l6), (8, .int l8), (9, .int l9)] [] q (b_X12_leftBy_94 r rec_7 rec_44 q l1 l2 l3 l4 l6 l8 l9) := by
  unfold b_X12_leftBy_94
  refine r_iinc (x := l9) (v := (l9 + (1 : Int32))) (L2 := [(0, .ref 60), (1, .int l1), (2, .int l2), (3, .int l3), (4, .long l4), (6, .long l6), (8, .int l8), (9, .int (l9 + (1 : Int32)))]) gX12_leftBy_94.1 rfl rfl rfl rfl ?_
  refine r_goto (t := 44) gX12_leftBy_94.2.1 rfl ?_
  exact r_sub (L' := [(0, .ref 60), (1, .int l1), (2, .int l2), (3, .int l3), (4, .long l4), (6, .long l6), (8, .int l8), (9, .int (l9 + (1 : Int32)))]) (sub_c rfl (sub_c rfl (sub_c rfl (sub_c rfl (sub_c rfl (sub_c rfl (sub_c rfl (sub_c rfl sub_n)))))))) (hrec_44 q l1 l2 l3 l4 l6 l8 (l9 + (1 : Int32)))
def b_X12_leftBy_44 (r : GT_X12_leftBy) (rec_7 : SS → Int32 → Int32 → Int32 → Int64 → Int64 → Int32 → Option (Int64 × SS)) : SS → Int32 → Int32 → Int32 → Int64 → Int64 → Int32 → Int32 → Option (Int64 × SS) :=
  fx8 (fun (rec_44 : SS → Int32 → Int32 → Int32 → Int64 → Int64 → Int32 → Int32 → Option (Int64 × SS)) (q : SS) (l1 : Int32) (l2 : Int32) (l3 : Int32) (l4 : Int64) (l6 : Int64) (l8 : Int32) (l9 : Int32) =>
  if (q.1 60 1) ≤ l9 then
  (b_X12_leftBy_100 r rec_7 q l1 l2 l3 l4 l6 l8)
  else
  ((f_X12_maySlip q l8 l9).bind fun r1 =>
  if r1 = 0 then
  (b_X12_leftBy_94 r rec_7 rec_44 q l1 l2 l3 l4 l6 l8 l9)
  else
  ((r.2.1 q l1 l2 l3 l4 l8 l9).bind fun r2 =>
  if 0 ≤ (lg_cmp r2.1 l6) then
  (b_X12_leftBy_94 r rec_7 rec_44 r2.2 l1 l2 l3 l4 l6 l8 l9)
  else
  (b_X12_leftBy_94 r rec_7 rec_44 r2.2 l1 l2 l3 l4 r2.1 l8 l9)))) FU
theorem rb_X12_leftBy_44 {E : EE} (hE : GE E) {r : GT_X12_leftBy} (n : Nat) (hr : GS_X12_leftBy E n r) {rec_7 : SS → Int32 → Int32 → Int32 → Int64 → Int64 → Int32 → Option (Int64 × SS)} (hrec_7 : ∀ (yq : SS) (yl1 : Int32) (yl2 : Int32) (yl3 : Int32) (yl4 : Int64) (yl6 : Int64) (yl8 : Int32), R E (κL E) (4 + n + 1) 249 7 [(0, .ref 60), (1, .int yl1), (2, .int yl2), (3, .int yl3), (4, .long yl4), (6, .long yl6), (8, .int yl8)] [] yq (rec_7 yq yl1 yl2 yl3 yl4 yl6 yl8)) (q : SS) (l1 : Int32) (l2 : Int32) (l3 : Int32) (l4 : Int64) (l6 : Int64) (l8 : Int32) (l9 : Int32) : R E (κL E) (4 + n + 1) 249 44 [(0, .ref 60), (1, .int l1), (2, .int l2), (3, .int l3), (4, .long l4), (6, .long l6), (8, .int l8), (9, .int l9)] [] q (b_X12_leftBy_44 r rec_7 q l1 l2 l3 l4 l6 l8 l9) := by
  unfold b_X12_leftBy_44
  refine fx8_ok (P := fun q l1 l2 l3 l4 l6 l8 l9 o => R E (κL E) (4 + n + 1) 249 44 [(0, .ref 60), (1, .int l1), (2, .int l2), (3, .int l3), (4, .long l4), (6, .long l6), (8, .int l8), (9, .int l9)] [] q o) (fun _ _ _ _ _ _ _ _ => r_no) (fun rec_44 hrec_44 q l1 l2 l3 l4 l6 l8 l9 => ?_) _ _ _ _ _ _ _ _ _
  refine r_iload (x := l9) gX12_leftBy_31.2.2.2.2.2.2.2.1 rfl ?_
  refine r_aload_n (x := 60) gX12_leftBy_31.2.2.2.2.2.2.2.2.1 rfl ?_
  refine r_getI gX12_leftBy_31.2.2.2.2.2.2.2.2.2.1 (ff_12_115_60 hE) (by decide) ?_
  refine r_icmp_ge (t := 100) gX12_leftBy_31.2.2.2.2.2.2.2.2.2.2.1 rfl (fun h5 => ?_) (fun h5 => ?_)
  · exact r_sub (L' := [(0, .ref 60), (1, .int l1), (2, .int l2), (3, .int l3), (4, .long l4), (6, .long l6), (8, .int l8)]) (sub_c rfl (sub_c rfl (sub_c rfl (sub_c rfl (sub_c rfl (sub_c rfl (sub_c rfl sub_n))))))) (rb_X12_leftBy_100 hE n hr hrec_7 q l1 l2 l3 l4 l6 l8)
  · refine r_aload_n (x := 60) gX12_leftBy_31.2.2.2.2.2.2.2.2.2.2.2.1 rfl ?_
    refine r_iload (x := l8) gX12_leftBy_31.2.2.2.2.2.2.2.2.2.2.2.2.1 rfl ?_
    refine r_iload (x := l9) gX12_leftBy_31.2.2.2.2.2.2.2.2.2.2.2.2.2.1 rfl ?_
    refine r_calli (k := 0) (idx := 251) (y := 230) (as := [.ref 60, .int l8, .int l9]) (rest := []) (L0 := [(0, .ref 60), (1, .int l8), (2, .int l9)]) gX12_leftBy_31.2.2.2.2.2.2.2.2.2.2.2.2.2.2.1 rfl rfl rfl rfl rfl (vok_v (ob_60 hE) rfl) rfl (r_dep (by omega) (e_X12_maySlip hE q l8 l9)) (fun r1 => ?_)
    refine r_if_ne (t := 67) gX12_leftBy_31.2.2.2.2.2.2.2.2.2.2.2.2.2.2.2.1 rfl (fun h4 => ?_) (fun h4 => ?_)
    · refine r_goto (t := 94) gX12_leftBy_64.1 rfl ?_
      exact r_sub (L' := [(0, .ref 60), (1, .int l1), (2, .int l2), (3, .int l3), (4, .long l4), (6, .long l6), (8, .int l8), (9, .int l9)]) (sub_c rfl (sub_c rfl (sub_c rfl (sub_c rfl (sub_c rfl (sub_c rfl (sub_c rfl (sub_c rfl sub_n)))))))) (rb_X12_leftBy_94 hE n hr hrec_7 hrec_44 q l1 l2 l3 l4 l6 l8 l9)
    · refine r_aload_n (x := 60) gX12_leftBy_64.2.1 rfl ?_
      refine r_iload_n (x := l1) gX12_leftBy_64.2.2.1 rfl ?_
      refine r_iload_n (x := l2) gX12_leftBy_64.2.2.2.1 rfl ?_
      refine r_iload_n (x := l3) gX12_leftBy_64.2.2.2.2.1 rfl ?_
      refine r_lload (x := l4) gX12_leftBy_64.2.2.2.2.2.1 rfl ?_
      refine r_iload (x := l8) gX12_leftBy_64.2.2.2.2.2.2.1 rfl ?_
      refine r_iload (x := l9) gX12_leftBy_64.2.2.2.2.2.2.2.1 rfl ?_
      refine r_callL (k := 0) (idx := 295) (y := 250) (as := [.ref 60, .int l1, .int l2, .int l3, .long l4, .int l8, .int l9]) (rest := []) (L0 := [(0, .ref 60), (1, .int l1), (2, .int l2), (3, .int l3), (4, .long l4), (6, .int l8), (7, .int l9)]) gX12_leftBy_64.2.2.2.2.2.2.2.2.1 rfl rfl rfl rfl rfl (vok_v (ob_60 hE) rfl) rfl (hr.2.1 q l1 l2 l3 l4 l8 l9) (fun r2 => ?_)
      refine r_lstore (L2 := [(0, .ref 60), (1, .int l1), (2, .int l2), (3, .int l3), (4, .long l4), (6, .long l6), (8, .int l8), (9, .int l9), (10, .long r2.1)]) gX12_leftBy_64.2.2.2.2.2.2.2.2.2.1 rfl rfl ?_
      refine r_lload (x := r2.1) gX12_leftBy_64.2.2.2.2.2.2.2.2.2.2.1 rfl ?_
      refine r_lload (x := l6) gX12_leftBy_64.2.2.2.2.2.2.2.2.2.2.2.1 rfl ?_
      refine r_lcmp gX12_leftBy_64.2.2.2.2.2.2.2.2.2.2.2.2.1 ?_
      refine r_if_ge (t := 94) gX12_leftBy_64.2.2.2.2.2.2.2.2.2.2.2.2.2.1 rfl (fun h3 => ?_) (fun h3 => ?_)
      · exact r_sub (L' := [(0, .ref 60), (1, .int l1), (2, .int l2), (3, .int l3), (4, .long l4), (6, .long l6), (8, .int l8), (9, .int l9)]) (sub_c rfl (sub_c rfl (sub_c rfl (sub_c rfl (sub_c rfl (sub_c rfl (sub_c rfl (sub_c rfl sub_n)))))))) (rb_X12_leftBy_94 hE n hr hrec_7 hrec_44 r2.2 l1 l2 l3 l4 l6 l8 l9)
      · refine r_lload (x := r2.1) gX12_leftBy_64.2.2.2.2.2.2.2.2.2.2.2.2.2.2.1 rfl ?_
        refine r_lstore (L2 := [(0, .ref 60), (1, .int l1), (2, .int l2), (3, .int l3), (4, .long l4), (6, .long r2.1), (8, .int l8), (9, .int l9), (10, .long r2.1)]) gX12_leftBy_64.2.2.2.2.2.2.2.2.2.2.2.2.2.2.2.1 rfl rfl ?_
        exact r_sub (L' := [(0, .ref 60), (1, .int l1), (2, .int l2), (3, .int l3), (4, .long l4), (6, .long r2.1), (8, .int l8), (9, .int l9)]) (sub_c rfl (sub_c rfl (sub_c rfl (sub_c rfl (sub_c rfl (sub_c rfl (sub_c rfl (sub_c rfl sub_n)))))))) (rb_X12_leftBy_94 hE n hr hrec_7 hrec_44 r2.2 l1 l2 l3 l4 r2.1 l8 l9)
def b_X12_leftBy_7 (r : GT_X12_leftBy) : SS → Int32 → Int32 → Int32 → Int64 → Int64 → Int32 → Option (Int64 × SS) :=
  fx7 (fun (rec_7 : SS → Int32 → Int32 → Int32 → Int64 → Int64 → Int32 → Option (Int64 × SS)) (q : SS) (l1 : Int32) (l2 : Int32) (l3 : Int32) (l4 : Int64) (l6 : Int64) (l8 : Int32) =>
  if (q.1 60 6) ≤ l8 then
  (some (l6, q))
  else
  (if vin l8 12 then
  if (q.1 81 l8.toNatClampNeg) = l1 then
  (if vin l8 12 then
  if (q.1 66 l8.toNatClampNeg) = (1 : Int32) then
  (b_X12_leftBy_100 r rec_7 q l1 l2 l3 l4 l6 l8)
  else
  (b_X12_leftBy_44 r rec_7 q l1 l2 l3 l4 l6 l8 (0 : Int32))
  else none)
  else
  (b_X12_leftBy_100 r rec_7 q l1 l2 l3 l4 l6 l8)
  else none)) FU
theorem rb_X12_leftBy_7 {E : EE} (hE : GE E) {r : GT_X12_leftBy} (n : Nat) (hr : GS_X12_leftBy E n r) (q : SS) (l1 : Int32) (l2 : Int32) (l3 : Int32) (l4 : Int64) (l6 : Int64) (l8 : Int32) : R E (κL E) (4 + n + 1) 249 7 [(0, .ref 60), (1, .int l1), (2, .int l2), (3, .int l3), (4, .long l4), (6, .long l6), (8, .int l8)] [] q (b_X12_leftBy_7 r q l1 l2 l3 l4 l6 l8) := by
  unfold b_X12_leftBy_7
  refine fx7_ok (P := fun q l1 l2 l3 l4 l6 l8 o => R E (κL E) (4 + n + 1) 249 7 [(0, .ref 60), (1, .int l1), (2, .int l2), (3, .int l3), (4, .long l4), (6, .long l6), (8, .int l8)] [] q o) (fun _ _ _ _ _ _ _ => r_no) (fun rec_7 hrec_7 q l1 l2 l3 l4 l6 l8 => ?_) _ _ _ _ _ _ _ _
  refine r_iload (x := l8) gX12_leftBy_0.2.2.2.2.1 rfl ?_
  refine r_aload_n (x := 60) gX12_leftBy_0.2.2.2.2.2.1 rfl ?_
  refine r_getI gX12_leftBy_0.2.2.2.2.2.2.1 (ff_12_122_60 hE) (by decide) ?_
  refine r_icmp_ge (t := 106) gX12_leftBy_0.2.2.2.2.2.2.2.1 rfl (fun h8 => ?_) (fun h8 => ?_)
  · refine r_lload (x := l6) gX12_leftBy_94.2.2.2.2.1 rfl ?_
    exact r_lreturn gX12_leftBy_94.2.2.2.2.2.1 rfl rfl
  · refine r_aload_n (x := 60) gX12_leftBy_0.2.2.2.2.2.2.2.2.1 rfl ?_
    refine r_getA gX12_leftBy_0.2.2.2.2.2.2.2.2.2.1 (fa_12_74_60 hE) ?_
    refine r_iload (x := l8) gX12_leftBy_0.2.2.2.2.2.2.2.2.2.2.1 rfl ?_
    refine r_iaload gX12_leftBy_0.2.2.2.2.2.2.2.2.2.2.2.1 (ar_81 hE) ?_
    refine r_iload_n (x := l1) gX12_leftBy_0.2.2.2.2.2.2.2.2.2.2.2.2.1 rfl ?_
    refine r_icmp_ne (t := 100) gX12_leftBy_0.2.2.2.2.2.2.2.2.2.2.2.2.2.1 rfl (fun h7 => ?_) (fun h7 => ?_)
    · refine r_aload_n (x := 60) gX12_leftBy_0.2.2.2.2.2.2.2.2.2.2.2.2.2.2.1 rfl ?_
      refine r_getA gX12_leftBy_0.2.2.2.2.2.2.2.2.2.2.2.2.2.2.2.1 (fa_12_27_60 hE) ?_
      refine r_iload (x := l8) gX12_leftBy_31.1 rfl ?_
      refine r_iaload gX12_leftBy_31.2.1 (ar_66 hE) ?_
      refine r_iconst (v := (1 : Int32)) gX12_leftBy_31.2.2.1 rfl ?_
      refine r_icmp_ne (t := 41) gX12_leftBy_31.2.2.2.1 rfl (fun h6 => ?_) (fun h6 => ?_)
      · refine r_goto (t := 100) gX12_leftBy_31.2.2.2.2.1 rfl ?_
        exact r_sub (L' := [(0, .ref 60), (1, .int l1), (2, .int l2), (3, .int l3), (4, .long l4), (6, .long l6), (8, .int l8)]) (sub_c rfl (sub_c rfl (sub_c rfl (sub_c rfl (sub_c rfl (sub_c rfl (sub_c rfl sub_n))))))) (rb_X12_leftBy_100 hE n hr hrec_7 q l1 l2 l3 l4 l6 l8)
      · refine r_iconst (v := (0 : Int32)) gX12_leftBy_31.2.2.2.2.2.1 rfl ?_
        refine r_istore (L2 := [(0, .ref 60), (1, .int l1), (2, .int l2), (3, .int l3), (4, .long l4), (6, .long l6), (8, .int l8), (9, .int (0 : Int32))]) gX12_leftBy_31.2.2.2.2.2.2.1 rfl rfl ?_
        exact r_sub (L' := [(0, .ref 60), (1, .int l1), (2, .int l2), (3, .int l3), (4, .long l4), (6, .long l6), (8, .int l8), (9, .int (0 : Int32))]) (sub_c rfl (sub_c rfl (sub_c rfl (sub_c rfl (sub_c rfl (sub_c rfl (sub_c rfl (sub_c rfl sub_n)))))))) (rb_X12_leftBy_44 hE n hr hrec_7 q l1 l2 l3 l4 l6 l8 (0 : Int32))
    · exact r_sub (L' := [(0, .ref 60), (1, .int l1), (2, .int l2), (3, .int l3), (4, .long l4), (6, .long l6), (8, .int l8)]) (sub_c rfl (sub_c rfl (sub_c rfl (sub_c rfl (sub_c rfl (sub_c rfl (sub_c rfl sub_n))))))) (rb_X12_leftBy_100 hE n hr hrec_7 q l1 l2 l3 l4 l6 l8)
def fb_X12_leftBy (r : GT_X12_leftBy) (q : SS) (a1 : Int32) (a2 : Int32) (a3 : Int32) (a4 : Int64) : Option (Int64 × SS) :=
  b_X12_leftBy_7 r q a1 a2 a3 a4 a4 (0 : Int32)
theorem eb_X12_leftBy {E : EE} (hE : GE E) {r : GT_X12_leftBy} (n : Nat) (hr : GS_X12_leftBy E n r) (q : SS) (a1 : Int32) (a2 : Int32) (a3 : Int32) (a4 : Int64) : R E (κL E) (4 + n + 1) 249 0 [(0, .ref 60), (1, .int a1), (2, .int a2), (3, .int a3), (4, .long a4)] [] q (fb_X12_leftBy r q a1 a2 a3 a4) := by
  unfold fb_X12_leftBy
  refine r_lload (x := a4) gX12_leftBy_0.1 rfl ?_
  refine r_lstore (L2 := [(0, .ref 60), (1, .int a1), (2, .int a2), (3, .int a3), (4, .long a4), (6, .long a4)]) gX12_leftBy_0.2.1 rfl rfl ?_
  refine r_iconst (v := (0 : Int32)) gX12_leftBy_0.2.2.1 rfl ?_
  refine r_istore (L2 := [(0, .ref 60), (1, .int a1), (2, .int a2), (3, .int a3), (4, .long a4), (6, .long a4), (8, .int (0 : Int32))]) gX12_leftBy_0.2.2.2.1 rfl rfl ?_
  exact r_sub (L' := [(0, .ref 60), (1, .int a1), (2, .int a2), (3, .int a3), (4, .long a4), (6, .long a4), (8, .int (0 : Int32))]) (sub_c rfl (sub_c rfl (sub_c rfl (sub_c rfl (sub_c rfl (sub_c rfl (sub_c rfl sub_n))))))) (rb_X12_leftBy_7 hE n hr q a1 a2 a3 a4 a4 (0 : Int32))
def fb_X12_slipBy (r : GT_X12_leftBy) (q : SS) (a1 : Int32) (a2 : Int32) (a3 : Int32) (a4 : Int64) (a6 : Int32) (a7 : Int32) : Option (Int64 × SS) :=
  (f_X12_onHour q a3).bind fun r1 =>
  nm (sI q 60 32 r1) fun q2 =>
  (f_X12_oddsOf q2 a6 a7).bind fun r3 =>
  if r3.1 = 0 then
  (some (a4, r3.2))
  else
  (if vin a6 12 then
  nm (sI r3.2 81 a6.toNatClampNeg a7) fun q4 =>
  (r.2.2 q4 a1 (a2 - (1 : Int32)) (a3 + (1 : Int32))).bind fun r5 =>
  nm (((r3.1.toInt64) * r5.1) + ((((12 : Int32) - r3.1).toInt64) * (a4 / (12 : Int64)))) fun v6 =>
  if vin a6 12 then
  nm (sI r5.2 81 a6.toNatClampNeg a1) fun q7 =>
  some (v6, q7)
  else none
  else none)
theorem eb_X12_slipBy {E : EE} (hE : GE E) {r : GT_X12_leftBy} (n : Nat) (hr : GS_X12_leftBy E n r) (q : SS) (a1 : Int32) (a2 : Int32) (a3 : Int32) (a4 : Int64) (a6 : Int32) (a7 : Int32) : R E (κL E) (4 + n + 1) 250 0 [(0, .ref 60), (1, .int a1), (2, .int a2), (3, .int a3), (4, .long a4), (6, .int a6), (7, .int a7)] [] q (fb_X12_slipBy r q a1 a2 a3 a4 a6 a7) := by
  unfold fb_X12_slipBy
  refine r_aload_n (x := 60) gX12_slipBy_0.1 rfl ?_
  refine r_aload_n (x := 60) gX12_slipBy_0.2.1 rfl ?_
  refine r_iload_n (x := a3) gX12_slipBy_0.2.2.1 rfl ?_
  refine r_calli (k := 0) (idx := 299) (y := 248) (as := [.ref 60, .int a3]) (rest := [.ref 60]) (L0 := [(0, .ref 60), (1, .int a3)]) gX12_slipBy_0.2.2.2.1 rfl rfl rfl rfl rfl (vok_v (ob_60 hE) rfl) rfl (r_dep (by omega) (e_X12_onHour hE q a3)) (fun r1 => ?_)
  refine r_putI gX12_slipBy_0.2.2.2.2.1 (ff_12_248_60 hE) ?_
  refine r_nmS fun q2 _ => ?_
  refine r_aload_n (x := 60) gX12_slipBy_0.2.2.2.2.2.1 rfl ?_
  refine r_iload (x := a6) gX12_slipBy_0.2.2.2.2.2.2.1 rfl ?_
  refine r_iload (x := a7) gX12_slipBy_0.2.2.2.2.2.2.2.1 rfl ?_
  refine r_callI (k := 0) (idx := 260) (y := 231) (as := [.ref 60, .int a6, .int a7]) (rest := []) (L0 := [(0, .ref 60), (1, .int a6), (2, .int a7)]) gX12_slipBy_0.2.2.2.2.2.2.2.2.1 rfl rfl rfl rfl rfl (vok_v (ob_60 hE) rfl) rfl (r_dep (by omega) (e_X12_oddsOf hE q2 a6 a7)) (fun r3 => ?_)
  refine r_istore (L2 := [(0, .ref 60), (1, .int a1), (2, .int a2), (3, .int a3), (4, .long a4), (6, .int a6), (7, .int a7), (8, .int r3.1)]) gX12_slipBy_0.2.2.2.2.2.2.2.2.2.1 rfl rfl ?_
  refine r_iload (x := r3.1) gX12_slipBy_0.2.2.2.2.2.2.2.2.2.2.1 rfl ?_
  refine r_if_ne (t := 27) gX12_slipBy_0.2.2.2.2.2.2.2.2.2.2.2.1 rfl (fun h8 => ?_) (fun h8 => ?_)
  · refine r_lload (x := a4) gX12_slipBy_0.2.2.2.2.2.2.2.2.2.2.2.2.1 rfl ?_
    exact r_lreturn gX12_slipBy_0.2.2.2.2.2.2.2.2.2.2.2.2.2.1 rfl rfl
  · refine r_aload_n (x := 60) gX12_slipBy_0.2.2.2.2.2.2.2.2.2.2.2.2.2.2.1 rfl ?_
    refine r_getA gX12_slipBy_0.2.2.2.2.2.2.2.2.2.2.2.2.2.2.2.1 (fa_12_74_60 hE) ?_
    refine r_iload (x := a6) gX12_slipBy_31.1 rfl ?_
    refine r_iload (x := a7) gX12_slipBy_31.2.1 rfl ?_
    refine r_iastore gX12_slipBy_31.2.2.1 (ar_81 hE) ?_
    refine r_nmS fun q4 _ => ?_
    refine r_iload (x := r3.1) gX12_slipBy_31.2.2.2.1 rfl ?_
    refine r_i2l gX12_slipBy_31.2.2.2.2.1 ?_
    refine r_aload_n (x := 60) gX12_slipBy_31.2.2.2.2.2.1 rfl ?_
    refine r_iload_n (x := a1) gX12_slipBy_31.2.2.2.2.2.2.1 rfl ?_
    refine r_iload_n (x := a2) gX12_slipBy_31.2.2.2.2.2.2.2.1 rfl ?_
    refine r_iconst (v := (1 : Int32)) gX12_slipBy_31.2.2.2.2.2.2.2.2.1 rfl ?_
    refine r_isub gX12_slipBy_31.2.2.2.2.2.2.2.2.2.1 ?_
    refine r_iload_n (x := a3) gX12_slipBy_31.2.2.2.2.2.2.2.2.2.2.1 rfl ?_
    refine r_iconst (v := (1 : Int32)) gX12_slipBy_31.2.2.2.2.2.2.2.2.2.2.2.1 rfl ?_
    refine r_iadd gX12_slipBy_31.2.2.2.2.2.2.2.2.2.2.2.2.1 ?_
    refine r_callL (k := 0) (idx := 302) (y := 251) (as := [.ref 60, .int a1, .int (a2 - (1 : Int32)), .int (a3 + (1 : Int32))]) (rest := [.long (r3.1.toInt64)]) (L0 := [(0, .ref 60), (1, .int a1), (2, .int (a2 - (1 : Int32))), (3, .int (a3 + (1 : Int32)))]) gX12_slipBy_31.2.2.2.2.2.2.2.2.2.2.2.2.2.1 rfl rfl rfl rfl rfl (vok_v (ob_60 hE) rfl) rfl (hr.2.2 q4 a1 (a2 - (1 : Int32)) (a3 + (1 : Int32))) (fun r5 => ?_)
    refine r_lmul gX12_slipBy_31.2.2.2.2.2.2.2.2.2.2.2.2.2.2.1 ?_
    refine r_bipush (v := (12 : Int32)) gX12_slipBy_31.2.2.2.2.2.2.2.2.2.2.2.2.2.2.2.1 rfl ?_
    refine r_iload (x := r3.1) gX12_slipBy_53.1 rfl ?_
    refine r_isub gX12_slipBy_53.2.1 ?_
    refine r_i2l gX12_slipBy_53.2.2.1 ?_
    refine r_lload (x := a4) gX12_slipBy_53.2.2.2.1 rfl ?_
    refine r_ldc2 (v := (12 : Int64)) gX12_slipBy_53.2.2.2.2.1 rfl ?_
    refine r_ldivC gX12_slipBy_53.2.2.2.2.2.1 (by decide) ?_
    refine r_lmul gX12_slipBy_53.2.2.2.2.2.2.1 ?_
    refine r_ladd gX12_slipBy_53.2.2.2.2.2.2.2.1 ?_
    refine r_nmL fun v6 _ => ?_
    refine r_lstore (L2 := [(0, .ref 60), (1, .int a1), (2, .int a2), (3, .int a3), (4, .long a4), (6, .int a6), (7, .int a7), (8, .int r3.1), (9, .long v6)]) gX12_slipBy_53.2.2.2.2.2.2.2.2.1 rfl rfl ?_
    refine r_aload_n (x := 60) gX12_slipBy_53.2.2.2.2.2.2.2.2.2.1 rfl ?_
    refine r_getA gX12_slipBy_53.2.2.2.2.2.2.2.2.2.2.1 (fa_12_74_60 hE) ?_
    refine r_iload (x := a6) gX12_slipBy_53.2.2.2.2.2.2.2.2.2.2.2.1 rfl ?_
    refine r_iload_n (x := a1) gX12_slipBy_53.2.2.2.2.2.2.2.2.2.2.2.2.1 rfl ?_
    refine r_iastore gX12_slipBy_53.2.2.2.2.2.2.2.2.2.2.2.2.2.1 (ar_81 hE) ?_
    refine r_nmS fun q7 _ => ?_
    refine r_lload (x := v6) gX12_slipBy_53.2.2.2.2.2.2.2.2.2.2.2.2.2.2.1 rfl ?_
    exact r_lreturn gX12_slipBy_53.2.2.2.2.2.2.2.2.2.2.2.2.2.2.2.1 rfl rfl
def fb_X12_leftOf (r : GT_X12_leftBy) (q : SS) (a1 : Int32) (a2 : Int32) (a3 : Int32) : Option (Int64 × SS) :=
  if a2 = 0 then
  ((f_X12_realOf q a1).bind fun r1 =>
  some ((r1.toInt64), q))
  else
  ((r.2.2 q a1 (a2 - (1 : Int32)) (a3 + (1 : Int32))).bind fun r2 =>
  (r.1 r2.2 a1 a2 a3 ((12 : Int64) * r2.1)).bind fun r3 =>
  some (r3.1, r3.2))
theorem eb_X12_leftOf {E : EE} (hE : GE E) {r : GT_X12_leftBy} (n : Nat) (hr : GS_X12_leftBy E n r) (q : SS) (a1 : Int32) (a2 : Int32) (a3 : Int32) : R E (κL E) (4 + n + 1) 251 0 [(0, .ref 60), (1, .int a1), (2, .int a2), (3, .int a3)] [] q (fb_X12_leftOf r q a1 a2 a3) := by
  unfold fb_X12_leftOf
  refine r_iload_n (x := a2) gX12_leftOf_0.1 rfl ?_
  refine r_if_ne (t := 11) gX12_leftOf_0.2.1 rfl (fun h4 => ?_) (fun h4 => ?_)
  · refine r_aload_n (x := 60) gX12_leftOf_0.2.2.1 rfl ?_
    refine r_iload_n (x := a1) gX12_leftOf_0.2.2.2.1 rfl ?_
    refine r_calli (k := 0) (idx := 175) (y := 228) (as := [.ref 60, .int a1]) (rest := []) (L0 := [(0, .ref 60), (1, .int a1)]) gX12_leftOf_0.2.2.2.2.1 rfl rfl rfl rfl rfl (vok_v (ob_60 hE) rfl) rfl (r_dep (by omega) (e_X12_realOf hE q a1)) (fun r1 => ?_)
    refine r_i2l gX12_leftOf_0.2.2.2.2.2.1 ?_
    exact r_lreturn gX12_leftOf_0.2.2.2.2.2.2.1 rfl rfl
  · refine r_aload_n (x := 60) gX12_leftOf_0.2.2.2.2.2.2.2.1 rfl ?_
    refine r_iload_n (x := a1) gX12_leftOf_0.2.2.2.2.2.2.2.2.1 rfl ?_
    refine r_iload_n (x := a2) gX12_leftOf_0.2.2.2.2.2.2.2.2.2.1 rfl ?_
    refine r_iload_n (x := a3) gX12_leftOf_0.2.2.2.2.2.2.2.2.2.2.1 rfl ?_
    refine r_ldc2 (v := (12 : Int64)) gX12_leftOf_0.2.2.2.2.2.2.2.2.2.2.2.1 rfl ?_
    refine r_aload_n (x := 60) gX12_leftOf_0.2.2.2.2.2.2.2.2.2.2.2.2.1 rfl ?_
    refine r_iload_n (x := a1) gX12_leftOf_0.2.2.2.2.2.2.2.2.2.2.2.2.2.1 rfl ?_
    refine r_iload_n (x := a2) gX12_leftOf_0.2.2.2.2.2.2.2.2.2.2.2.2.2.2.1 rfl ?_
    refine r_iconst (v := (1 : Int32)) gX12_leftOf_0.2.2.2.2.2.2.2.2.2.2.2.2.2.2.2.1 rfl ?_
    refine r_isub gX12_leftOf_22.1 ?_
    refine r_iload_n (x := a3) gX12_leftOf_22.2.1 rfl ?_
    refine r_iconst (v := (1 : Int32)) gX12_leftOf_22.2.2.1 rfl ?_
    refine r_iadd gX12_leftOf_22.2.2.2.1 ?_
    refine r_callL (k := 0) (idx := 302) (y := 251) (as := [.ref 60, .int a1, .int (a2 - (1 : Int32)), .int (a3 + (1 : Int32))]) (rest := [.long (12 : Int64), .int a3, .int a2, .int a1, .ref 60]) (L0 := [(0, .ref 60), (1, .int a1), (2, .int (a2 - (1 : Int32))), (3, .int (a3 + (1 : Int32)))]) gX12_leftOf_22.2.2.2.2.1 rfl rfl rfl rfl rfl (vok_v (ob_60 hE) rfl) rfl (hr.2.2 q a1 (a2 - (1 : Int32)) (a3 + (1 : Int32))) (fun r2 => ?_)
    refine r_lmul gX12_leftOf_22.2.2.2.2.2.1 ?_
    refine r_callL (k := 0) (idx := 306) (y := 249) (as := [.ref 60, .int a1, .int a2, .int a3, .long ((12 : Int64) * r2.1)]) (rest := []) (L0 := [(0, .ref 60), (1, .int a1), (2, .int a2), (3, .int a3), (4, .long ((12 : Int64) * r2.1))]) gX12_leftOf_22.2.2.2.2.2.2.1 rfl rfl rfl rfl rfl (vok_v (ob_60 hE) rfl) rfl (hr.1 r2.2 a1 a2 a3 ((12 : Int64) * r2.1)) (fun r3 => ?_)
    exact r_lreturn gX12_leftOf_22.2.2.2.2.2.2.2.1 rfl rfl
def g_X12_leftBy : Nat → GT_X12_leftBy
  | 0 => (fun _ _ _ _ _ => none, fun _ _ _ _ _ _ _ => none, fun _ _ _ _ => none)
  | n + 1 => (fb_X12_leftBy (g_X12_leftBy n), fb_X12_slipBy (g_X12_leftBy n), fb_X12_leftOf (g_X12_leftBy n))
theorem gs_X12_leftBy {E : EE} (hE : GE E) : ∀ n, GS_X12_leftBy E n (g_X12_leftBy n)
  | 0 => ⟨fun _ _ _ _ _ => r_no, fun _ _ _ _ _ _ _ => r_no, fun _ _ _ _ => r_no⟩
  | n + 1 => ⟨eb_X12_leftBy hE n (gs_X12_leftBy hE n), eb_X12_slipBy hE n (gs_X12_leftBy hE n), eb_X12_leftOf hE n (gs_X12_leftBy hE n)⟩
def f_X12_leftBy : SS → Int32 → Int32 → Int32 → Int64 → Option (Int64 × SS) := (g_X12_leftBy 60).1
theorem e_X12_leftBy {E : EE} (hE : GE E) : ∀ (q : SS) (a1 : Int32) (a2 : Int32) (a3 : Int32) (a4 : Int64), R E (κL E) 64 249 0 [(0, .ref 60), (1, .int a1), (2, .int a2), (3, .int a3), (4, .long a4)] [] q (f_X12_leftBy q a1 a2 a3 a4) := (gs_X12_leftBy hE 60).1
def f_X12_slipBy : SS → Int32 → Int32 → Int32 → Int64 → Int32 → Int32 → Option (Int64 × SS) := (g_X12_leftBy 60).2.1
theorem e_X12_slipBy {E : EE} (hE : GE E) : ∀ (q : SS) (a1 : Int32) (a2 : Int32) (a3 : Int32) (a4 : Int64) (a6 : Int32) (a7 : Int32), R E (κL E) 64 250 0 [(0, .ref 60), (1, .int a1), (2, .int a2), (3, .int a3), (4, .long a4), (6, .int a6), (7, .int a7)] [] q (f_X12_slipBy q a1 a2 a3 a4 a6 a7) := (gs_X12_leftBy hE 60).2.1
def f_X12_leftOf : SS → Int32 → Int32 → Int32 → Option (Int64 × SS) := (g_X12_leftBy 60).2.2
theorem e_X12_leftOf {E : EE} (hE : GE E) : ∀ (q : SS) (a1 : Int32) (a2 : Int32) (a3 : Int32), R E (κL E) 64 251 0 [(0, .ref 60), (1, .int a1), (2, .int a2), (3, .int a3)] [] q (f_X12_leftOf q a1 a2 a3) := (gs_X12_leftBy hE 60).2.2
def b_X12_first_157 (rec_67 : SS → Int32 → Int32 → Int64 → Int64 → Int32 → Option (Int32 × SS)) (q : SS) (l1 : Int32) (l2 : Int32) (l3 : Int64) (l5 : Int64) (l7 : Int32) : Option (Int32 × SS) :=
  rec_67 q l1 l2 l3 l5 (l7 + (1 : Int32))
theorem rb_X12_first_157 {E : EE} (hE : GE E) {rec_67 : SS → Int32 → Int32 → Int64 → Int64 → Int32 → Option (Int32 × SS)} (hrec_67 : ∀ (yq : SS) (yl1 : Int32) (yl2 : Int32) (yl3 : Int64) (yl5 : Int64) (yl7 : Int32), R E (κI E) 65 253 67 [(0, .ref 60), (1, .int yl1), (2, .int yl2), (3, .long yl3), (5, .long yl5), (7, .int yl7)] [] yq (rec_67 yq yl1 yl2 yl3 yl5 yl7)) (q : SS) (l1 : Int32) (l2 : Int32) (l3 : Int64) (l5 : Int64) (l7 : Int32) : R E (κI E) 65 253 157 [(0, .ref 60), (1, .int l1), (2, .int l2), (3, .long l3), (5, .long l5), (7, .int l7)] [] q (b_X12_first_157 rec_67 q l1 l2 l3 l5 l7) := by
  unfold b_X12_first_157
  refine r_iinc (x := l7) (v := (l7 + (1 : Int32))) (L2 := [(0, .ref 60), (1, .int l1), (2, .int l2), (3, .long l3), (5, .long l5), (7, .int (l7 + (1 : Int32)))]) gX12_first_139.2.2.2.2.2.2.2.2.2.1 rfl rfl rfl rfl ?_
  refine r_goto (t := 67) gX12_first_139.2.2.2.2.2.2.2.2.2.2.1 rfl ?_
  exact r_sub (L' := [(0, .ref 60), (1, .int l1), (2, .int l2), (3, .long l3), (5, .long l5), (7, .int (l7 + (1 : Int32)))]) (sub_c rfl (sub_c rfl (sub_c rfl (sub_c rfl (sub_c rfl (sub_c rfl sub_n)))))) (hrec_67 q l1 l2 l3 l5 (l7 + (1 : Int32)))
def b_X12_first_151 (rec_67 : SS → Int32 → Int32 → Int64 → Int64 → Int32 → Option (Int32 × SS)) (rec_104 : SS → Int32 → Int32 → Int64 → Int64 → Int32 → Int32 → Option (Int32 × SS)) (q : SS) (l1 : Int32) (l2 : Int32) (l3 : Int64) (l5 : Int64) (l7 : Int32) (l8 : Int32) : Option (Int32 × SS) :=
  rec_104 q l1 l2 l3 l5 l7 (l8 + (1 : Int32))
theorem rb_X12_first_151 {E : EE} (hE : GE E) {rec_67 : SS → Int32 → Int32 → Int64 → Int64 → Int32 → Option (Int32 × SS)} (hrec_67 : ∀ (yq : SS) (yl1 : Int32) (yl2 : Int32) (yl3 : Int64) (yl5 : Int64) (yl7 : Int32), R E (κI E) 65 253 67 [(0, .ref 60), (1, .int yl1), (2, .int yl2), (3, .long yl3), (5, .long yl5), (7, .int yl7)] [] yq (rec_67 yq yl1 yl2 yl3 yl5 yl7)) {rec_104 : SS → Int32 → Int32 → Int64 → Int64 → Int32 → Int32 → Option (Int32 × SS)} (hrec_104 : ∀ (yq : SS) (yl1 : Int32) (yl2 : Int32) (yl3 : Int64) (yl5 : Int64) (yl7 : Int32) (yl8 : Int32), R E (κI E) 65 253 104 [(0, .ref 60), (1, .int yl1), (2, .int yl2), (3, .long yl3), (5, .long yl5), (7, .int yl7), (8, .int yl8)] [] yq (rec_104 yq yl1 yl2 yl3 yl5 yl7 yl8)) (q : SS) (l1 : Int32) (l2 : Int32) (l3 : Int64) (l5 : Int64) (l7 : Int32) (l8 : Int32) : R E (κI E) 65 253 151 [(0, .ref 60), (1, .int l1), (2, .int l2), (3, .long l3), (5, .long l5), (7, .int l7), (8, .int l8)] [] q (b_X12_first_151 rec_67 rec_104 q l1 l2 l3 l5 l7 l8) := by
  unfold b_X12_first_151
  refine r_iinc (x := l8) (v := (l8 + (1 : Int32))) (L2 := [(0, .ref 60), (1, .int l1), (2, .int l2), (3, .long l3), (5, .long l5), (7, .int l7), (8, .int (l8 + (1 : Int32)))]) gX12_first_139.2.2.2.2.2.2.2.1 rfl rfl rfl rfl ?_
  refine r_goto (t := 104) gX12_first_139.2.2.2.2.2.2.2.2.1 rfl ?_
  exact r_sub (L' := [(0, .ref 60), (1, .int l1), (2, .int l2), (3, .long l3), (5, .long l5), (7, .int l7), (8, .int (l8 + (1 : Int32)))]) (sub_c rfl (sub_c rfl (sub_c rfl (sub_c rfl (sub_c rfl (sub_c rfl (sub_c rfl sub_n))))))) (hrec_104 q l1 l2 l3 l5 l7 (l8 + (1 : Int32)))
def b_X12_first_104 (rec_67 : SS → Int32 → Int32 → Int64 → Int64 → Int32 → Option (Int32 × SS)) : SS → Int32 → Int32 → Int64 → Int64 → Int32 → Int32 → Option (Int32 × SS) :=
  fx7 (fun (rec_104 : SS → Int32 → Int32 → Int64 → Int64 → Int32 → Int32 → Option (Int32 × SS)) (q : SS) (l1 : Int32) (l2 : Int32) (l3 : Int64) (l5 : Int64) (l7 : Int32) (l8 : Int32) =>
  if (q.1 60 1) ≤ l8 then
  (b_X12_first_157 rec_67 q l1 l2 l3 l5 l7)
  else
  ((f_X12_maySlip q l7 l8).bind fun r7 =>
  if r7 = 0 then
  (b_X12_first_151 rec_67 rec_104 q l1 l2 l3 l5 l7 l8)
  else
  ((f_X12_slipBy q l1 l2 (0 : Int32) l3 l7 l8).bind fun r8 =>
  if (lg_cmp r8.1 l5) = 0 then
  (some ((((8 : Int32) * l7) + l8), r8.2))
  else
  (b_X12_first_151 rec_67 rec_104 r8.2 l1 l2 l3 l5 l7 l8)))) FU
theorem rb_X12_first_104 {E : EE} (hE : GE E) {rec_67 : SS → Int32 → Int32 → Int64 → Int64 → Int32 → Option (Int32 × SS)} (hrec_67 : ∀ (yq : SS) (yl1 : Int32) (yl2 : Int32) (yl3 : Int64) (yl5 : Int64) (yl7 : Int32), R E (κI E) 65 253 67 [(0, .ref 60), (1, .int yl1), (2, .int yl2), (3, .long yl3), (5, .long yl5), (7, .int yl7)] [] yq (rec_67 yq yl1 yl2 yl3 yl5 yl7)) (q : SS) (l1 : Int32) (l2 : Int32) (l3 : Int64) (l5 : Int64) (l7 : Int32) (l8 : Int32) : R E (κI E) 65 253 104 [(0, .ref 60), (1, .int l1), (2, .int l2), (3, .long l3), (5, .long l5), (7, .int l7), (8, .int l8)] [] q (b_X12_first_104 rec_67 q l1 l2 l3 l5 l7 l8) := by
  unfold b_X12_first_104
  refine fx7_ok (P := fun q l1 l2 l3 l5 l7 l8 o => R E (κI E) 65 253 104 [(0, .ref 60), (1, .int l1), (2, .int l2), (3, .long l3), (5, .long l5), (7, .int l7), (8, .int l8)] [] q o) (fun _ _ _ _ _ _ _ => r_no) (fun rec_104 hrec_104 q l1 l2 l3 l5 l7 l8 => ?_) _ _ _ _ _ _ _ _
  refine r_iload (x := l8) gX12_first_80.2.2.2.2.2.2.2.2.2.2.2.2.2.1 rfl ?_
  refine r_aload_n (x := 60) gX12_first_80.2.2.2.2.2.2.2.2.2.2.2.2.2.2.1 rfl ?_
  refine r_getI gX12_first_80.2.2.2.2.2.2.2.2.2.2.2.2.2.2.2.1 (ff_12_115_60 hE) (by decide) ?_
  refine r_icmp_ge (t := 157) gX12_first_110.1 rfl (fun h11 => ?_) (fun h11 => ?_)
  · exact r_sub (L' := [(0, .ref 60), (1, .int l1), (2, .int l2), (3, .long l3), (5, .long l5), (7, .int l7)]) (sub_c rfl (sub_c rfl (sub_c rfl (sub_c rfl (sub_c rfl (sub_c rfl sub_n)))))) (rb_X12_first_157 hE hrec_67 q l1 l2 l3 l5 l7)
  · refine r_aload_n (x := 60) gX12_first_110.2.1 rfl ?_
    refine r_iload (x := l7) gX12_first_110.2.2.1 rfl ?_
    refine r_iload (x := l8) gX12_first_110.2.2.2.1 rfl ?_
    refine r_calli (k := 0) (idx := 251) (y := 230) (as := [.ref 60, .int l7, .int l8]) (rest := []) (L0 := [(0, .ref 60), (1, .int l7), (2, .int l8)]) gX12_first_110.2.2.2.2.1 rfl rfl rfl rfl rfl (vok_v (ob_60 hE) rfl) rfl (r_dep (by decide) (e_X12_maySlip hE q l7 l8)) (fun r7 => ?_)
    refine r_if_eq (t := 151) gX12_first_110.2.2.2.2.2.1 rfl (fun h10 => ?_) (fun h10 => ?_)
    · exact r_sub (L' := [(0, .ref 60), (1, .int l1), (2, .int l2), (3, .long l3), (5, .long l5), (7, .int l7), (8, .int l8)]) (sub_c rfl (sub_c rfl (sub_c rfl (sub_c rfl (sub_c rfl (sub_c rfl (sub_c rfl sub_n))))))) (rb_X12_first_151 hE hrec_67 hrec_104 q l1 l2 l3 l5 l7 l8)
    · refine r_aload_n (x := 60) gX12_first_110.2.2.2.2.2.2.1 rfl ?_
      refine r_iload_n (x := l1) gX12_first_110.2.2.2.2.2.2.2.1 rfl ?_
      refine r_iload_n (x := l2) gX12_first_110.2.2.2.2.2.2.2.2.1 rfl ?_
      refine r_iconst (v := (0 : Int32)) gX12_first_110.2.2.2.2.2.2.2.2.2.1 rfl ?_
      refine r_lload_n (x := l3) gX12_first_110.2.2.2.2.2.2.2.2.2.2.1 rfl ?_
      refine r_iload (x := l7) gX12_first_110.2.2.2.2.2.2.2.2.2.2.2.1 rfl ?_
      refine r_iload (x := l8) gX12_first_110.2.2.2.2.2.2.2.2.2.2.2.2.1 rfl ?_
      refine r_callL (k := 0) (idx := 295) (y := 250) (as := [.ref 60, .int l1, .int l2, .int (0 : Int32), .long l3, .int l7, .int l8]) (rest := []) (L0 := [(0, .ref 60), (1, .int l1), (2, .int l2), (3, .int (0 : Int32)), (4, .long l3), (6, .int l7), (7, .int l8)]) gX12_first_110.2.2.2.2.2.2.2.2.2.2.2.2.2.1 rfl rfl rfl rfl rfl (vok_v (ob_60 hE) rfl) rfl (r_dep (by decide) (e_X12_slipBy hE q l1 l2 (0 : Int32) l3 l7 l8)) (fun r8 => ?_)
      refine r_lload (x := l5) gX12_first_110.2.2.2.2.2.2.2.2.2.2.2.2.2.2.1 rfl ?_
      refine r_lcmp gX12_first_110.2.2.2.2.2.2.2.2.2.2.2.2.2.2.2.1 ?_
      refine r_if_ne (t := 151) gX12_first_139.1 rfl (fun h9 => ?_) (fun h9 => ?_)
      · refine r_bipush (v := (8 : Int32)) gX12_first_139.2.1 rfl ?_
        refine r_iload (x := l7) gX12_first_139.2.2.1 rfl ?_
        refine r_imul gX12_first_139.2.2.2.1 ?_
        refine r_iload (x := l8) gX12_first_139.2.2.2.2.1 rfl ?_
        refine r_iadd gX12_first_139.2.2.2.2.2.1 ?_
        exact r_ireturn gX12_first_139.2.2.2.2.2.2.1 rfl rfl
      · exact r_sub (L' := [(0, .ref 60), (1, .int l1), (2, .int l2), (3, .long l3), (5, .long l5), (7, .int l7), (8, .int l8)]) (sub_c rfl (sub_c rfl (sub_c rfl (sub_c rfl (sub_c rfl (sub_c rfl (sub_c rfl sub_n))))))) (rb_X12_first_151 hE hrec_67 hrec_104 r8.2 l1 l2 l3 l5 l7 l8)
def b_X12_first_67 : SS → Int32 → Int32 → Int64 → Int64 → Int32 → Option (Int32 × SS) :=
  fx6 (fun (rec_67 : SS → Int32 → Int32 → Int64 → Int64 → Int32 → Option (Int32 × SS)) (q : SS) (l1 : Int32) (l2 : Int32) (l3 : Int64) (l5 : Int64) (l7 : Int32) =>
  if (q.1 60 6) ≤ l7 then
  (some ((-2 : Int32), q))
  else
  (if vin l7 12 then
  if (q.1 81 l7.toNatClampNeg) = l1 then
  (if vin l7 12 then
  if (q.1 66 l7.toNatClampNeg) = (1 : Int32) then
  (b_X12_first_157 rec_67 q l1 l2 l3 l5 l7)
  else
  (b_X12_first_104 rec_67 q l1 l2 l3 l5 l7 (0 : Int32))
  else none)
  else
  (b_X12_first_157 rec_67 q l1 l2 l3 l5 l7)
  else none)) FU
theorem rb_X12_first_67 {E : EE} (hE : GE E) (q : SS) (l1 : Int32) (l2 : Int32) (l3 : Int64) (l5 : Int64) (l7 : Int32) : R E (κI E) 65 253 67 [(0, .ref 60), (1, .int l1), (2, .int l2), (3, .long l3), (5, .long l5), (7, .int l7)] [] q (b_X12_first_67 q l1 l2 l3 l5 l7) := by
  unfold b_X12_first_67
  refine fx6_ok (P := fun q l1 l2 l3 l5 l7 o => R E (κI E) 65 253 67 [(0, .ref 60), (1, .int l1), (2, .int l2), (3, .long l3), (5, .long l5), (7, .int l7)] [] q o) (fun _ _ _ _ _ _ => r_no) (fun rec_67 hrec_67 q l1 l2 l3 l5 l7 => ?_) _ _ _ _ _ _ _
  refine r_iload (x := l7) gX12_first_49.2.2.2.2.2.2.2.2.2.2.1 rfl ?_
  refine r_aload_n (x := 60) gX12_first_49.2.2.2.2.2.2.2.2.2.2.2.1 rfl ?_
  refine r_getI gX12_first_49.2.2.2.2.2.2.2.2.2.2.2.2.1 (ff_12_122_60 hE) (by decide) ?_
  refine r_icmp_ge (t := 163) gX12_first_49.2.2.2.2.2.2.2.2.2.2.2.2.2.1 rfl (fun h14 => ?_) (fun h14 => ?_)
  · refine r_bipush (v := (-2 : Int32)) gX12_first_139.2.2.2.2.2.2.2.2.2.2.2.1 rfl ?_
    exact r_ireturn gX12_first_139.2.2.2.2.2.2.2.2.2.2.2.2.1 rfl rfl
  · refine r_aload_n (x := 60) gX12_first_49.2.2.2.2.2.2.2.2.2.2.2.2.2.2.1 rfl ?_
    refine r_getA gX12_first_49.2.2.2.2.2.2.2.2.2.2.2.2.2.2.2.1 (fa_12_74_60 hE) ?_
    refine r_iload (x := l7) gX12_first_80.1 rfl ?_
    refine r_iaload gX12_first_80.2.1 (ar_81 hE) ?_
    refine r_iload_n (x := l1) gX12_first_80.2.2.1 rfl ?_
    refine r_icmp_ne (t := 157) gX12_first_80.2.2.2.1 rfl (fun h13 => ?_) (fun h13 => ?_)
    · refine r_aload_n (x := 60) gX12_first_80.2.2.2.2.1 rfl ?_
      refine r_getA gX12_first_80.2.2.2.2.2.1 (fa_12_27_60 hE) ?_
      refine r_iload (x := l7) gX12_first_80.2.2.2.2.2.2.1 rfl ?_
      refine r_iaload gX12_first_80.2.2.2.2.2.2.2.1 (ar_66 hE) ?_
      refine r_iconst (v := (1 : Int32)) gX12_first_80.2.2.2.2.2.2.2.2.1 rfl ?_
      refine r_icmp_ne (t := 101) gX12_first_80.2.2.2.2.2.2.2.2.2.1 rfl (fun h12 => ?_) (fun h12 => ?_)
      · refine r_goto (t := 157) gX12_first_80.2.2.2.2.2.2.2.2.2.2.1 rfl ?_
        exact r_sub (L' := [(0, .ref 60), (1, .int l1), (2, .int l2), (3, .long l3), (5, .long l5), (7, .int l7)]) (sub_c rfl (sub_c rfl (sub_c rfl (sub_c rfl (sub_c rfl (sub_c rfl sub_n)))))) (rb_X12_first_157 hE hrec_67 q l1 l2 l3 l5 l7)
      · refine r_iconst (v := (0 : Int32)) gX12_first_80.2.2.2.2.2.2.2.2.2.2.2.1 rfl ?_
        refine r_istore (L2 := [(0, .ref 60), (1, .int l1), (2, .int l2), (3, .long l3), (5, .long l5), (7, .int l7), (8, .int (0 : Int32))]) gX12_first_80.2.2.2.2.2.2.2.2.2.2.2.2.1 rfl rfl ?_
        exact r_sub (L' := [(0, .ref 60), (1, .int l1), (2, .int l2), (3, .long l3), (5, .long l5), (7, .int l7), (8, .int (0 : Int32))]) (sub_c rfl (sub_c rfl (sub_c rfl (sub_c rfl (sub_c rfl (sub_c rfl (sub_c rfl sub_n))))))) (rb_X12_first_104 hE hrec_67 q l1 l2 l3 l5 l7 (0 : Int32))
    · exact r_sub (L' := [(0, .ref 60), (1, .int l1), (2, .int l2), (3, .long l3), (5, .long l5), (7, .int l7)]) (sub_c rfl (sub_c rfl (sub_c rfl (sub_c rfl (sub_c rfl (sub_c rfl sub_n)))))) (rb_X12_first_157 hE hrec_67 q l1 l2 l3 l5 l7)
def f_X12_first (q : SS) (a1 : Int32) (a2 : Int32) : Option (Int32 × SS) :=
  (f_X12_isOne q a1).bind fun r1 =>
  if r1 = 0 then
  (some ((-1 : Int32), q))
  else
  ((f_X12_in q a2 (0 : Int32) (3 : Int32)).bind fun r2 =>
  if r2 = 0 then
  (some ((-1 : Int32), q))
  else
  ((f_X12_layNow q).bind fun r3 =>
  if a2 = 0 then
  (some ((-2 : Int32), r3))
  else
  ((f_X12_leftOf r3 a1 (a2 - (1 : Int32)) (1 : Int32)).bind fun r4 =>
  nm ((12 : Int64) * r4.1) fun v5 =>
  (f_X12_leftBy r4.2 a1 a2 (0 : Int32) v5).bind fun r6 =>
  if (lg_cmp r6.1 v5) = 0 then
  (some ((-2 : Int32), r6.2))
  else
  (b_X12_first_67 r6.2 a1 a2 v5 r6.1 (0 : Int32)))))
theorem e_X12_first {E : EE} (hE : GE E) (q : SS) (a1 : Int32) (a2 : Int32) : R E (κI E) 65 253 0 [(0, .ref 60), (1, .int a1), (2, .int a2)] [] q (f_X12_first q a1 a2) := by
  unfold f_X12_first
  refine r_aload_n (x := 60) gX12_first_0.1 rfl ?_
  refine r_iload_n (x := a1) gX12_first_0.2.1 rfl ?_
  refine r_calli (k := 0) (idx := 125) (y := 191) (as := [.ref 60, .int a1]) (rest := []) (L0 := [(0, .ref 60), (1, .int a1)]) gX12_first_0.2.2.1 rfl rfl rfl rfl rfl (vok_v (ob_60 hE) rfl) rfl (r_dep (by decide) (e_X12_isOne hE q a1)) (fun r1 => ?_)
  refine r_if_eq (t := 17) gX12_first_0.2.2.2.1 rfl (fun h18 => ?_) (fun h18 => ?_)
  · refine r_iconst (v := (-1 : Int32)) gX12_first_0.2.2.2.2.2.2.2.2.2.1 rfl ?_
    exact r_ireturn gX12_first_0.2.2.2.2.2.2.2.2.2.2.1 rfl rfl
  · refine r_iload_n (x := a2) gX12_first_0.2.2.2.2.1 rfl ?_
    refine r_iconst (v := (0 : Int32)) gX12_first_0.2.2.2.2.2.1 rfl ?_
    refine r_iconst (v := (3 : Int32)) gX12_first_0.2.2.2.2.2.2.1 rfl ?_
    refine r_calli (k := 2) (idx := 118) (y := 189) (as := [.int a2, .int (0 : Int32), .int (3 : Int32)]) (rest := []) (L0 := [(0, .int a2), (1, .int (0 : Int32)), (2, .int (3 : Int32))]) gX12_first_0.2.2.2.2.2.2.2.1 rfl rfl rfl rfl rfl vok_s rfl (r_dep (by decide) (e_X12_in hE q a2 (0 : Int32) (3 : Int32))) (fun r2 => ?_)
    refine r_if_ne (t := 19) gX12_first_0.2.2.2.2.2.2.2.2.1 rfl (fun h17 => ?_) (fun h17 => ?_)
    · refine r_iconst (v := (-1 : Int32)) gX12_first_0.2.2.2.2.2.2.2.2.2.1 rfl ?_
      exact r_ireturn gX12_first_0.2.2.2.2.2.2.2.2.2.2.1 rfl rfl
    · refine r_aload_n (x := 60) gX12_first_0.2.2.2.2.2.2.2.2.2.2.2.1 rfl ?_
      refine r_callV (k := 0) (idx := 168) (y := 226) (as := [.ref 60]) (rest := []) (L0 := [(0, .ref 60)]) gX12_first_0.2.2.2.2.2.2.2.2.2.2.2.2.1 rfl rfl rfl rfl rfl (vok_v (ob_60 hE) rfl) rfl (r_dep (by decide) (e_X12_layNow hE q)) (fun r3 => ?_)
      refine r_iload_n (x := a2) gX12_first_0.2.2.2.2.2.2.2.2.2.2.2.2.2.1 rfl ?_
      refine r_if_ne (t := 30) gX12_first_0.2.2.2.2.2.2.2.2.2.2.2.2.2.2.1 rfl (fun h16 => ?_) (fun h16 => ?_)
      · refine r_bipush (v := (-2 : Int32)) gX12_first_0.2.2.2.2.2.2.2.2.2.2.2.2.2.2.2.1 rfl ?_
        exact r_ireturn gX12_first_29.1 rfl rfl
      · refine r_ldc2 (v := (12 : Int64)) gX12_first_29.2.1 rfl ?_
        refine r_aload_n (x := 60) gX12_first_29.2.2.1 rfl ?_
        refine r_iload_n (x := a1) gX12_first_29.2.2.2.1 rfl ?_
        refine r_iload_n (x := a2) gX12_first_29.2.2.2.2.1 rfl ?_
        refine r_iconst (v := (1 : Int32)) gX12_first_29.2.2.2.2.2.1 rfl ?_
        refine r_isub gX12_first_29.2.2.2.2.2.2.1 ?_
        refine r_iconst (v := (1 : Int32)) gX12_first_29.2.2.2.2.2.2.2.1 rfl ?_
        refine r_callL (k := 0) (idx := 302) (y := 251) (as := [.ref 60, .int a1, .int (a2 - (1 : Int32)), .int (1 : Int32)]) (rest := [.long (12 : Int64)]) (L0 := [(0, .ref 60), (1, .int a1), (2, .int (a2 - (1 : Int32))), (3, .int (1 : Int32))]) gX12_first_29.2.2.2.2.2.2.2.2.1 rfl rfl rfl rfl rfl (vok_v (ob_60 hE) rfl) rfl (r_dep (by decide) (e_X12_leftOf hE r3 a1 (a2 - (1 : Int32)) (1 : Int32))) (fun r4 => ?_)
        refine r_lmul gX12_first_29.2.2.2.2.2.2.2.2.2.1 ?_
        refine r_nmL fun v5 _ => ?_
        refine r_lstore_n (L2 := [(0, .ref 60), (1, .int a1), (2, .int a2), (3, .long v5)]) gX12_first_29.2.2.2.2.2.2.2.2.2.2.1 rfl rfl ?_
        refine r_aload_n (x := 60) gX12_first_29.2.2.2.2.2.2.2.2.2.2.2.1 rfl ?_
        refine r_iload_n (x := a1) gX12_first_29.2.2.2.2.2.2.2.2.2.2.2.2.1 rfl ?_
        refine r_iload_n (x := a2) gX12_first_29.2.2.2.2.2.2.2.2.2.2.2.2.2.1 rfl ?_
        refine r_iconst (v := (0 : Int32)) gX12_first_29.2.2.2.2.2.2.2.2.2.2.2.2.2.2.1 rfl ?_
        refine r_lload_n (x := v5) gX12_first_29.2.2.2.2.2.2.2.2.2.2.2.2.2.2.2.1 rfl ?_
        refine r_callL (k := 0) (idx := 306) (y := 249) (as := [.ref 60, .int a1, .int a2, .int (0 : Int32), .long v5]) (rest := []) (L0 := [(0, .ref 60), (1, .int a1), (2, .int a2), (3, .int (0 : Int32)), (4, .long v5)]) gX12_first_49.1 rfl rfl rfl rfl rfl (vok_v (ob_60 hE) rfl) rfl (r_dep (by decide) (e_X12_leftBy hE r4.2 a1 a2 (0 : Int32) v5)) (fun r6 => ?_)
        refine r_lstore (L2 := [(0, .ref 60), (1, .int a1), (2, .int a2), (3, .long v5), (5, .long r6.1)]) gX12_first_49.2.1 rfl rfl ?_
        refine r_lload (x := r6.1) gX12_first_49.2.2.1 rfl ?_
        refine r_lload_n (x := v5) gX12_first_49.2.2.2.1 rfl ?_
        refine r_lcmp gX12_first_49.2.2.2.2.1 ?_
        refine r_if_ne (t := 64) gX12_first_49.2.2.2.2.2.1 rfl (fun h15 => ?_) (fun h15 => ?_)
        · refine r_bipush (v := (-2 : Int32)) gX12_first_49.2.2.2.2.2.2.1 rfl ?_
          exact r_ireturn gX12_first_49.2.2.2.2.2.2.2.1 rfl rfl
        · refine r_iconst (v := (0 : Int32)) gX12_first_49.2.2.2.2.2.2.2.2.1 rfl ?_
          refine r_istore (L2 := [(0, .ref 60), (1, .int a1), (2, .int a2), (3, .long v5), (5, .long r6.1), (7, .int (0 : Int32))]) gX12_first_49.2.2.2.2.2.2.2.2.2.1 rfl rfl ?_
          exact r_sub (L' := [(0, .ref 60), (1, .int a1), (2, .int a2), (3, .long v5), (5, .long r6.1), (7, .int (0 : Int32))]) (sub_c rfl (sub_c rfl (sub_c rfl (sub_c rfl (sub_c rfl (sub_c rfl sub_n)))))) (rb_X12_first_67 hE r6.2 a1 a2 v5 r6.1 (0 : Int32))
def b_X11_isPart_9 (q : SS)  : Option Int32 :=
  some (1 : Int32)
theorem rb_X11_isPart_9 {E : EE} (hE : GE E) (q : SS)  : R E (κi E q) 0 153 9 [] [] q (b_X11_isPart_9 q) := by
  unfold b_X11_isPart_9
  refine r_iconst (v := (1 : Int32)) gX11_isPart_0.2.2.2.2.2.1 rfl ?_
  refine r_goto (t := 14) gX11_isPart_0.2.2.2.2.2.2.1 rfl ?_
  exact r_ireturn gX11_isPart_0.2.2.2.2.2.2.2.2.1 rfl rfl
def f_X11_isPart (q : SS) (a0 : Int32) : Option Int32 :=
  if a0 = 0 then
  (b_X11_isPart_9 q)
  else
  (if a0 = (1 : Int32) then
  (b_X11_isPart_9 q)
  else
  (some (0 : Int32)))
theorem e_X11_isPart {E : EE} (hE : GE E) (q : SS) (a0 : Int32) : R E (κi E q) 0 153 0 [(0, .int a0)] [] q (f_X11_isPart q a0) := by
  unfold f_X11_isPart
  refine r_iload_n (x := a0) gX11_isPart_0.1 rfl ?_
  refine r_if_eq (t := 9) gX11_isPart_0.2.1 rfl (fun h2 => ?_) (fun h2 => ?_)
  · exact r_sub (L' := []) sub_n (rb_X11_isPart_9 hE q)
  · refine r_iload_n (x := a0) gX11_isPart_0.2.2.1 rfl ?_
    refine r_iconst (v := (1 : Int32)) gX11_isPart_0.2.2.2.1 rfl ?_
    refine r_icmp_ne (t := 13) gX11_isPart_0.2.2.2.2.1 rfl (fun h1 => ?_) (fun h1 => ?_)
    · exact r_sub (L' := []) sub_n (rb_X11_isPart_9 hE q)
    · refine r_iconst (v := (0 : Int32)) gX11_isPart_0.2.2.2.2.2.2.2.1 rfl ?_
      exact r_ireturn gX11_isPart_0.2.2.2.2.2.2.2.2.1 rfl rfl
def f_X6_freeAtBest (q : SS)  : Option (Int32 × SS) :=
  if (q.1 42 8) = 0 then
  (some ((1 : Int32), q))
  else
  ((f_X6_best q (0 : Int32) (0 : Int32)).bind fun r1 =>
  some (r1.1, r1.2))
theorem e_X6_freeAtBest {E : EE} (hE : GE E) (q : SS)  : R E (κI E) 63 72 0 [(0, .ref 42)] [] q (f_X6_freeAtBest q) := by
  unfold f_X6_freeAtBest
  refine r_aload_n (x := 42) gX6_freeAtBest_0.1 rfl ?_
  refine r_getI gX6_freeAtBest_0.2.1 (ff_6_48_42 hE) (by decide) ?_
  refine r_if_ne (t := 11) gX6_freeAtBest_0.2.2.1 rfl (fun h2 => ?_) (fun h2 => ?_)
  · refine r_iconst (v := (1 : Int32)) gX6_freeAtBest_0.2.2.2.1 rfl ?_
    refine r_goto (t := 17) gX6_freeAtBest_0.2.2.2.2.1 rfl ?_
    exact r_ireturn gX6_freeAtBest_0.2.2.2.2.2.2.2.2.2.1 rfl rfl
  · refine r_aload_n (x := 42) gX6_freeAtBest_0.2.2.2.2.2.1 rfl ?_
    refine r_iconst (v := (0 : Int32)) gX6_freeAtBest_0.2.2.2.2.2.2.1 rfl ?_
    refine r_iconst (v := (0 : Int32)) gX6_freeAtBest_0.2.2.2.2.2.2.2.1 rfl ?_
    refine r_callI (k := 2) (idx := 102) (y := 74) (as := [.ref 42, .int (0 : Int32), .int (0 : Int32)]) (rest := []) (L0 := [(0, .ref 42), (1, .int (0 : Int32)), (2, .int (0 : Int32))]) gX6_freeAtBest_0.2.2.2.2.2.2.2.2.1 rfl rfl rfl rfl rfl vok_s rfl (r_dep (by decide) (e_X6_best hE q (0 : Int32) (0 : Int32))) (fun r1 => ?_)
    exact r_ireturn gX6_freeAtBest_0.2.2.2.2.2.2.2.2.2.1 rfl rfl
def b_X6_freeAtMost_11 (q : SS) : Int32 → Int32 → Option Int32 :=
  fx2 (fun (rec_11 : Int32 → Int32 → Option Int32) (l1 : Int32) (l2 : Int32) =>
  if (q.1 42 7) ≤ l2 then
  (some l1)
  else
  (if (q.1 42 8) ≤ 0 then
  (some l1)
  else
  (nm (l1 * (12 : Int32)) fun v2 =>
  rec_11 v2 (l2 + (1 : Int32))))) FU
theorem rb_X6_freeAtMost_11 {E : EE} (hE : GE E) (q : SS) (l1 : Int32) (l2 : Int32) : R E (κi E q) 1 73 11 [(0, .ref 42), (1, .int l1), (2, .int l2)] [] q (b_X6_freeAtMost_11 q l1 l2) := by
  unfold b_X6_freeAtMost_11
  refine fx2_ok (P := fun l1 l2 o => R E (κi E q) 1 73 11 [(0, .ref 42), (1, .int l1), (2, .int l2)] [] q o) (fun _ _ => r_no) (fun rec_11 hrec_11 l1 l2 => ?_) _ _ _
  refine r_iload_n (x := l2) gX6_freeAtMost_0.2.2.2.2.2.2.2.1 rfl ?_
  refine r_aload_n (x := 42) gX6_freeAtMost_0.2.2.2.2.2.2.2.2.1 rfl ?_
  refine r_getI gX6_freeAtMost_0.2.2.2.2.2.2.2.2.2.1 (ff_6_41_42 hE) (by decide) ?_
  refine r_icmp_ge (t := 37) gX6_freeAtMost_0.2.2.2.2.2.2.2.2.2.2.1 rfl (fun h4 => ?_) (fun h4 => ?_)
  · refine r_iload_n (x := l1) gX6_freeAtMost_29.2.2.2.2.1 rfl ?_
    exact r_ireturn gX6_freeAtMost_29.2.2.2.2.2.1 rfl rfl
  · refine r_aload_n (x := 42) gX6_freeAtMost_0.2.2.2.2.2.2.2.2.2.2.2.1 rfl ?_
    refine r_getI gX6_freeAtMost_0.2.2.2.2.2.2.2.2.2.2.2.2.1 (ff_6_48_42 hE) (by decide) ?_
    refine r_if_le (t := 37) gX6_freeAtMost_0.2.2.2.2.2.2.2.2.2.2.2.2.2.1 rfl (fun h3 => ?_) (fun h3 => ?_)
    · refine r_iload_n (x := l1) gX6_freeAtMost_29.2.2.2.2.1 rfl ?_
      exact r_ireturn gX6_freeAtMost_29.2.2.2.2.2.1 rfl rfl
    · refine r_iload_n (x := l1) gX6_freeAtMost_0.2.2.2.2.2.2.2.2.2.2.2.2.2.2.1 rfl ?_
      refine r_bipush (v := (12 : Int32)) gX6_freeAtMost_0.2.2.2.2.2.2.2.2.2.2.2.2.2.2.2.1 rfl ?_
      refine r_imul gX6_freeAtMost_29.1 ?_
      refine r_nmI fun v2 _ => ?_
      refine r_istore_n (L2 := [(0, .ref 42), (1, .int v2), (2, .int l2)]) gX6_freeAtMost_29.2.1 rfl rfl ?_
      refine r_iinc (x := l2) (v := (l2 + (1 : Int32))) (L2 := [(0, .ref 42), (1, .int v2), (2, .int (l2 + (1 : Int32)))]) gX6_freeAtMost_29.2.2.1 rfl rfl rfl rfl ?_
      refine r_goto (t := 11) gX6_freeAtMost_29.2.2.2.1 rfl ?_
      exact r_sub (L' := [(0, .ref 42), (1, .int v2), (2, .int (l2 + (1 : Int32)))]) (sub_c rfl (sub_c rfl (sub_c rfl sub_n))) (hrec_11 v2 (l2 + (1 : Int32)))
def f_X6_freeAtMost (q : SS)  : Option Int32 :=
  nm (jmax (1 : Int32) (q.1 42 8)) fun v1 =>
  b_X6_freeAtMost_11 q v1 (0 : Int32)
theorem e_X6_freeAtMost {E : EE} (hE : GE E) (q : SS)  : R E (κi E q) 1 73 0 [(0, .ref 42)] [] q (f_X6_freeAtMost q) := by
  unfold f_X6_freeAtMost
  refine r_iconst (v := (1 : Int32)) gX6_freeAtMost_0.1 rfl ?_
  refine r_aload_n (x := 42) gX6_freeAtMost_0.2.1 rfl ?_
  refine r_getI gX6_freeAtMost_0.2.2.1 (ff_6_48_42 hE) (by decide) ?_
  refine r_mm (j := 0) (v := (jmax (1 : Int32) (q.1 42 8))) gX6_freeAtMost_0.2.2.2.1 ⟨rfl, rfl, rfl, rfl⟩ rfl rfl ?_
  refine r_nmI fun v1 _ => ?_
  refine r_istore_n (L2 := [(0, .ref 42), (1, .int v1)]) gX6_freeAtMost_0.2.2.2.2.1 rfl rfl ?_
  refine r_iconst (v := (0 : Int32)) gX6_freeAtMost_0.2.2.2.2.2.1 rfl ?_
  refine r_istore_n (L2 := [(0, .ref 42), (1, .int v1), (2, .int (0 : Int32))]) gX6_freeAtMost_0.2.2.2.2.2.2.1 rfl rfl ?_
  exact r_sub (L' := [(0, .ref 42), (1, .int v1), (2, .int (0 : Int32))]) (sub_c rfl (sub_c rfl (sub_c rfl sub_n))) (rb_X6_freeAtMost_11 hE q v1 (0 : Int32))
def b_X11_partOf_61 (q : SS) (l0 : Int64) (l2 : Int64) (l4 : Int32) (l5 : Int64) : Option Int64 :=
  if (lg_cmp l5 (0 : Int64)) = 0 then
  (some (l4.toInt64))
  else
  (if l4 = 0 then
  (if l5 = 0 then none else
  some (l0 / l5))
  else
  (if l5 = 0 then none else
  some (l2 / l5)))
theorem rb_X11_partOf_61 {E : EE} (hE : GE E) (q : SS) (l0 : Int64) (l2 : Int64) (l4 : Int32) (l5 : Int64) : R E (κl E q) 0 154 61 [(0, .long l0), (2, .long l2), (4, .int l4), (5, .long l5)] [] q (b_X11_partOf_61 q l0 l2 l4 l5) := by
  unfold b_X11_partOf_61
  refine r_lload (x := l5) gX11_partOf_55.2.2.1 rfl ?_
  refine r_lconst (v := (0 : Int64)) gX11_partOf_55.2.2.2.1 rfl ?_
  refine r_lcmp gX11_partOf_55.2.2.2.2.1 ?_
  refine r_if_ne (t := 72) gX11_partOf_55.2.2.2.2.2.1 rfl (fun h2 => ?_) (fun h2 => ?_)
  · refine r_iload (x := l4) gX11_partOf_55.2.2.2.2.2.2.1 rfl ?_
    refine r_i2l gX11_partOf_55.2.2.2.2.2.2.2.1 ?_
    exact r_lreturn gX11_partOf_55.2.2.2.2.2.2.2.2.1 rfl rfl
  · refine r_iload (x := l4) gX11_partOf_55.2.2.2.2.2.2.2.2.2.1 rfl ?_
    refine r_if_ne (t := 81) gX11_partOf_55.2.2.2.2.2.2.2.2.2.2.1 rfl (fun h1 => ?_) (fun h1 => ?_)
    · refine r_lload_n (x := l0) gX11_partOf_55.2.2.2.2.2.2.2.2.2.2.2.1 rfl ?_
      refine r_goto (t := 82) gX11_partOf_55.2.2.2.2.2.2.2.2.2.2.2.2.1 rfl ?_
      refine r_lload (x := l5) gX11_partOf_55.2.2.2.2.2.2.2.2.2.2.2.2.2.2.1 rfl ?_
      refine r_ldiv gX11_partOf_55.2.2.2.2.2.2.2.2.2.2.2.2.2.2.2.1 ?_
      exact r_lreturn gX11_partOf_85.1 rfl rfl
    · refine r_lload_n (x := l2) gX11_partOf_55.2.2.2.2.2.2.2.2.2.2.2.2.2.1 rfl ?_
      refine r_lload (x := l5) gX11_partOf_55.2.2.2.2.2.2.2.2.2.2.2.2.2.2.1 rfl ?_
      refine r_ldiv gX11_partOf_55.2.2.2.2.2.2.2.2.2.2.2.2.2.2.2.1 ?_
      exact r_lreturn gX11_partOf_85.1 rfl rfl
def b_X11_partOf_25 (q : SS) : Int64 → Int64 → Int32 → Int64 → Int64 → Int32 → Option Int64 :=
  fx6 (fun (rec_25 : Int64 → Int64 → Int32 → Int64 → Int64 → Int32 → Option Int64) (l0 : Int64) (l2 : Int64) (l4 : Int32) (l5 : Int64) (l7 : Int64) (l9 : Int32) =>
  if (200 : Int32) ≤ l9 then
  (b_X11_partOf_61 q l0 l2 l4 l5)
  else
  (if (lg_cmp l7 (0 : Int64)) = 0 then
  (b_X11_partOf_61 q l0 l2 l4 l5)
  else
  (if l7 = 0 then none else
  nm (jlrem l5 l7) fun v3 =>
  rec_25 l0 l2 l4 l7 v3 (l9 + (1 : Int32))))) FU
theorem rb_X11_partOf_25 {E : EE} (hE : GE E) (q : SS) (l0 : Int64) (l2 : Int64) (l4 : Int32) (l5 : Int64) (l7 : Int64) (l9 : Int32) : R E (κl E q) 0 154 25 [(0, .long l0), (2, .long l2), (4, .int l4), (5, .long l5), (7, .long l7), (9, .int l9)] [] q (b_X11_partOf_25 q l0 l2 l4 l5 l7 l9) := by
  unfold b_X11_partOf_25
  refine fx6_ok (P := fun l0 l2 l4 l5 l7 l9 o => R E (κl E q) 0 154 25 [(0, .long l0), (2, .long l2), (4, .int l4), (5, .long l5), (7, .long l7), (9, .int l9)] [] q o) (fun _ _ _ _ _ _ => r_no) (fun rec_25 hrec_25 l0 l2 l4 l5 l7 l9 => ?_) _ _ _ _ _ _ _
  refine r_iload (x := l9) gX11_partOf_23.2.1 rfl ?_
  refine r_sipush (v := (200 : Int32)) gX11_partOf_23.2.2.1 rfl ?_
  refine r_icmp_ge (t := 61) gX11_partOf_23.2.2.2.1 rfl (fun h5 => ?_) (fun h5 => ?_)
  · exact r_sub (L' := [(0, .long l0), (2, .long l2), (4, .int l4), (5, .long l5)]) (sub_c rfl (sub_c rfl (sub_c rfl (sub_c rfl sub_n)))) (rb_X11_partOf_61 hE q l0 l2 l4 l5)
  · refine r_lload (x := l7) gX11_partOf_23.2.2.2.2.1 rfl ?_
    refine r_lconst (v := (0 : Int64)) gX11_partOf_23.2.2.2.2.2.1 rfl ?_
    refine r_lcmp gX11_partOf_23.2.2.2.2.2.2.1 ?_
    refine r_if_eq (t := 61) gX11_partOf_23.2.2.2.2.2.2.2.1 rfl (fun h4 => ?_) (fun h4 => ?_)
    · exact r_sub (L' := [(0, .long l0), (2, .long l2), (4, .int l4), (5, .long l5)]) (sub_c rfl (sub_c rfl (sub_c rfl (sub_c rfl sub_n)))) (rb_X11_partOf_61 hE q l0 l2 l4 l5)
    · refine r_lload (x := l5) gX11_partOf_23.2.2.2.2.2.2.2.2.1 rfl ?_
      refine r_lload (x := l7) gX11_partOf_23.2.2.2.2.2.2.2.2.2.1 rfl ?_
      refine r_lrem gX11_partOf_23.2.2.2.2.2.2.2.2.2.2.1 ?_
      refine r_nmL fun v3 _ => ?_
      refine r_lstore (L2 := [(0, .long l0), (2, .long l2), (4, .int l4), (5, .long l5), (7, .long l7), (9, .int l9), (10, .long v3)]) gX11_partOf_23.2.2.2.2.2.2.2.2.2.2.2.1 rfl rfl ?_
      refine r_lload (x := l7) gX11_partOf_23.2.2.2.2.2.2.2.2.2.2.2.2.1 rfl ?_
      refine r_lstore (L2 := [(0, .long l0), (2, .long l2), (4, .int l4), (5, .long l7), (7, .long l7), (9, .int l9), (10, .long v3)]) gX11_partOf_23.2.2.2.2.2.2.2.2.2.2.2.2.2.1 rfl rfl ?_
      refine r_lload (x := v3) gX11_partOf_23.2.2.2.2.2.2.2.2.2.2.2.2.2.2.1 rfl ?_
      refine r_lstore (L2 := [(0, .long l0), (2, .long l2), (4, .int l4), (5, .long l7), (7, .long v3), (9, .int l9), (10, .long v3)]) gX11_partOf_23.2.2.2.2.2.2.2.2.2.2.2.2.2.2.2.1 rfl rfl ?_
      refine r_iinc (x := l9) (v := (l9 + (1 : Int32))) (L2 := [(0, .long l0), (2, .long l2), (4, .int l4), (5, .long l7), (7, .long v3), (9, .int (l9 + (1 : Int32))), (10, .long v3)]) gX11_partOf_55.1 rfl rfl rfl rfl ?_
      refine r_goto (t := 25) gX11_partOf_55.2.1 rfl ?_
      exact r_sub (L' := [(0, .long l0), (2, .long l2), (4, .int l4), (5, .long l7), (7, .long v3), (9, .int (l9 + (1 : Int32)))]) (sub_c rfl (sub_c rfl (sub_c rfl (sub_c rfl (sub_c rfl (sub_c rfl sub_n)))))) (hrec_25 l0 l2 l4 l7 v3 (l9 + (1 : Int32)))
def f_X11_partOf (q : SS) (a0 : Int64) (a2 : Int64) (a4 : Int32) : Option Int64 :=
  if (lg_cmp a0 (0 : Int64)) = 0 then
  (some (a4.toInt64))
  else
  (if (lg_cmp a2 (0 : Int64)) = 0 then
  (some (a4.toInt64))
  else
  (b_X11_partOf_25 q a0 a2 a4 a2 a0 (0 : Int32)))
theorem e_X11_partOf {E : EE} (hE : GE E) (q : SS) (a0 : Int64) (a2 : Int64) (a4 : Int32) : R E (κl E q) 0 154 0 [(0, .long a0), (2, .long a2), (4, .int a4)] [] q (f_X11_partOf q a0 a2 a4) := by
  unfold f_X11_partOf
  refine r_lload_n (x := a0) gX11_partOf_0.1 rfl ?_
  refine r_lconst (v := (0 : Int64)) gX11_partOf_0.2.1 rfl ?_
  refine r_lcmp gX11_partOf_0.2.2.1 ?_
  refine r_if_eq (t := 12) gX11_partOf_0.2.2.2.1 rfl (fun h7 => ?_) (fun h7 => ?_)
  · refine r_iload (x := a4) gX11_partOf_0.2.2.2.2.2.2.2.2.1 rfl ?_
    refine r_i2l gX11_partOf_0.2.2.2.2.2.2.2.2.2.1 ?_
    exact r_lreturn gX11_partOf_0.2.2.2.2.2.2.2.2.2.2.1 rfl rfl
  · refine r_lload_n (x := a2) gX11_partOf_0.2.2.2.2.1 rfl ?_
    refine r_lconst (v := (0 : Int64)) gX11_partOf_0.2.2.2.2.2.1 rfl ?_
    refine r_lcmp gX11_partOf_0.2.2.2.2.2.2.1 ?_
    refine r_if_ne (t := 16) gX11_partOf_0.2.2.2.2.2.2.2.1 rfl (fun h6 => ?_) (fun h6 => ?_)
    · refine r_iload (x := a4) gX11_partOf_0.2.2.2.2.2.2.2.2.1 rfl ?_
      refine r_i2l gX11_partOf_0.2.2.2.2.2.2.2.2.2.1 ?_
      exact r_lreturn gX11_partOf_0.2.2.2.2.2.2.2.2.2.2.1 rfl rfl
    · refine r_lload_n (x := a2) gX11_partOf_0.2.2.2.2.2.2.2.2.2.2.2.1 rfl ?_
      refine r_lstore (L2 := [(0, .long a0), (2, .long a2), (4, .int a4), (5, .long a2)]) gX11_partOf_0.2.2.2.2.2.2.2.2.2.2.2.2.1 rfl rfl ?_
      refine r_lload_n (x := a0) gX11_partOf_0.2.2.2.2.2.2.2.2.2.2.2.2.2.1 rfl ?_
      refine r_lstore (L2 := [(0, .long a0), (2, .long a2), (4, .int a4), (5, .long a2), (7, .long a0)]) gX11_partOf_0.2.2.2.2.2.2.2.2.2.2.2.2.2.2.1 rfl rfl ?_
      refine r_iconst (v := (0 : Int32)) gX11_partOf_0.2.2.2.2.2.2.2.2.2.2.2.2.2.2.2.1 rfl ?_
      refine r_istore (L2 := [(0, .long a0), (2, .long a2), (4, .int a4), (5, .long a2), (7, .long a0), (9, .int (0 : Int32))]) gX11_partOf_23.1 rfl rfl ?_
      exact r_sub (L' := [(0, .long a0), (2, .long a2), (4, .int a4), (5, .long a2), (7, .long a0), (9, .int (0 : Int32))]) (sub_c rfl (sub_c rfl (sub_c rfl (sub_c rfl (sub_c rfl (sub_c rfl sub_n)))))) (rb_X11_partOf_25 hE q a0 a2 a4 a2 a0 (0 : Int32))
def f_X11_rid (q : SS) (a1 : Int32) (a2 : Int32) (a3 : Int32) : Option (Int64 × SS) :=
  (f_X10_isPerson q a1).bind fun r1 =>
  if r1 = 0 then
  (some ((-9223372036854775808 : Int64), q))
  else
  (if a2 < 0 then
  (some ((-9223372036854775808 : Int64), q))
  else
  (if (3 : Int32) < a2 then
  (some ((-9223372036854775808 : Int64), q))
  else
  ((f_X11_isPart q a3).bind fun r2 =>
  if r2 = 0 then
  (some ((-9223372036854775808 : Int64), q))
  else
  ((f_X6_begin q a1 a2).bind fun r3 =>
  (f_X6_freeAtBest r3).bind fun r4 =>
  (f_X6_freeAtMost r4.2).bind fun r5 =>
  (f_X11_partOf r4.2 (r4.1.toInt64) (r5.toInt64) a3).bind fun r6 =>
  some (r6, r4.2)))))
theorem e_X11_rid {E : EE} (hE : GE E) (q : SS) (a1 : Int32) (a2 : Int32) (a3 : Int32) : R E (κL E) 64 159 0 [(0, .ref 0), (1, .int a1), (2, .int a2), (3, .int a3)] [] q (f_X11_rid q a1 a2 a3) := by
  unfold f_X11_rid
  refine r_aload_n (x := 0) gX11_rid_0.1 rfl ?_
  refine r_getA gX11_rid_0.2.1 (fa_11_10_0 hE) ?_
  refine r_iload_n (x := a1) gX11_rid_0.2.2.1 rfl ?_
  refine r_calli (k := 0) (idx := 140) (y := 128) (as := [.ref 1, .int a1]) (rest := []) (L0 := [(0, .ref 1), (1, .int a1)]) gX11_rid_0.2.2.2.1 rfl rfl rfl rfl rfl (vok_v (ob_1 hE) rfl) rfl (r_dep (by decide) (e_X10_isPerson hE q a1)) (fun r1 => ?_)
  refine r_if_eq (t := 27) gX11_rid_0.2.2.2.2.1 rfl (fun h10 => ?_) (fun h10 => ?_)
  · refine r_ldc2 (v := (-9223372036854775808 : Int64)) gX11_rid_0.2.2.2.2.2.2.2.2.2.2.2.2.2.1 rfl ?_
    exact r_lreturn gX11_rid_0.2.2.2.2.2.2.2.2.2.2.2.2.2.2.1 rfl rfl
  · refine r_iload_n (x := a2) gX11_rid_0.2.2.2.2.2.1 rfl ?_
    refine r_if_lt (t := 27) gX11_rid_0.2.2.2.2.2.2.1 rfl (fun h9 => ?_) (fun h9 => ?_)
    · refine r_ldc2 (v := (-9223372036854775808 : Int64)) gX11_rid_0.2.2.2.2.2.2.2.2.2.2.2.2.2.1 rfl ?_
      exact r_lreturn gX11_rid_0.2.2.2.2.2.2.2.2.2.2.2.2.2.2.1 rfl rfl
    · refine r_iload_n (x := a2) gX11_rid_0.2.2.2.2.2.2.2.1 rfl ?_
      refine r_iconst (v := (3 : Int32)) gX11_rid_0.2.2.2.2.2.2.2.2.1 rfl ?_
      refine r_icmp_gt (t := 27) gX11_rid_0.2.2.2.2.2.2.2.2.2.1 rfl (fun h8 => ?_) (fun h8 => ?_)
      · refine r_ldc2 (v := (-9223372036854775808 : Int64)) gX11_rid_0.2.2.2.2.2.2.2.2.2.2.2.2.2.1 rfl ?_
        exact r_lreturn gX11_rid_0.2.2.2.2.2.2.2.2.2.2.2.2.2.2.1 rfl rfl
      · refine r_iload_n (x := a3) gX11_rid_0.2.2.2.2.2.2.2.2.2.2.1 rfl ?_
        refine r_calli (k := 2) (idx := 199) (y := 153) (as := [.int a3]) (rest := []) (L0 := [(0, .int a3)]) gX11_rid_0.2.2.2.2.2.2.2.2.2.2.2.1 rfl rfl rfl rfl rfl vok_s rfl (r_dep (by decide) (e_X11_isPart hE q a3)) (fun r2 => ?_)
        refine r_if_ne (t := 31) gX11_rid_0.2.2.2.2.2.2.2.2.2.2.2.2.1 rfl (fun h7 => ?_) (fun h7 => ?_)
        · refine r_ldc2 (v := (-9223372036854775808 : Int64)) gX11_rid_0.2.2.2.2.2.2.2.2.2.2.2.2.2.1 rfl ?_
          exact r_lreturn gX11_rid_0.2.2.2.2.2.2.2.2.2.2.2.2.2.2.1 rfl rfl
        · refine r_aload_n (x := 0) gX11_rid_0.2.2.2.2.2.2.2.2.2.2.2.2.2.2.2.1 rfl ?_
          refine r_getA gX11_rid_32.1 (fa_11_67_0 hE) ?_
          refine r_iload_n (x := a1) gX11_rid_32.2.1 rfl ?_
          refine r_iload_n (x := a2) gX11_rid_32.2.2.1 rfl ?_
          refine r_callV (k := 0) (idx := 235) (y := 67) (as := [.ref 42, .int a1, .int a2]) (rest := []) (L0 := [(0, .ref 42), (1, .int a1), (2, .int a2)]) gX11_rid_32.2.2.2.1 rfl rfl rfl rfl rfl (vok_v (ob_42 hE) rfl) rfl (r_dep (by decide) (e_X6_begin hE q a1 a2)) (fun r3 => ?_)
          refine r_aload_n (x := 0) gX11_rid_32.2.2.2.2.1 rfl ?_
          refine r_getA gX11_rid_32.2.2.2.2.2.1 (fa_11_67_0 hE) ?_
          refine r_callI (k := 0) (idx := 238) (y := 72) (as := [.ref 42]) (rest := []) (L0 := [(0, .ref 42)]) gX11_rid_32.2.2.2.2.2.2.1 rfl rfl rfl rfl rfl (vok_v (ob_42 hE) rfl) rfl (r_dep (by decide) (e_X6_freeAtBest hE r3)) (fun r4 => ?_)
          refine r_i2l gX11_rid_32.2.2.2.2.2.2.2.1 ?_
          refine r_aload_n (x := 0) gX11_rid_32.2.2.2.2.2.2.2.2.1 rfl ?_
          refine r_getA gX11_rid_32.2.2.2.2.2.2.2.2.2.1 (fa_11_67_0 hE) ?_
          refine r_calli (k := 0) (idx := 241) (y := 73) (as := [.ref 42]) (rest := [.long (r4.1.toInt64)]) (L0 := [(0, .ref 42)]) gX11_rid_32.2.2.2.2.2.2.2.2.2.2.1 rfl rfl rfl rfl rfl (vok_v (ob_42 hE) rfl) rfl (r_dep (by decide) (e_X6_freeAtMost hE r4.2)) (fun r5 => ?_)
          refine r_i2l gX11_rid_32.2.2.2.2.2.2.2.2.2.2.2.1 ?_
          refine r_iload_n (x := a3) gX11_rid_32.2.2.2.2.2.2.2.2.2.2.2.2.1 rfl ?_
          refine r_calll (k := 2) (idx := 216) (y := 154) (as := [.long (r4.1.toInt64), .long (r5.toInt64), .int a3]) (rest := []) (L0 := [(0, .long (r4.1.toInt64)), (2, .long (r5.toInt64)), (4, .int a3)]) gX11_rid_32.2.2.2.2.2.2.2.2.2.2.2.2.2.1 rfl rfl rfl rfl rfl vok_s rfl (r_dep (by decide) (e_X11_partOf hE r4.2 (r4.1.toInt64) (r5.toInt64) a3)) (fun r6 => ?_)
          exact r_lreturn gX11_rid_32.2.2.2.2.2.2.2.2.2.2.2.2.2.2.1 rfl rfl
def b_X12_lowest_16 (q : SS) : Int64 → Int64 → Int32 → Int64 → Int64 → Option Int64 :=
  fx5 (fun (rec_16 : Int64 → Int64 → Int32 → Int64 → Int64 → Option Int64) (l0 : Int64) (l2 : Int64) (l4 : Int32) (l5 : Int64) (l7 : Int64) =>
  if (lg_cmp l7 (0 : Int64)) = 0 then
  (if l4 = 0 then
  (if l5 = 0 then none else
  some (l0 / l5))
  else
  (if l5 = 0 then none else
  some (l2 / l5)))
  else
  (if l7 = 0 then none else
  nm (jlrem l5 l7) fun v2 =>
  rec_16 l0 l2 l4 l7 v2)) FU
theorem rb_X12_lowest_16 {E : EE} (hE : GE E) (q : SS) (l0 : Int64) (l2 : Int64) (l4 : Int32) (l5 : Int64) (l7 : Int64) : R E (κl E q) 0 241 16 [(0, .long l0), (2, .long l2), (4, .int l4), (5, .long l5), (7, .long l7)] [] q (b_X12_lowest_16 q l0 l2 l4 l5 l7) := by
  unfold b_X12_lowest_16
  refine fx5_ok (P := fun l0 l2 l4 l5 l7 o => R E (κl E q) 0 241 16 [(0, .long l0), (2, .long l2), (4, .int l4), (5, .long l5), (7, .long l7)] [] q o) (fun _ _ _ _ _ => r_no) (fun rec_16 hrec_16 l0 l2 l4 l5 l7 => ?_) _ _ _ _ _ _
  refine r_lload (x := l7) gX12_lowest_0.2.2.2.2.2.2.2.2.2.2.2.1 rfl ?_
  refine r_lconst (v := (0 : Int64)) gX12_lowest_0.2.2.2.2.2.2.2.2.2.2.2.2.1 rfl ?_
  refine r_lcmp gX12_lowest_0.2.2.2.2.2.2.2.2.2.2.2.2.2.1 ?_
  refine r_if_eq (t := 41) gX12_lowest_0.2.2.2.2.2.2.2.2.2.2.2.2.2.2.1 rfl (fun h3 => ?_) (fun h3 => ?_)
  · refine r_iload (x := l4) gX12_lowest_25.2.2.2.2.2.2.2.2.1 rfl ?_
    refine r_if_ne (t := 53) gX12_lowest_25.2.2.2.2.2.2.2.2.2.1 rfl (fun h1 => ?_) (fun h1 => ?_)
    · refine r_lload_n (x := l0) gX12_lowest_25.2.2.2.2.2.2.2.2.2.2.1 rfl ?_
      refine r_lload (x := l5) gX12_lowest_25.2.2.2.2.2.2.2.2.2.2.2.1 rfl ?_
      refine r_ldiv gX12_lowest_25.2.2.2.2.2.2.2.2.2.2.2.2.1 ?_
      refine r_goto (t := 57) gX12_lowest_25.2.2.2.2.2.2.2.2.2.2.2.2.2.1 rfl ?_
      exact r_lreturn gX12_lowest_56.2.1 rfl rfl
    · refine r_lload_n (x := l2) gX12_lowest_25.2.2.2.2.2.2.2.2.2.2.2.2.2.2.1 rfl ?_
      refine r_lload (x := l5) gX12_lowest_25.2.2.2.2.2.2.2.2.2.2.2.2.2.2.2.1 rfl ?_
      refine r_ldiv gX12_lowest_56.1 ?_
      exact r_lreturn gX12_lowest_56.2.1 rfl rfl
  · refine r_lload (x := l5) gX12_lowest_0.2.2.2.2.2.2.2.2.2.2.2.2.2.2.2.1 rfl ?_
    refine r_lload (x := l7) gX12_lowest_25.1 rfl ?_
    refine r_lrem gX12_lowest_25.2.1 ?_
    refine r_nmL fun v2 _ => ?_
    refine r_lstore (L2 := [(0, .long l0), (2, .long l2), (4, .int l4), (5, .long l5), (7, .long l7), (9, .long v2)]) gX12_lowest_25.2.2.1 rfl rfl ?_
    refine r_lload (x := l7) gX12_lowest_25.2.2.2.1 rfl ?_
    refine r_lstore (L2 := [(0, .long l0), (2, .long l2), (4, .int l4), (5, .long l7), (7, .long l7), (9, .long v2)]) gX12_lowest_25.2.2.2.2.1 rfl rfl ?_
    refine r_lload (x := v2) gX12_lowest_25.2.2.2.2.2.1 rfl ?_
    refine r_lstore (L2 := [(0, .long l0), (2, .long l2), (4, .int l4), (5, .long l7), (7, .long v2), (9, .long v2)]) gX12_lowest_25.2.2.2.2.2.2.1 rfl rfl ?_
    refine r_goto (t := 16) gX12_lowest_25.2.2.2.2.2.2.2.1 rfl ?_
    exact r_sub (L' := [(0, .long l0), (2, .long l2), (4, .int l4), (5, .long l7), (7, .long v2)]) (sub_c rfl (sub_c rfl (sub_c rfl (sub_c rfl (sub_c rfl sub_n))))) (hrec_16 l0 l2 l4 l7 v2)
def f_X12_lowest (q : SS) (a0 : Int64) (a2 : Int64) (a4 : Int32) : Option Int64 :=
  if (lg_cmp a0 (0 : Int64)) = 0 then
  (some (a4.toInt64))
  else
  (b_X12_lowest_16 q a0 a2 a4 a0 a2)
theorem e_X12_lowest {E : EE} (hE : GE E) (q : SS) (a0 : Int64) (a2 : Int64) (a4 : Int32) : R E (κl E q) 0 241 0 [(0, .long a0), (2, .long a2), (4, .int a4)] [] q (f_X12_lowest q a0 a2 a4) := by
  unfold f_X12_lowest
  refine r_lload_n (x := a0) gX12_lowest_0.1 rfl ?_
  refine r_lconst (v := (0 : Int64)) gX12_lowest_0.2.1 rfl ?_
  refine r_lcmp gX12_lowest_0.2.2.1 ?_
  refine r_if_ne (t := 10) gX12_lowest_0.2.2.2.1 rfl (fun h4 => ?_) (fun h4 => ?_)
  · refine r_iload (x := a4) gX12_lowest_0.2.2.2.2.1 rfl ?_
    refine r_i2l gX12_lowest_0.2.2.2.2.2.1 ?_
    exact r_lreturn gX12_lowest_0.2.2.2.2.2.2.1 rfl rfl
  · refine r_lload_n (x := a0) gX12_lowest_0.2.2.2.2.2.2.2.1 rfl ?_
    refine r_lstore (L2 := [(0, .long a0), (2, .long a2), (4, .int a4), (5, .long a0)]) gX12_lowest_0.2.2.2.2.2.2.2.2.1 rfl rfl ?_
    refine r_lload_n (x := a2) gX12_lowest_0.2.2.2.2.2.2.2.2.2.1 rfl ?_
    refine r_lstore (L2 := [(0, .long a0), (2, .long a2), (4, .int a4), (5, .long a0), (7, .long a2)]) gX12_lowest_0.2.2.2.2.2.2.2.2.2.2.1 rfl rfl ?_
    exact r_sub (L' := [(0, .long a0), (2, .long a2), (4, .int a4), (5, .long a0), (7, .long a2)]) (sub_c rfl (sub_c rfl (sub_c rfl (sub_c rfl (sub_c rfl sub_n))))) (rb_X12_lowest_16 hE q a0 a2 a4 a0 a2)
def b_X12_rid_53 : SS → Int32 → Int32 → Int32 → Int64 → Int32 → Option (Int64 × SS) :=
  fx6 (fun (rec_53 : SS → Int32 → Int32 → Int32 → Int64 → Int32 → Option (Int64 × SS)) (q : SS) (l1 : Int32) (l2 : Int32) (l3 : Int32) (l4 : Int64) (l6 : Int32) =>
  if l2 ≤ l6 then
  ((f_X12_leftOf q l1 l2 (0 : Int32)).bind fun r7 =>
  (f_X12_lowest r7.2 (l4 - r7.1) l4 l3).bind fun r8 =>
  some (r8, r7.2))
  else
  (nm (l4 * (12 : Int64)) fun v9 =>
  rec_53 q l1 l2 l3 v9 (l6 + (1 : Int32)))) FU
theorem rb_X12_rid_53 {E : EE} (hE : GE E) (q : SS) (l1 : Int32) (l2 : Int32) (l3 : Int32) (l4 : Int64) (l6 : Int32) : R E (κL E) 65 252 53 [(0, .ref 60), (1, .int l1), (2, .int l2), (3, .int l3), (4, .long l4), (6, .int l6)] [] q (b_X12_rid_53 q l1 l2 l3 l4 l6) := by
  unfold b_X12_rid_53
  refine fx6_ok (P := fun q l1 l2 l3 l4 l6 o => R E (κL E) 65 252 53 [(0, .ref 60), (1, .int l1), (2, .int l2), (3, .int l3), (4, .long l4), (6, .int l6)] [] q o) (fun _ _ _ _ _ _ => r_no) (fun rec_53 hrec_53 q l1 l2 l3 l4 l6 => ?_) _ _ _ _ _ _ _
  refine r_iload (x := l6) gX12_rid_30.2.2.2.2.2.2.2.2.2.2.2.2.2.2.1 rfl ?_
  refine r_iload_n (x := l2) gX12_rid_30.2.2.2.2.2.2.2.2.2.2.2.2.2.2.2.1 rfl ?_
  refine r_icmp_ge (t := 73) gX12_rid_56.1 rfl (fun h10 => ?_) (fun h10 => ?_)
  · refine r_lload (x := l4) gX12_rid_56.2.2.2.2.2.2.2.1 rfl ?_
    refine r_aload_n (x := 60) gX12_rid_56.2.2.2.2.2.2.2.2.1 rfl ?_
    refine r_iload_n (x := l1) gX12_rid_56.2.2.2.2.2.2.2.2.2.1 rfl ?_
    refine r_iload_n (x := l2) gX12_rid_56.2.2.2.2.2.2.2.2.2.2.1 rfl ?_
    refine r_iconst (v := (0 : Int32)) gX12_rid_56.2.2.2.2.2.2.2.2.2.2.2.1 rfl ?_
    refine r_callL (k := 0) (idx := 302) (y := 251) (as := [.ref 60, .int l1, .int l2, .int (0 : Int32)]) (rest := [.long l4]) (L0 := [(0, .ref 60), (1, .int l1), (2, .int l2), (3, .int (0 : Int32))]) gX12_rid_56.2.2.2.2.2.2.2.2.2.2.2.2.1 rfl rfl rfl rfl rfl (vok_v (ob_60 hE) rfl) rfl (r_dep (by decide) (e_X12_leftOf hE q l1 l2 (0 : Int32))) (fun r7 => ?_)
    refine r_lsub gX12_rid_56.2.2.2.2.2.2.2.2.2.2.2.2.2.1 ?_
    refine r_lload (x := l4) gX12_rid_56.2.2.2.2.2.2.2.2.2.2.2.2.2.2.1 rfl ?_
    refine r_iload_n (x := l3) gX12_rid_56.2.2.2.2.2.2.2.2.2.2.2.2.2.2.2.1 rfl ?_
    refine r_calll (k := 2) (idx := 288) (y := 241) (as := [.long (l4 - r7.1), .long l4, .int l3]) (rest := []) (L0 := [(0, .long (l4 - r7.1)), (2, .long l4), (4, .int l3)]) gX12_rid_86.1 rfl rfl rfl rfl rfl vok_s rfl (r_dep (by decide) (e_X12_lowest hE r7.2 (l4 - r7.1) l4 l3)) (fun r8 => ?_)
    exact r_lreturn gX12_rid_86.2.1 rfl rfl
  · refine r_lload (x := l4) gX12_rid_56.2.1 rfl ?_
    refine r_ldc2 (v := (12 : Int64)) gX12_rid_56.2.2.1 rfl ?_
    refine r_lmul gX12_rid_56.2.2.2.1 ?_
    refine r_nmL fun v9 _ => ?_
    refine r_lstore (L2 := [(0, .ref 60), (1, .int l1), (2, .int l2), (3, .int l3), (4, .long v9), (6, .int l6)]) gX12_rid_56.2.2.2.2.1 rfl rfl ?_
    refine r_iinc (x := l6) (v := (l6 + (1 : Int32))) (L2 := [(0, .ref 60), (1, .int l1), (2, .int l2), (3, .int l3), (4, .long v9), (6, .int (l6 + (1 : Int32)))]) gX12_rid_56.2.2.2.2.2.1 rfl rfl rfl rfl ?_
    refine r_goto (t := 53) gX12_rid_56.2.2.2.2.2.2.1 rfl ?_
    exact r_sub (L' := [(0, .ref 60), (1, .int l1), (2, .int l2), (3, .int l3), (4, .long v9), (6, .int (l6 + (1 : Int32)))]) (sub_c rfl (sub_c rfl (sub_c rfl (sub_c rfl (sub_c rfl (sub_c rfl sub_n)))))) (hrec_53 q l1 l2 l3 v9 (l6 + (1 : Int32)))
def f_X12_rid (q : SS) (a1 : Int32) (a2 : Int32) (a3 : Int32) : Option (Int64 × SS) :=
  (f_X12_isOne q a1).bind fun r1 =>
  if r1 = 0 then
  (some ((-9223372036854775808 : Int64), q))
  else
  ((f_X12_in q a2 (0 : Int32) (3 : Int32)).bind fun r2 =>
  if r2 = 0 then
  (some ((-9223372036854775808 : Int64), q))
  else
  ((f_X12_in q a3 (0 : Int32) (1 : Int32)).bind fun r3 =>
  if r3 = 0 then
  (some ((-9223372036854775808 : Int64), q))
  else
  ((f_X12_layNow q).bind fun r4 =>
  (f_X12_allReal r4).bind fun r5 =>
  nm (r5.toInt64) fun v6 =>
  if (lg_cmp v6 (0 : Int64)) = 0 then
  (some ((1 : Int64), r4))
  else
  (b_X12_rid_53 r4 a1 a2 a3 v6 (0 : Int32)))))
theorem e_X12_rid {E : EE} (hE : GE E) (q : SS) (a1 : Int32) (a2 : Int32) (a3 : Int32) : R E (κL E) 65 252 0 [(0, .ref 60), (1, .int a1), (2, .int a2), (3, .int a3)] [] q (f_X12_rid q a1 a2 a3) := by
  unfold f_X12_rid
  refine r_aload_n (x := 60) gX12_rid_0.1 rfl ?_
  refine r_iload_n (x := a1) gX12_rid_0.2.1 rfl ?_
  refine r_calli (k := 0) (idx := 125) (y := 191) (as := [.ref 60, .int a1]) (rest := []) (L0 := [(0, .ref 60), (1, .int a1)]) gX12_rid_0.2.2.1 rfl rfl rfl rfl rfl (vok_v (ob_60 hE) rfl) rfl (r_dep (by decide) (e_X12_isOne hE q a1)) (fun r1 => ?_)
  refine r_if_eq (t := 26) gX12_rid_0.2.2.2.1 rfl (fun h14 => ?_) (fun h14 => ?_)
  · refine r_ldc2 (v := (-9223372036854775808 : Int64)) gX12_rid_0.2.2.2.2.2.2.2.2.2.2.2.2.2.2.1 rfl ?_
    exact r_lreturn gX12_rid_0.2.2.2.2.2.2.2.2.2.2.2.2.2.2.2.1 rfl rfl
  · refine r_iload_n (x := a2) gX12_rid_0.2.2.2.2.1 rfl ?_
    refine r_iconst (v := (0 : Int32)) gX12_rid_0.2.2.2.2.2.1 rfl ?_
    refine r_iconst (v := (3 : Int32)) gX12_rid_0.2.2.2.2.2.2.1 rfl ?_
    refine r_calli (k := 2) (idx := 118) (y := 189) (as := [.int a2, .int (0 : Int32), .int (3 : Int32)]) (rest := []) (L0 := [(0, .int a2), (1, .int (0 : Int32)), (2, .int (3 : Int32))]) gX12_rid_0.2.2.2.2.2.2.2.1 rfl rfl rfl rfl rfl vok_s rfl (r_dep (by decide) (e_X12_in hE q a2 (0 : Int32) (3 : Int32))) (fun r2 => ?_)
    refine r_if_eq (t := 26) gX12_rid_0.2.2.2.2.2.2.2.2.1 rfl (fun h13 => ?_) (fun h13 => ?_)
    · refine r_ldc2 (v := (-9223372036854775808 : Int64)) gX12_rid_0.2.2.2.2.2.2.2.2.2.2.2.2.2.2.1 rfl ?_
      exact r_lreturn gX12_rid_0.2.2.2.2.2.2.2.2.2.2.2.2.2.2.2.1 rfl rfl
    · refine r_iload_n (x := a3) gX12_rid_0.2.2.2.2.2.2.2.2.2.1 rfl ?_
      refine r_iconst (v := (0 : Int32)) gX12_rid_0.2.2.2.2.2.2.2.2.2.2.1 rfl ?_
      refine r_iconst (v := (1 : Int32)) gX12_rid_0.2.2.2.2.2.2.2.2.2.2.2.1 rfl ?_
      refine r_calli (k := 2) (idx := 118) (y := 189) (as := [.int a3, .int (0 : Int32), .int (1 : Int32)]) (rest := []) (L0 := [(0, .int a3), (1, .int (0 : Int32)), (2, .int (1 : Int32))]) gX12_rid_0.2.2.2.2.2.2.2.2.2.2.2.2.1 rfl rfl rfl rfl rfl vok_s rfl (r_dep (by decide) (e_X12_in hE q a3 (0 : Int32) (1 : Int32))) (fun r3 => ?_)
      refine r_if_ne (t := 30) gX12_rid_0.2.2.2.2.2.2.2.2.2.2.2.2.2.1 rfl (fun h12 => ?_) (fun h12 => ?_)
      · refine r_ldc2 (v := (-9223372036854775808 : Int64)) gX12_rid_0.2.2.2.2.2.2.2.2.2.2.2.2.2.2.1 rfl ?_
        exact r_lreturn gX12_rid_0.2.2.2.2.2.2.2.2.2.2.2.2.2.2.2.1 rfl rfl
      · refine r_aload_n (x := 60) gX12_rid_30.1 rfl ?_
        refine r_callV (k := 0) (idx := 168) (y := 226) (as := [.ref 60]) (rest := []) (L0 := [(0, .ref 60)]) gX12_rid_30.2.1 rfl rfl rfl rfl rfl (vok_v (ob_60 hE) rfl) rfl (r_dep (by decide) (e_X12_layNow hE q)) (fun r4 => ?_)
        refine r_aload_n (x := 60) gX12_rid_30.2.2.1 rfl ?_
        refine r_calli (k := 0) (idx := 292) (y := 229) (as := [.ref 60]) (rest := []) (L0 := [(0, .ref 60)]) gX12_rid_30.2.2.2.1 rfl rfl rfl rfl rfl (vok_v (ob_60 hE) rfl) rfl (r_dep (by decide) (e_X12_allReal hE r4)) (fun r5 => ?_)
        refine r_i2l gX12_rid_30.2.2.2.2.1 ?_
        refine r_nmL fun v6 _ => ?_
        refine r_lstore (L2 := [(0, .ref 60), (1, .int a1), (2, .int a2), (3, .int a3), (4, .long v6)]) gX12_rid_30.2.2.2.2.2.1 rfl rfl ?_
        refine r_lload (x := v6) gX12_rid_30.2.2.2.2.2.2.1 rfl ?_
        refine r_lconst (v := (0 : Int64)) gX12_rid_30.2.2.2.2.2.2.2.1 rfl ?_
        refine r_lcmp gX12_rid_30.2.2.2.2.2.2.2.2.1 ?_
        refine r_if_ne (t := 50) gX12_rid_30.2.2.2.2.2.2.2.2.2.1 rfl (fun h11 => ?_) (fun h11 => ?_)
        · refine r_lconst (v := (1 : Int64)) gX12_rid_30.2.2.2.2.2.2.2.2.2.2.1 rfl ?_
          exact r_lreturn gX12_rid_30.2.2.2.2.2.2.2.2.2.2.2.1 rfl rfl
        · refine r_iconst (v := (0 : Int32)) gX12_rid_30.2.2.2.2.2.2.2.2.2.2.2.2.1 rfl ?_
          refine r_istore (L2 := [(0, .ref 60), (1, .int a1), (2, .int a2), (3, .int a3), (4, .long v6), (6, .int (0 : Int32))]) gX12_rid_30.2.2.2.2.2.2.2.2.2.2.2.2.2.1 rfl rfl ?_
          exact r_sub (L' := [(0, .ref 60), (1, .int a1), (2, .int a2), (3, .int a3), (4, .long v6), (6, .int (0 : Int32))]) (sub_c rfl (sub_c rfl (sub_c rfl (sub_c rfl (sub_c rfl (sub_c rfl sub_n)))))) (rb_X12_rid_53 hE r4 a1 a2 a3 v6 (0 : Int32))
def b_X11_watch_92 (rec_27 : SS → Int32 → Int32 → Int32 → Int32 → Option (Int32 × SS)) (q : SS) (l1 : Int32) (l3 : Int32) (l4 : Int32) (l5 : Int32) : Option (Int32 × SS) :=
  rec_27 q l1 l3 l4 (l5 + (1 : Int32))
theorem rb_X11_watch_92 {E : EE} (hE : GE E) {rec_27 : SS → Int32 → Int32 → Int32 → Int32 → Option (Int32 × SS)} (hrec_27 : ∀ (yq : SS) (yl1 : Int32) (yl3 : Int32) (yl4 : Int32) (yl5 : Int32), R E (κI E) 5 158 27 [(0, .ref 0), (1, .int yl1), (2, .ref 24), (3, .int yl3), (4, .int yl4), (5, .int yl5)] [] yq (rec_27 yq yl1 yl3 yl4 yl5)) (q : SS) (l1 : Int32) (l3 : Int32) (l4 : Int32) (l5 : Int32) : R E (κI E) 5 158 92 [(0, .ref 0), (1, .int l1), (2, .ref 24), (3, .int l3), (4, .int l4), (5, .int l5)] [] q (b_X11_watch_92 rec_27 q l1 l3 l4 l5) := by
  unfold b_X11_watch_92
  refine r_iinc (x := l5) (v := (l5 + (1 : Int32))) (L2 := [(0, .ref 0), (1, .int l1), (2, .ref 24), (3, .int l3), (4, .int l4), (5, .int (l5 + (1 : Int32)))]) gX11_watch_92.1 rfl rfl rfl rfl ?_
  refine r_goto (t := 27) gX11_watch_92.2.1 rfl ?_
  exact r_sub (L' := [(0, .ref 0), (1, .int l1), (2, .ref 24), (3, .int l3), (4, .int l4), (5, .int (l5 + (1 : Int32)))]) (sub_c rfl (sub_c rfl (sub_c rfl (sub_c rfl (sub_c rfl (sub_c rfl sub_n)))))) (hrec_27 q l1 l3 l4 (l5 + (1 : Int32)))
def b_X11_watch_85 (rec_27 : SS → Int32 → Int32 → Int32 → Int32 → Option (Int32 × SS)) (q : SS) (l1 : Int32) (l5 : Int32) (l6 : Int32) (l7 : Int32) : Option (Int32 × SS) :=
  b_X11_watch_92 rec_27 q l1 l6 l7 l5
theorem rb_X11_watch_85 {E : EE} (hE : GE E) {rec_27 : SS → Int32 → Int32 → Int32 → Int32 → Option (Int32 × SS)} (hrec_27 : ∀ (yq : SS) (yl1 : Int32) (yl3 : Int32) (yl4 : Int32) (yl5 : Int32), R E (κI E) 5 158 27 [(0, .ref 0), (1, .int yl1), (2, .ref 24), (3, .int yl3), (4, .int yl4), (5, .int yl5)] [] yq (rec_27 yq yl1 yl3 yl4 yl5)) (q : SS) (l1 : Int32) (l5 : Int32) (l6 : Int32) (l7 : Int32) : R E (κI E) 5 158 85 [(0, .ref 0), (1, .int l1), (2, .ref 24), (5, .int l5), (6, .int l6), (7, .int l7)] [] q (b_X11_watch_85 rec_27 q l1 l5 l6 l7) := by
  unfold b_X11_watch_85
  refine r_iload (x := l6) gX11_watch_59.2.2.2.2.2.2.2.2.2.2.2.2.1 rfl ?_
  refine r_istore_n (L2 := [(0, .ref 0), (1, .int l1), (2, .ref 24), (3, .int l6), (5, .int l5), (6, .int l6), (7, .int l7)]) gX11_watch_59.2.2.2.2.2.2.2.2.2.2.2.2.2.1 rfl rfl ?_
  refine r_iload (x := l7) gX11_watch_59.2.2.2.2.2.2.2.2.2.2.2.2.2.2.1 rfl ?_
  refine r_istore (L2 := [(0, .ref 0), (1, .int l1), (2, .ref 24), (3, .int l6), (4, .int l7), (5, .int l5), (6, .int l6), (7, .int l7)]) gX11_watch_59.2.2.2.2.2.2.2.2.2.2.2.2.2.2.2.1 rfl rfl ?_
  exact r_sub (L' := [(0, .ref 0), (1, .int l1), (2, .ref 24), (3, .int l6), (4, .int l7), (5, .int l5)]) (sub_c rfl (sub_c rfl (sub_c rfl (sub_c rfl (sub_c rfl (sub_c rfl sub_n)))))) (rb_X11_watch_92 hE hrec_27 q l1 l6 l7 l5)
def b_X11_watch_27 : SS → Int32 → Int32 → Int32 → Int32 → Option (Int32 × SS) :=
  fx5 (fun (rec_27 : SS → Int32 → Int32 → Int32 → Int32 → Option (Int32 × SS)) (q : SS) (l1 : Int32) (l3 : Int32) (l4 : Int32) (l5 : Int32) =>
  (f_X10_tickets q).bind fun r3 =>
  if r3 ≤ l5 then
  (if 0 ≤ l3 then
  (some ((((100 : Int32) * l3) + l4), q))
  else
  (some ((-2 : Int32), q)))
  else
  ((f_X8_canSlip q l5 l1).bind fun r5 =>
  if r5 = 0 then
  (b_X11_watch_92 rec_27 q l1 l3 l4 l5)
  else
  ((f_X8_oddsOf q l5 l1).bind fun r6 =>
  (f_X8_holderOf r6.2 l5).bind fun r7 =>
  if l3 < r6.1 then
  (b_X11_watch_85 rec_27 r6.2 l1 l5 r6.1 r7)
  else
  (if r6.1 = l3 then
  (if l4 ≤ r7 then
  (b_X11_watch_92 rec_27 r6.2 l1 l3 l4 l5)
  else
  (b_X11_watch_85 rec_27 r6.2 l1 l5 r6.1 r7))
  else
  (b_X11_watch_92 rec_27 r6.2 l1 l3 l4 l5))))) FU
theorem rb_X11_watch_27 {E : EE} (hE : GE E) (q : SS) (l1 : Int32) (l3 : Int32) (l4 : Int32) (l5 : Int32) : R E (κI E) 5 158 27 [(0, .ref 0), (1, .int l1), (2, .ref 24), (3, .int l3), (4, .int l4), (5, .int l5)] [] q (b_X11_watch_27 q l1 l3 l4 l5) := by
  unfold b_X11_watch_27
  refine fx5_ok (P := fun q l1 l3 l4 l5 o => R E (κI E) 5 158 27 [(0, .ref 0), (1, .int l1), (2, .ref 24), (3, .int l3), (4, .int l4), (5, .int l5)] [] q o) (fun _ _ _ _ _ => r_no) (fun rec_27 hrec_27 q l1 l3 l4 l5 => ?_) _ _ _ _ _ _
  refine r_iload (x := l5) gX11_watch_27.1 rfl ?_
  refine r_aload_n (x := 0) gX11_watch_27.2.1 rfl ?_
  refine r_getA gX11_watch_27.2.2.1 (fa_11_10_0 hE) ?_
  refine r_calli (k := 0) (idx := 229) (y := 126) (as := [.ref 1]) (rest := [.int l5]) (L0 := [(0, .ref 1)]) gX11_watch_27.2.2.2.1 rfl rfl rfl rfl rfl (vok_v (ob_1 hE) rfl) rfl (r_dep (by decide) (e_X10_tickets hE q)) (fun r3 => ?_)
  refine r_icmp_ge (t := 98) gX11_watch_27.2.2.2.2.1 rfl (fun h12 => ?_) (fun h12 => ?_)
  · refine r_iload_n (x := l3) gX11_watch_92.2.2.1 rfl ?_
    refine r_if_ge (t := 107) gX11_watch_92.2.2.2.1 rfl (fun h4 => ?_) (fun h4 => ?_)
    · refine r_bipush (v := (100 : Int32)) gX11_watch_92.2.2.2.2.2.2.1 rfl ?_
      refine r_iload_n (x := l3) gX11_watch_92.2.2.2.2.2.2.2.1 rfl ?_
      refine r_imul gX11_watch_92.2.2.2.2.2.2.2.2.1 ?_
      refine r_iload (x := l4) gX11_watch_92.2.2.2.2.2.2.2.2.2.1 rfl ?_
      refine r_iadd gX11_watch_92.2.2.2.2.2.2.2.2.2.2.1 ?_
      exact r_ireturn gX11_watch_92.2.2.2.2.2.2.2.2.2.2.2.1 rfl rfl
    · refine r_bipush (v := (-2 : Int32)) gX11_watch_92.2.2.2.2.1 rfl ?_
      refine r_goto (t := 114) gX11_watch_92.2.2.2.2.2.1 rfl ?_
      exact r_ireturn gX11_watch_92.2.2.2.2.2.2.2.2.2.2.2.1 rfl rfl
  · refine r_aload_n (x := 24) gX11_watch_27.2.2.2.2.2.1 rfl ?_
    refine r_iload (x := l5) gX11_watch_27.2.2.2.2.2.2.1 rfl ?_
    refine r_iload_n (x := l1) gX11_watch_27.2.2.2.2.2.2.2.1 rfl ?_
    refine r_calli (k := 0) (idx := 232) (y := 107) (as := [.ref 24, .int l5, .int l1]) (rest := []) (L0 := [(0, .ref 24), (1, .int l5), (2, .int l1)]) gX11_watch_27.2.2.2.2.2.2.2.2.1 rfl rfl rfl rfl rfl (vok_v (ob_24 hE) rfl) rfl (r_dep (by decide) (e_X8_canSlip hE q l5 l1)) (fun r5 => ?_)
    refine r_if_eq (t := 92) gX11_watch_27.2.2.2.2.2.2.2.2.2.1 rfl (fun h11 => ?_) (fun h11 => ?_)
    · exact r_sub (L' := [(0, .ref 0), (1, .int l1), (2, .ref 24), (3, .int l3), (4, .int l4), (5, .int l5)]) (sub_c rfl (sub_c rfl (sub_c rfl (sub_c rfl (sub_c rfl (sub_c rfl sub_n)))))) (rb_X11_watch_92 hE hrec_27 q l1 l3 l4 l5)
    · refine r_aload_n (x := 24) gX11_watch_27.2.2.2.2.2.2.2.2.2.2.1 rfl ?_
      refine r_iload (x := l5) gX11_watch_27.2.2.2.2.2.2.2.2.2.2.2.1 rfl ?_
      refine r_iload_n (x := l1) gX11_watch_27.2.2.2.2.2.2.2.2.2.2.2.2.1 rfl ?_
      refine r_callI (k := 0) (idx := 174) (y := 109) (as := [.ref 24, .int l5, .int l1]) (rest := []) (L0 := [(0, .ref 24), (1, .int l5), (2, .int l1)]) gX11_watch_27.2.2.2.2.2.2.2.2.2.2.2.2.2.1 rfl rfl rfl rfl rfl (vok_v (ob_24 hE) rfl) rfl (r_dep (by decide) (e_X8_oddsOf hE q l5 l1)) (fun r6 => ?_)
      refine r_istore (L2 := [(0, .ref 0), (1, .int l1), (2, .ref 24), (3, .int l3), (4, .int l4), (5, .int l5), (6, .int r6.1)]) gX11_watch_27.2.2.2.2.2.2.2.2.2.2.2.2.2.2.1 rfl rfl ?_
      refine r_aload_n (x := 24) gX11_watch_27.2.2.2.2.2.2.2.2.2.2.2.2.2.2.2.1 rfl ?_
      refine r_iload (x := l5) gX11_watch_59.1 rfl ?_
      refine r_calli (k := 0) (idx := 190) (y := 98) (as := [.ref 24, .int l5]) (rest := []) (L0 := [(0, .ref 24), (1, .int l5)]) gX11_watch_59.2.1 rfl rfl rfl rfl rfl (vok_v (ob_24 hE) rfl) rfl (r_dep (by decide) (e_X8_holderOf hE r6.2 l5)) (fun r7 => ?_)
      refine r_istore (L2 := [(0, .ref 0), (1, .int l1), (2, .ref 24), (3, .int l3), (4, .int l4), (5, .int l5), (6, .int r6.1), (7, .int r7)]) gX11_watch_59.2.2.1 rfl rfl ?_
      refine r_iload (x := r6.1) gX11_watch_59.2.2.2.1 rfl ?_
      refine r_iload_n (x := l3) gX11_watch_59.2.2.2.2.1 rfl ?_
      refine r_icmp_gt (t := 85) gX11_watch_59.2.2.2.2.2.1 rfl (fun h10 => ?_) (fun h10 => ?_)
      · exact r_sub (L' := [(0, .ref 0), (1, .int l1), (2, .ref 24), (5, .int l5), (6, .int r6.1), (7, .int r7)]) (sub_c rfl (sub_c rfl (sub_c rfl (sub_c rfl (sub_c rfl (sub_c rfl sub_n)))))) (rb_X11_watch_85 hE hrec_27 r6.2 l1 l5 r6.1 r7)
      · refine r_iload (x := r6.1) gX11_watch_59.2.2.2.2.2.2.1 rfl ?_
        refine r_iload_n (x := l3) gX11_watch_59.2.2.2.2.2.2.2.1 rfl ?_
        refine r_icmp_ne (t := 92) gX11_watch_59.2.2.2.2.2.2.2.2.1 rfl (fun h9 => ?_) (fun h9 => ?_)
        · refine r_iload (x := r7) gX11_watch_59.2.2.2.2.2.2.2.2.2.1 rfl ?_
          refine r_iload (x := l4) gX11_watch_59.2.2.2.2.2.2.2.2.2.2.1 rfl ?_
          refine r_icmp_ge (t := 92) gX11_watch_59.2.2.2.2.2.2.2.2.2.2.2.1 rfl (fun h8 => ?_) (fun h8 => ?_)
          · exact r_sub (L' := [(0, .ref 0), (1, .int l1), (2, .ref 24), (3, .int l3), (4, .int l4), (5, .int l5)]) (sub_c rfl (sub_c rfl (sub_c rfl (sub_c rfl (sub_c rfl (sub_c rfl sub_n)))))) (rb_X11_watch_92 hE hrec_27 r6.2 l1 l3 l4 l5)
          · exact r_sub (L' := [(0, .ref 0), (1, .int l1), (2, .ref 24), (5, .int l5), (6, .int r6.1), (7, .int r7)]) (sub_c rfl (sub_c rfl (sub_c rfl (sub_c rfl (sub_c rfl (sub_c rfl sub_n)))))) (rb_X11_watch_85 hE hrec_27 r6.2 l1 l5 r6.1 r7)
        · exact r_sub (L' := [(0, .ref 0), (1, .int l1), (2, .ref 24), (3, .int l3), (4, .int l4), (5, .int l5)]) (sub_c rfl (sub_c rfl (sub_c rfl (sub_c rfl (sub_c rfl (sub_c rfl sub_n)))))) (rb_X11_watch_92 hE hrec_27 r6.2 l1 l3 l4 l5)
def f_X11_watch (q : SS) (a1 : Int32) : Option (Int32 × SS) :=
  (f_X10_isPerson q a1).bind fun r1 =>
  if r1 = 0 then
  (some ((-1 : Int32), q))
  else
  ((f_X11_now q).bind fun r2 =>
  b_X11_watch_27 r2 a1 (-1 : Int32) (-2 : Int32) (0 : Int32))
theorem e_X11_watch {E : EE} (hE : GE E) (q : SS) (a1 : Int32) : R E (κI E) 5 158 0 [(0, .ref 0), (1, .int a1)] [] q (f_X11_watch q a1) := by
  unfold f_X11_watch
  refine r_aload_n (x := 0) gX11_watch_0.1 rfl ?_
  refine r_getA gX11_watch_0.2.1 (fa_11_10_0 hE) ?_
  refine r_iload_n (x := a1) gX11_watch_0.2.2.1 rfl ?_
  refine r_calli (k := 0) (idx := 140) (y := 128) (as := [.ref 1, .int a1]) (rest := []) (L0 := [(0, .ref 1), (1, .int a1)]) gX11_watch_0.2.2.2.1 rfl rfl rfl rfl rfl (vok_v (ob_1 hE) rfl) rfl (r_dep (by decide) (e_X10_isPerson hE q a1)) (fun r1 => ?_)
  refine r_if_ne (t := 13) gX11_watch_0.2.2.2.2.1 rfl (fun h13 => ?_) (fun h13 => ?_)
  · refine r_iconst (v := (-1 : Int32)) gX11_watch_0.2.2.2.2.2.1 rfl ?_
    exact r_ireturn gX11_watch_0.2.2.2.2.2.2.1 rfl rfl
  · refine r_aload_n (x := 0) gX11_watch_0.2.2.2.2.2.2.2.1 rfl ?_
    refine r_callA (k := 0) (idx := 143) (y := 148) (as := [.ref 0]) (rest := []) (L0 := [(0, .ref 0)]) gX11_watch_0.2.2.2.2.2.2.2.2.1 rfl rfl rfl rfl rfl (vok_v (ob_0 hE) rfl) rfl (r_dep (by decide) (e_X11_now hE q)) (fun r2 => ?_)
    refine r_astore_n (L2 := [(0, .ref 0), (1, .int a1), (2, .ref 24)]) gX11_watch_0.2.2.2.2.2.2.2.2.2.1 rfl rfl ?_
    refine r_iconst (v := (-1 : Int32)) gX11_watch_0.2.2.2.2.2.2.2.2.2.2.1 rfl ?_
    refine r_istore_n (L2 := [(0, .ref 0), (1, .int a1), (2, .ref 24), (3, .int (-1 : Int32))]) gX11_watch_0.2.2.2.2.2.2.2.2.2.2.2.1 rfl rfl ?_
    refine r_bipush (v := (-2 : Int32)) gX11_watch_0.2.2.2.2.2.2.2.2.2.2.2.2.1 rfl ?_
    refine r_istore (L2 := [(0, .ref 0), (1, .int a1), (2, .ref 24), (3, .int (-1 : Int32)), (4, .int (-2 : Int32))]) gX11_watch_0.2.2.2.2.2.2.2.2.2.2.2.2.2.1 rfl rfl ?_
    refine r_iconst (v := (0 : Int32)) gX11_watch_0.2.2.2.2.2.2.2.2.2.2.2.2.2.2.1 rfl ?_
    refine r_istore (L2 := [(0, .ref 0), (1, .int a1), (2, .ref 24), (3, .int (-1 : Int32)), (4, .int (-2 : Int32)), (5, .int (0 : Int32))]) gX11_watch_0.2.2.2.2.2.2.2.2.2.2.2.2.2.2.2.1 rfl rfl ?_
    exact r_sub (L' := [(0, .ref 0), (1, .int a1), (2, .ref 24), (3, .int (-1 : Int32)), (4, .int (-2 : Int32)), (5, .int (0 : Int32))]) (sub_c rfl (sub_c rfl (sub_c rfl (sub_c rfl (sub_c rfl (sub_c rfl sub_n)))))) (rb_X11_watch_27 hE r2 a1 (-1 : Int32) (-2 : Int32) (0 : Int32))
def b_X12_watch_93 (rec_22 : SS → Int32 → Int32 → Int32 → Int32 → Option (Int32 × SS)) (q : SS) (l1 : Int32) (l2 : Int32) (l3 : Int32) (l4 : Int32) : Option (Int32 × SS) :=
  rec_22 q l1 l2 l3 (l4 + (1 : Int32))
theorem rb_X12_watch_93 {E : EE} (hE : GE E) {rec_22 : SS → Int32 → Int32 → Int32 → Int32 → Option (Int32 × SS)} (hrec_22 : ∀ (yq : SS) (yl1 : Int32) (yl2 : Int32) (yl3 : Int32) (yl4 : Int32), R E (κI E) 4 247 22 [(0, .ref 60), (1, .int yl1), (2, .int yl2), (3, .int yl3), (4, .int yl4)] [] yq (rec_22 yq yl1 yl2 yl3 yl4)) (q : SS) (l1 : Int32) (l2 : Int32) (l3 : Int32) (l4 : Int32) : R E (κI E) 4 247 93 [(0, .ref 60), (1, .int l1), (2, .int l2), (3, .int l3), (4, .int l4)] [] q (b_X12_watch_93 rec_22 q l1 l2 l3 l4) := by
  unfold b_X12_watch_93
  refine r_iinc (x := l4) (v := (l4 + (1 : Int32))) (L2 := [(0, .ref 60), (1, .int l1), (2, .int l2), (3, .int l3), (4, .int (l4 + (1 : Int32)))]) gX12_watch_90.2.2.1 rfl rfl rfl rfl ?_
  refine r_goto (t := 22) gX12_watch_90.2.2.2.1 rfl ?_
  exact r_sub (L' := [(0, .ref 60), (1, .int l1), (2, .int l2), (3, .int l3), (4, .int (l4 + (1 : Int32)))]) (sub_c rfl (sub_c rfl (sub_c rfl (sub_c rfl (sub_c rfl sub_n))))) (hrec_22 q l1 l2 l3 (l4 + (1 : Int32)))
def b_X12_watch_87 (rec_22 : SS → Int32 → Int32 → Int32 → Int32 → Option (Int32 × SS)) (q : SS) (l1 : Int32) (l4 : Int32) (l5 : Int32) (l6 : Int32) : Option (Int32 × SS) :=
  b_X12_watch_93 rec_22 q l1 l6 l5 l4
theorem rb_X12_watch_87 {E : EE} (hE : GE E) {rec_22 : SS → Int32 → Int32 → Int32 → Int32 → Option (Int32 × SS)} (hrec_22 : ∀ (yq : SS) (yl1 : Int32) (yl2 : Int32) (yl3 : Int32) (yl4 : Int32), R E (κI E) 4 247 22 [(0, .ref 60), (1, .int yl1), (2, .int yl2), (3, .int yl3), (4, .int yl4)] [] yq (rec_22 yq yl1 yl2 yl3 yl4)) (q : SS) (l1 : Int32) (l4 : Int32) (l5 : Int32) (l6 : Int32) : R E (κI E) 4 247 87 [(0, .ref 60), (1, .int l1), (4, .int l4), (5, .int l5), (6, .int l6)] [] q (b_X12_watch_87 rec_22 q l1 l4 l5 l6) := by
  unfold b_X12_watch_87
  refine r_iload (x := l6) gX12_watch_59.2.2.2.2.2.2.2.2.2.2.2.2.2.2.1 rfl ?_
  refine r_istore_n (L2 := [(0, .ref 60), (1, .int l1), (2, .int l6), (4, .int l4), (5, .int l5), (6, .int l6)]) gX12_watch_59.2.2.2.2.2.2.2.2.2.2.2.2.2.2.2.1 rfl rfl ?_
  refine r_iload (x := l5) gX12_watch_90.1 rfl ?_
  refine r_istore_n (L2 := [(0, .ref 60), (1, .int l1), (2, .int l6), (3, .int l5), (4, .int l4), (5, .int l5), (6, .int l6)]) gX12_watch_90.2.1 rfl rfl ?_
  exact r_sub (L' := [(0, .ref 60), (1, .int l1), (2, .int l6), (3, .int l5), (4, .int l4)]) (sub_c rfl (sub_c rfl (sub_c rfl (sub_c rfl (sub_c rfl sub_n))))) (rb_X12_watch_93 hE hrec_22 q l1 l6 l5 l4)
def b_X12_watch_22 : SS → Int32 → Int32 → Int32 → Int32 → Option (Int32 × SS) :=
  fx5 (fun (rec_22 : SS → Int32 → Int32 → Int32 → Int32 → Option (Int32 × SS)) (q : SS) (l1 : Int32) (l2 : Int32) (l3 : Int32) (l4 : Int32) =>
  if (q.1 60 6) ≤ l4 then
  (if 0 ≤ l2 then
  (some ((((100 : Int32) * l3) + l2), q))
  else
  (some ((-2 : Int32), q)))
  else
  ((f_X12_maySlip q l4 l1).bind fun r4 =>
  if r4 = 0 then
  (b_X12_watch_93 rec_22 q l1 l2 l3 l4)
  else
  ((f_X12_oddsOf q l4 l1).bind fun r5 =>
  if vin l4 12 then
  nm (r5.2.1 81 l4.toNatClampNeg) fun v6 =>
  if l2 < 0 then
  (b_X12_watch_87 rec_22 r5.2 l1 l4 r5.1 v6)
  else
  (if r5.1 < l3 then
  (b_X12_watch_93 rec_22 r5.2 l1 l2 l3 l4)
  else
  (if r5.1 = l3 then
  (if v6 < l2 then
  (b_X12_watch_87 rec_22 r5.2 l1 l4 r5.1 v6)
  else
  (b_X12_watch_93 rec_22 r5.2 l1 l2 l3 l4))
  else
  (b_X12_watch_87 rec_22 r5.2 l1 l4 r5.1 v6)))
  else none))) FU
theorem rb_X12_watch_22 {E : EE} (hE : GE E) (q : SS) (l1 : Int32) (l2 : Int32) (l3 : Int32) (l4 : Int32) : R E (κI E) 4 247 22 [(0, .ref 60), (1, .int l1), (2, .int l2), (3, .int l3), (4, .int l4)] [] q (b_X12_watch_22 q l1 l2 l3 l4) := by
  unfold b_X12_watch_22
  refine fx5_ok (P := fun q l1 l2 l3 l4 o => R E (κI E) 4 247 22 [(0, .ref 60), (1, .int l1), (2, .int l2), (3, .int l3), (4, .int l4)] [] q o) (fun _ _ _ _ _ => r_no) (fun rec_22 hrec_22 q l1 l2 l3 l4 => ?_) _ _ _ _ _ _
  refine r_iload (x := l4) gX12_watch_0.2.2.2.2.2.2.2.2.2.2.2.2.2.2.1 rfl ?_
  refine r_aload_n (x := 60) gX12_watch_0.2.2.2.2.2.2.2.2.2.2.2.2.2.2.2.1 rfl ?_
  refine r_getI gX12_watch_25.1 (ff_12_122_60 hE) (by decide) ?_
  refine r_icmp_ge (t := 99) gX12_watch_25.2.1 rfl (fun h12 => ?_) (fun h12 => ?_)
  · refine r_iload_n (x := l2) gX12_watch_90.2.2.2.2.1 rfl ?_
    refine r_if_ge (t := 108) gX12_watch_90.2.2.2.2.2.1 rfl (fun h3 => ?_) (fun h3 => ?_)
    · refine r_bipush (v := (100 : Int32)) gX12_watch_90.2.2.2.2.2.2.2.2.1 rfl ?_
      refine r_iload_n (x := l3) gX12_watch_90.2.2.2.2.2.2.2.2.2.1 rfl ?_
      refine r_imul gX12_watch_90.2.2.2.2.2.2.2.2.2.2.1 ?_
      refine r_iload_n (x := l2) gX12_watch_90.2.2.2.2.2.2.2.2.2.2.2.1 rfl ?_
      refine r_iadd gX12_watch_90.2.2.2.2.2.2.2.2.2.2.2.2.1 ?_
      exact r_ireturn gX12_watch_90.2.2.2.2.2.2.2.2.2.2.2.2.2.1 rfl rfl
    · refine r_bipush (v := (-2 : Int32)) gX12_watch_90.2.2.2.2.2.2.1 rfl ?_
      refine r_goto (t := 114) gX12_watch_90.2.2.2.2.2.2.2.1 rfl ?_
      exact r_ireturn gX12_watch_90.2.2.2.2.2.2.2.2.2.2.2.2.2.1 rfl rfl
  · refine r_aload_n (x := 60) gX12_watch_25.2.2.1 rfl ?_
    refine r_iload (x := l4) gX12_watch_25.2.2.2.1 rfl ?_
    refine r_iload_n (x := l1) gX12_watch_25.2.2.2.2.1 rfl ?_
    refine r_calli (k := 0) (idx := 251) (y := 230) (as := [.ref 60, .int l4, .int l1]) (rest := []) (L0 := [(0, .ref 60), (1, .int l4), (2, .int l1)]) gX12_watch_25.2.2.2.2.2.1 rfl rfl rfl rfl rfl (vok_v (ob_60 hE) rfl) rfl (r_dep (by decide) (e_X12_maySlip hE q l4 l1)) (fun r4 => ?_)
    refine r_if_ne (t := 44) gX12_watch_25.2.2.2.2.2.2.1 rfl (fun h11 => ?_) (fun h11 => ?_)
    · refine r_goto (t := 93) gX12_watch_25.2.2.2.2.2.2.2.1 rfl ?_
      exact r_sub (L' := [(0, .ref 60), (1, .int l1), (2, .int l2), (3, .int l3), (4, .int l4)]) (sub_c rfl (sub_c rfl (sub_c rfl (sub_c rfl (sub_c rfl sub_n))))) (rb_X12_watch_93 hE hrec_22 q l1 l2 l3 l4)
    · refine r_aload_n (x := 60) gX12_watch_25.2.2.2.2.2.2.2.2.1 rfl ?_
      refine r_iload (x := l4) gX12_watch_25.2.2.2.2.2.2.2.2.2.1 rfl ?_
      refine r_iload_n (x := l1) gX12_watch_25.2.2.2.2.2.2.2.2.2.2.1 rfl ?_
      refine r_callI (k := 0) (idx := 260) (y := 231) (as := [.ref 60, .int l4, .int l1]) (rest := []) (L0 := [(0, .ref 60), (1, .int l4), (2, .int l1)]) gX12_watch_25.2.2.2.2.2.2.2.2.2.2.2.1 rfl rfl rfl rfl rfl (vok_v (ob_60 hE) rfl) rfl (r_dep (by decide) (e_X12_oddsOf hE q l4 l1)) (fun r5 => ?_)
      refine r_istore (L2 := [(0, .ref 60), (1, .int l1), (2, .int l2), (3, .int l3), (4, .int l4), (5, .int r5.1)]) gX12_watch_25.2.2.2.2.2.2.2.2.2.2.2.2.1 rfl rfl ?_
      refine r_aload_n (x := 60) gX12_watch_25.2.2.2.2.2.2.2.2.2.2.2.2.2.1 rfl ?_
      refine r_getA gX12_watch_25.2.2.2.2.2.2.2.2.2.2.2.2.2.2.1 (fa_12_74_60 hE) ?_
      refine r_iload (x := l4) gX12_watch_25.2.2.2.2.2.2.2.2.2.2.2.2.2.2.2.1 rfl ?_
      refine r_iaload gX12_watch_59.1 (ar_81 hE) ?_
      refine r_nmI fun v6 _ => ?_
      refine r_istore (L2 := [(0, .ref 60), (1, .int l1), (2, .int l2), (3, .int l3), (4, .int l4), (5, .int r5.1), (6, .int v6)]) gX12_watch_59.2.1 rfl rfl ?_
      refine r_iload_n (x := l2) gX12_watch_59.2.2.1 rfl ?_
      refine r_if_lt (t := 87) gX12_watch_59.2.2.2.1 rfl (fun h10 => ?_) (fun h10 => ?_)
      · exact r_sub (L' := [(0, .ref 60), (1, .int l1), (4, .int l4), (5, .int r5.1), (6, .int v6)]) (sub_c rfl (sub_c rfl (sub_c rfl (sub_c rfl (sub_c rfl sub_n))))) (rb_X12_watch_87 hE hrec_22 r5.2 l1 l4 r5.1 v6)
      · refine r_iload (x := r5.1) gX12_watch_59.2.2.2.2.1 rfl ?_
        refine r_iload_n (x := l3) gX12_watch_59.2.2.2.2.2.1 rfl ?_
        refine r_icmp_lt (t := 93) gX12_watch_59.2.2.2.2.2.2.1 rfl (fun h9 => ?_) (fun h9 => ?_)
        · exact r_sub (L' := [(0, .ref 60), (1, .int l1), (2, .int l2), (3, .int l3), (4, .int l4)]) (sub_c rfl (sub_c rfl (sub_c rfl (sub_c rfl (sub_c rfl sub_n))))) (rb_X12_watch_93 hE hrec_22 r5.2 l1 l2 l3 l4)
        · refine r_iload (x := r5.1) gX12_watch_59.2.2.2.2.2.2.2.1 rfl ?_
          refine r_iload_n (x := l3) gX12_watch_59.2.2.2.2.2.2.2.2.1 rfl ?_
          refine r_icmp_ne (t := 87) gX12_watch_59.2.2.2.2.2.2.2.2.2.1 rfl (fun h8 => ?_) (fun h8 => ?_)
          · refine r_iload (x := v6) gX12_watch_59.2.2.2.2.2.2.2.2.2.2.1 rfl ?_
            refine r_iload_n (x := l2) gX12_watch_59.2.2.2.2.2.2.2.2.2.2.2.1 rfl ?_
            refine r_icmp_lt (t := 87) gX12_watch_59.2.2.2.2.2.2.2.2.2.2.2.2.1 rfl (fun h7 => ?_) (fun h7 => ?_)
            · exact r_sub (L' := [(0, .ref 60), (1, .int l1), (4, .int l4), (5, .int r5.1), (6, .int v6)]) (sub_c rfl (sub_c rfl (sub_c rfl (sub_c rfl (sub_c rfl sub_n))))) (rb_X12_watch_87 hE hrec_22 r5.2 l1 l4 r5.1 v6)
            · refine r_goto (t := 93) gX12_watch_59.2.2.2.2.2.2.2.2.2.2.2.2.2.1 rfl ?_
              exact r_sub (L' := [(0, .ref 60), (1, .int l1), (2, .int l2), (3, .int l3), (4, .int l4)]) (sub_c rfl (sub_c rfl (sub_c rfl (sub_c rfl (sub_c rfl sub_n))))) (rb_X12_watch_93 hE hrec_22 r5.2 l1 l2 l3 l4)
          · exact r_sub (L' := [(0, .ref 60), (1, .int l1), (4, .int l4), (5, .int r5.1), (6, .int v6)]) (sub_c rfl (sub_c rfl (sub_c rfl (sub_c rfl (sub_c rfl sub_n))))) (rb_X12_watch_87 hE hrec_22 r5.2 l1 l4 r5.1 v6)
def f_X12_watch (q : SS) (a1 : Int32) : Option (Int32 × SS) :=
  (f_X12_isOne q a1).bind fun r1 =>
  if r1 = 0 then
  (some ((-1 : Int32), q))
  else
  ((f_X12_layNow q).bind fun r2 =>
  b_X12_watch_22 r2 a1 (-2 : Int32) (0 : Int32) (0 : Int32))
theorem e_X12_watch {E : EE} (hE : GE E) (q : SS) (a1 : Int32) : R E (κI E) 4 247 0 [(0, .ref 60), (1, .int a1)] [] q (f_X12_watch q a1) := by
  unfold f_X12_watch
  refine r_aload_n (x := 60) gX12_watch_0.1 rfl ?_
  refine r_iload_n (x := a1) gX12_watch_0.2.1 rfl ?_
  refine r_calli (k := 0) (idx := 125) (y := 191) (as := [.ref 60, .int a1]) (rest := []) (L0 := [(0, .ref 60), (1, .int a1)]) gX12_watch_0.2.2.1 rfl rfl rfl rfl rfl (vok_v (ob_60 hE) rfl) rfl (r_dep (by decide) (e_X12_isOne hE q a1)) (fun r1 => ?_)
  refine r_if_ne (t := 10) gX12_watch_0.2.2.2.1 rfl (fun h13 => ?_) (fun h13 => ?_)
  · refine r_iconst (v := (-1 : Int32)) gX12_watch_0.2.2.2.2.1 rfl ?_
    exact r_ireturn gX12_watch_0.2.2.2.2.2.1 rfl rfl
  · refine r_aload_n (x := 60) gX12_watch_0.2.2.2.2.2.2.1 rfl ?_
    refine r_callV (k := 0) (idx := 168) (y := 226) (as := [.ref 60]) (rest := []) (L0 := [(0, .ref 60)]) gX12_watch_0.2.2.2.2.2.2.2.1 rfl rfl rfl rfl rfl (vok_v (ob_60 hE) rfl) rfl (r_dep (by decide) (e_X12_layNow hE q)) (fun r2 => ?_)
    refine r_bipush (v := (-2 : Int32)) gX12_watch_0.2.2.2.2.2.2.2.2.1 rfl ?_
    refine r_istore_n (L2 := [(0, .ref 60), (1, .int a1), (2, .int (-2 : Int32))]) gX12_watch_0.2.2.2.2.2.2.2.2.2.1 rfl rfl ?_
    refine r_iconst (v := (0 : Int32)) gX12_watch_0.2.2.2.2.2.2.2.2.2.2.1 rfl ?_
    refine r_istore_n (L2 := [(0, .ref 60), (1, .int a1), (2, .int (-2 : Int32)), (3, .int (0 : Int32))]) gX12_watch_0.2.2.2.2.2.2.2.2.2.2.2.1 rfl rfl ?_
    refine r_iconst (v := (0 : Int32)) gX12_watch_0.2.2.2.2.2.2.2.2.2.2.2.2.1 rfl ?_
    refine r_istore (L2 := [(0, .ref 60), (1, .int a1), (2, .int (-2 : Int32)), (3, .int (0 : Int32)), (4, .int (0 : Int32))]) gX12_watch_0.2.2.2.2.2.2.2.2.2.2.2.2.2.1 rfl rfl ?_
    exact r_sub (L' := [(0, .ref 60), (1, .int a1), (2, .int (-2 : Int32)), (3, .int (0 : Int32)), (4, .int (0 : Int32))]) (sub_c rfl (sub_c rfl (sub_c rfl (sub_c rfl (sub_c rfl sub_n))))) (rb_X12_watch_22 hE r2 a1 (-2 : Int32) (0 : Int32) (0 : Int32))
def b_X11_likeliest_45 (rec_13 : SS → Int32 → Int32 → Int32 → Option (Int32 × SS)) (q : SS) (l2 : Int32) (l3 : Int32) (l4 : Int32) : Option (Int32 × SS) :=
  rec_13 q l2 l3 (l4 + (1 : Int32))
theorem rb_X11_likeliest_45 {E : EE} (hE : GE E) {rec_13 : SS → Int32 → Int32 → Int32 → Option (Int32 × SS)} (hrec_13 : ∀ (yq : SS) (yl2 : Int32) (yl3 : Int32) (yl4 : Int32), R E (κI E) 4 157 13 [(0, .ref 0), (1, .ref 24), (2, .int yl2), (3, .int yl3), (4, .int yl4)] [] yq (rec_13 yq yl2 yl3 yl4)) (q : SS) (l2 : Int32) (l3 : Int32) (l4 : Int32) : R E (κI E) 4 157 45 [(0, .ref 0), (1, .ref 24), (2, .int l2), (3, .int l3), (4, .int l4)] [] q (b_X11_likeliest_45 rec_13 q l2 l3 l4) := by
  unfold b_X11_likeliest_45
  refine r_iinc (x := l4) (v := (l4 + (1 : Int32))) (L2 := [(0, .ref 0), (1, .ref 24), (2, .int l2), (3, .int l3), (4, .int (l4 + (1 : Int32)))]) gX11_likeliest_28.2.2.2.2.2.2.2.2.2.1 rfl rfl rfl rfl ?_
  refine r_goto (t := 13) gX11_likeliest_28.2.2.2.2.2.2.2.2.2.2.1 rfl ?_
  exact r_sub (L' := [(0, .ref 0), (1, .ref 24), (2, .int l2), (3, .int l3), (4, .int (l4 + (1 : Int32)))]) (sub_c rfl (sub_c rfl (sub_c rfl (sub_c rfl (sub_c rfl sub_n))))) (hrec_13 q l2 l3 (l4 + (1 : Int32)))
def b_X11_likeliest_13 : SS → Int32 → Int32 → Int32 → Option (Int32 × SS) :=
  fx4 (fun (rec_13 : SS → Int32 → Int32 → Int32 → Option (Int32 × SS)) (q : SS) (l2 : Int32) (l3 : Int32) (l4 : Int32) =>
  (f_X10_people q).bind fun r2 =>
  if r2 ≤ l4 then
  (some (l3, q))
  else
  ((f_X8_realsOf q l4).bind fun r3 =>
  if r3 ≤ l2 then
  (b_X11_likeliest_45 rec_13 q l2 l3 l4)
  else
  (b_X11_likeliest_45 rec_13 q r3 l4 l4))) FU
theorem rb_X11_likeliest_13 {E : EE} (hE : GE E) (q : SS) (l2 : Int32) (l3 : Int32) (l4 : Int32) : R E (κI E) 4 157 13 [(0, .ref 0), (1, .ref 24), (2, .int l2), (3, .int l3), (4, .int l4)] [] q (b_X11_likeliest_13 q l2 l3 l4) := by
  unfold b_X11_likeliest_13
  refine fx4_ok (P := fun q l2 l3 l4 o => R E (κI E) 4 157 13 [(0, .ref 0), (1, .ref 24), (2, .int l2), (3, .int l3), (4, .int l4)] [] q o) (fun _ _ _ _ => r_no) (fun rec_13 hrec_13 q l2 l3 l4 => ?_) _ _ _ _ _
  refine r_iload (x := l4) gX11_likeliest_0.2.2.2.2.2.2.2.2.2.1 rfl ?_
  refine r_aload_n (x := 0) gX11_likeliest_0.2.2.2.2.2.2.2.2.2.2.1 rfl ?_
  refine r_getA gX11_likeliest_0.2.2.2.2.2.2.2.2.2.2.2.1 (fa_11_10_0 hE) ?_
  refine r_calli (k := 0) (idx := 226) (y := 125) (as := [.ref 1]) (rest := [.int l4]) (L0 := [(0, .ref 1)]) gX11_likeliest_0.2.2.2.2.2.2.2.2.2.2.2.2.1 rfl rfl rfl rfl rfl (vok_v (ob_1 hE) rfl) rfl (r_dep (by decide) (e_X10_people hE q)) (fun r2 => ?_)
  refine r_icmp_ge (t := 51) gX11_likeliest_0.2.2.2.2.2.2.2.2.2.2.2.2.2.1 rfl (fun h5 => ?_) (fun h5 => ?_)
  · refine r_iload_n (x := l3) gX11_likeliest_28.2.2.2.2.2.2.2.2.2.2.2.1 rfl ?_
    exact r_ireturn gX11_likeliest_28.2.2.2.2.2.2.2.2.2.2.2.2.1 rfl rfl
  · refine r_aload_n (x := 24) gX11_likeliest_0.2.2.2.2.2.2.2.2.2.2.2.2.2.2.1 rfl ?_
    refine r_iload (x := l4) gX11_likeliest_0.2.2.2.2.2.2.2.2.2.2.2.2.2.2.2.1 rfl ?_
    refine r_calli (k := 0) (idx := 150) (y := 101) (as := [.ref 24, .int l4]) (rest := []) (L0 := [(0, .ref 24), (1, .int l4)]) gX11_likeliest_28.1 rfl rfl rfl rfl rfl (vok_v (ob_24 hE) rfl) rfl (r_dep (by decide) (e_X8_realsOf hE q l4)) (fun r3 => ?_)
    refine r_istore (L2 := [(0, .ref 0), (1, .ref 24), (2, .int l2), (3, .int l3), (4, .int l4), (5, .int r3)]) gX11_likeliest_28.2.1 rfl rfl ?_
    refine r_iload (x := r3) gX11_likeliest_28.2.2.1 rfl ?_
    refine r_iload_n (x := l2) gX11_likeliest_28.2.2.2.1 rfl ?_
    refine r_icmp_le (t := 45) gX11_likeliest_28.2.2.2.2.1 rfl (fun h4 => ?_) (fun h4 => ?_)
    · exact r_sub (L' := [(0, .ref 0), (1, .ref 24), (2, .int l2), (3, .int l3), (4, .int l4)]) (sub_c rfl (sub_c rfl (sub_c rfl (sub_c rfl (sub_c rfl sub_n))))) (rb_X11_likeliest_45 hE hrec_13 q l2 l3 l4)
    · refine r_iload (x := r3) gX11_likeliest_28.2.2.2.2.2.1 rfl ?_
      refine r_istore_n (L2 := [(0, .ref 0), (1, .ref 24), (2, .int r3), (3, .int l3), (4, .int l4), (5, .int r3)]) gX11_likeliest_28.2.2.2.2.2.2.1 rfl rfl ?_
      refine r_iload (x := l4) gX11_likeliest_28.2.2.2.2.2.2.2.1 rfl ?_
      refine r_istore_n (L2 := [(0, .ref 0), (1, .ref 24), (2, .int r3), (3, .int l4), (4, .int l4), (5, .int r3)]) gX11_likeliest_28.2.2.2.2.2.2.2.2.1 rfl rfl ?_
      exact r_sub (L' := [(0, .ref 0), (1, .ref 24), (2, .int r3), (3, .int l4), (4, .int l4)]) (sub_c rfl (sub_c rfl (sub_c rfl (sub_c rfl (sub_c rfl sub_n))))) (rb_X11_likeliest_45 hE hrec_13 q r3 l4 l4)
def f_X11_likeliest (q : SS)  : Option (Int32 × SS) :=
  (f_X11_now q).bind fun r1 =>
  b_X11_likeliest_13 r1 (0 : Int32) (-2 : Int32) (0 : Int32)
theorem e_X11_likeliest {E : EE} (hE : GE E) (q : SS)  : R E (κI E) 4 157 0 [(0, .ref 0)] [] q (f_X11_likeliest q) := by
  unfold f_X11_likeliest
  refine r_aload_n (x := 0) gX11_likeliest_0.1 rfl ?_
  refine r_callA (k := 0) (idx := 143) (y := 148) (as := [.ref 0]) (rest := []) (L0 := [(0, .ref 0)]) gX11_likeliest_0.2.1 rfl rfl rfl rfl rfl (vok_v (ob_0 hE) rfl) rfl (r_dep (by decide) (e_X11_now hE q)) (fun r1 => ?_)
  refine r_astore_n (L2 := [(0, .ref 0), (1, .ref 24)]) gX11_likeliest_0.2.2.1 rfl rfl ?_
  refine r_iconst (v := (0 : Int32)) gX11_likeliest_0.2.2.2.1 rfl ?_
  refine r_istore_n (L2 := [(0, .ref 0), (1, .ref 24), (2, .int (0 : Int32))]) gX11_likeliest_0.2.2.2.2.1 rfl rfl ?_
  refine r_bipush (v := (-2 : Int32)) gX11_likeliest_0.2.2.2.2.2.1 rfl ?_
  refine r_istore_n (L2 := [(0, .ref 0), (1, .ref 24), (2, .int (0 : Int32)), (3, .int (-2 : Int32))]) gX11_likeliest_0.2.2.2.2.2.2.1 rfl rfl ?_
  refine r_iconst (v := (0 : Int32)) gX11_likeliest_0.2.2.2.2.2.2.2.1 rfl ?_
  refine r_istore (L2 := [(0, .ref 0), (1, .ref 24), (2, .int (0 : Int32)), (3, .int (-2 : Int32)), (4, .int (0 : Int32))]) gX11_likeliest_0.2.2.2.2.2.2.2.2.1 rfl rfl ?_
  exact r_sub (L' := [(0, .ref 0), (1, .ref 24), (2, .int (0 : Int32)), (3, .int (-2 : Int32)), (4, .int (0 : Int32))]) (sub_c rfl (sub_c rfl (sub_c rfl (sub_c rfl (sub_c rfl sub_n))))) (rb_X11_likeliest_13 hE r1 (0 : Int32) (-2 : Int32) (0 : Int32))
def b_X12_likeliest_44 (rec_9 : SS → Int32 → Int32 → Option (Int32 × SS)) (q : SS) (l1 : Int32) (l2 : Int32) : Option (Int32 × SS) :=
  rec_9 q l1 (l2 + (1 : Int32))
theorem rb_X12_likeliest_44 {E : EE} (hE : GE E) {rec_9 : SS → Int32 → Int32 → Option (Int32 × SS)} (hrec_9 : ∀ (yq : SS) (yl1 : Int32) (yl2 : Int32), R E (κI E) 1 246 9 [(0, .ref 60), (1, .int yl1), (2, .int yl2)] [] yq (rec_9 yq yl1 yl2)) (q : SS) (l1 : Int32) (l2 : Int32) : R E (κI E) 1 246 44 [(0, .ref 60), (1, .int l1), (2, .int l2)] [] q (b_X12_likeliest_44 rec_9 q l1 l2) := by
  unfold b_X12_likeliest_44
  refine r_iinc (x := l2) (v := (l2 + (1 : Int32))) (L2 := [(0, .ref 60), (1, .int l1), (2, .int (l2 + (1 : Int32)))]) gX12_likeliest_29.2.2.2.2.2.2.2.2.2.1 rfl rfl rfl rfl ?_
  refine r_goto (t := 9) gX12_likeliest_29.2.2.2.2.2.2.2.2.2.2.1 rfl ?_
  exact r_sub (L' := [(0, .ref 60), (1, .int l1), (2, .int (l2 + (1 : Int32)))]) (sub_c rfl (sub_c rfl (sub_c rfl sub_n))) (hrec_9 q l1 (l2 + (1 : Int32)))
def b_X12_likeliest_42 (rec_9 : SS → Int32 → Int32 → Option (Int32 × SS)) (q : SS) (l2 : Int32) : Option (Int32 × SS) :=
  b_X12_likeliest_44 rec_9 q l2 l2
theorem rb_X12_likeliest_42 {E : EE} (hE : GE E) {rec_9 : SS → Int32 → Int32 → Option (Int32 × SS)} (hrec_9 : ∀ (yq : SS) (yl1 : Int32) (yl2 : Int32), R E (κI E) 1 246 9 [(0, .ref 60), (1, .int yl1), (2, .int yl2)] [] yq (rec_9 yq yl1 yl2)) (q : SS) (l2 : Int32) : R E (κI E) 1 246 42 [(0, .ref 60), (2, .int l2)] [] q (b_X12_likeliest_42 rec_9 q l2) := by
  unfold b_X12_likeliest_42
  refine r_iload_n (x := l2) gX12_likeliest_29.2.2.2.2.2.2.2.1 rfl ?_
  refine r_istore_n (L2 := [(0, .ref 60), (1, .int l2), (2, .int l2)]) gX12_likeliest_29.2.2.2.2.2.2.2.2.1 rfl rfl ?_
  exact r_sub (L' := [(0, .ref 60), (1, .int l2), (2, .int l2)]) (sub_c rfl (sub_c rfl (sub_c rfl sub_n))) (rb_X12_likeliest_44 hE hrec_9 q l2 l2)
def b_X12_likeliest_9 : SS → Int32 → Int32 → Option (Int32 × SS) :=
  fx3 (fun (rec_9 : SS → Int32 → Int32 → Option (Int32 × SS)) (q : SS) (l1 : Int32) (l2 : Int32) =>
  if (q.1 60 1) ≤ l2 then
  (some (l1, q))
  else
  ((f_X12_realOf q l2).bind fun r2 =>
  if r2 ≤ 0 then
  (b_X12_likeliest_44 rec_9 q l1 l2)
  else
  (if l1 < 0 then
  (b_X12_likeliest_42 rec_9 q l2)
  else
  ((f_X12_realOf q l2).bind fun r3 =>
  (f_X12_realOf q l1).bind fun r4 =>
  if r3 ≤ r4 then
  (b_X12_likeliest_44 rec_9 q l1 l2)
  else
  (b_X12_likeliest_42 rec_9 q l2))))) FU
theorem rb_X12_likeliest_9 {E : EE} (hE : GE E) (q : SS) (l1 : Int32) (l2 : Int32) : R E (κI E) 1 246 9 [(0, .ref 60), (1, .int l1), (2, .int l2)] [] q (b_X12_likeliest_9 q l1 l2) := by
  unfold b_X12_likeliest_9
  refine fx3_ok (P := fun q l1 l2 o => R E (κI E) 1 246 9 [(0, .ref 60), (1, .int l1), (2, .int l2)] [] q o) (fun _ _ _ => r_no) (fun rec_9 hrec_9 q l1 l2 => ?_) _ _ _ _
  refine r_iload_n (x := l2) gX12_likeliest_0.2.2.2.2.2.2.1 rfl ?_
  refine r_aload_n (x := 60) gX12_likeliest_0.2.2.2.2.2.2.2.1 rfl ?_
  refine r_getI gX12_likeliest_0.2.2.2.2.2.2.2.2.1 (ff_12_115_60 hE) (by decide) ?_
  refine r_icmp_ge (t := 50) gX12_likeliest_0.2.2.2.2.2.2.2.2.2.1 rfl (fun h8 => ?_) (fun h8 => ?_)
  · refine r_iload_n (x := l1) gX12_likeliest_29.2.2.2.2.2.2.2.2.2.2.2.1 rfl ?_
    exact r_ireturn gX12_likeliest_29.2.2.2.2.2.2.2.2.2.2.2.2.1 rfl rfl
  · refine r_aload_n (x := 60) gX12_likeliest_0.2.2.2.2.2.2.2.2.2.2.1 rfl ?_
    refine r_iload_n (x := l2) gX12_likeliest_0.2.2.2.2.2.2.2.2.2.2.2.1 rfl ?_
    refine r_calli (k := 0) (idx := 175) (y := 228) (as := [.ref 60, .int l2]) (rest := []) (L0 := [(0, .ref 60), (1, .int l2)]) gX12_likeliest_0.2.2.2.2.2.2.2.2.2.2.2.2.1 rfl rfl rfl rfl rfl (vok_v (ob_60 hE) rfl) rfl (r_dep (by decide) (e_X12_realOf hE q l2)) (fun r2 => ?_)
    refine r_if_le (t := 44) gX12_likeliest_0.2.2.2.2.2.2.2.2.2.2.2.2.2.1 rfl (fun h7 => ?_) (fun h7 => ?_)
    · exact r_sub (L' := [(0, .ref 60), (1, .int l1), (2, .int l2)]) (sub_c rfl (sub_c rfl (sub_c rfl sub_n))) (rb_X12_likeliest_44 hE hrec_9 q l1 l2)
    · refine r_iload_n (x := l1) gX12_likeliest_0.2.2.2.2.2.2.2.2.2.2.2.2.2.2.1 rfl ?_
      refine r_if_lt (t := 42) gX12_likeliest_0.2.2.2.2.2.2.2.2.2.2.2.2.2.2.2.1 rfl (fun h6 => ?_) (fun h6 => ?_)
      · exact r_sub (L' := [(0, .ref 60), (2, .int l2)]) (sub_c rfl (sub_c rfl sub_n)) (rb_X12_likeliest_42 hE hrec_9 q l2)
      · refine r_aload_n (x := 60) gX12_likeliest_29.1 rfl ?_
        refine r_iload_n (x := l2) gX12_likeliest_29.2.1 rfl ?_
        refine r_calli (k := 0) (idx := 175) (y := 228) (as := [.ref 60, .int l2]) (rest := []) (L0 := [(0, .ref 60), (1, .int l2)]) gX12_likeliest_29.2.2.1 rfl rfl rfl rfl rfl (vok_v (ob_60 hE) rfl) rfl (r_dep (by decide) (e_X12_realOf hE q l2)) (fun r3 => ?_)
        refine r_aload_n (x := 60) gX12_likeliest_29.2.2.2.1 rfl ?_
        refine r_iload_n (x := l1) gX12_likeliest_29.2.2.2.2.1 rfl ?_
        refine r_calli (k := 0) (idx := 175) (y := 228) (as := [.ref 60, .int l1]) (rest := [.int r3]) (L0 := [(0, .ref 60), (1, .int l1)]) gX12_likeliest_29.2.2.2.2.2.1 rfl rfl rfl rfl rfl (vok_v (ob_60 hE) rfl) rfl (r_dep (by decide) (e_X12_realOf hE q l1)) (fun r4 => ?_)
        refine r_icmp_le (t := 44) gX12_likeliest_29.2.2.2.2.2.2.1 rfl (fun h5 => ?_) (fun h5 => ?_)
        · exact r_sub (L' := [(0, .ref 60), (1, .int l1), (2, .int l2)]) (sub_c rfl (sub_c rfl (sub_c rfl sub_n))) (rb_X12_likeliest_44 hE hrec_9 q l1 l2)
        · exact r_sub (L' := [(0, .ref 60), (2, .int l2)]) (sub_c rfl (sub_c rfl sub_n)) (rb_X12_likeliest_42 hE hrec_9 q l2)
def f_X12_likeliest (q : SS)  : Option (Int32 × SS) :=
  (f_X12_layNow q).bind fun r1 =>
  b_X12_likeliest_9 r1 (-2 : Int32) (0 : Int32)
theorem e_X12_likeliest {E : EE} (hE : GE E) (q : SS)  : R E (κI E) 1 246 0 [(0, .ref 60)] [] q (f_X12_likeliest q) := by
  unfold f_X12_likeliest
  refine r_aload_n (x := 60) gX12_likeliest_0.1 rfl ?_
  refine r_callV (k := 0) (idx := 168) (y := 226) (as := [.ref 60]) (rest := []) (L0 := [(0, .ref 60)]) gX12_likeliest_0.2.1 rfl rfl rfl rfl rfl (vok_v (ob_60 hE) rfl) rfl (r_dep (by decide) (e_X12_layNow hE q)) (fun r1 => ?_)
  refine r_bipush (v := (-2 : Int32)) gX12_likeliest_0.2.2.1 rfl ?_
  refine r_istore_n (L2 := [(0, .ref 60), (1, .int (-2 : Int32))]) gX12_likeliest_0.2.2.2.1 rfl rfl ?_
  refine r_iconst (v := (0 : Int32)) gX12_likeliest_0.2.2.2.2.1 rfl ?_
  refine r_istore_n (L2 := [(0, .ref 60), (1, .int (-2 : Int32)), (2, .int (0 : Int32))]) gX12_likeliest_0.2.2.2.2.2.1 rfl rfl ?_
  exact r_sub (L' := [(0, .ref 60), (1, .int (-2 : Int32)), (2, .int (0 : Int32))]) (sub_c rfl (sub_c rfl (sub_c rfl sub_n))) (rb_X12_likeliest_9 hE r1 (-2 : Int32) (0 : Int32))
def b_X11_safe_34 (rec_9 : SS → Int32 → Int32 → Option (Int32 × SS)) (q : SS) (l2 : Int32) (l3 : Int32) : Option (Int32 × SS) :=
  rec_9 q l2 (l3 + (1 : Int32))
theorem rb_X11_safe_34 {E : EE} (hE : GE E) {rec_9 : SS → Int32 → Int32 → Option (Int32 × SS)} (hrec_9 : ∀ (yq : SS) (yl2 : Int32) (yl3 : Int32), R E (κI E) 4 156 9 [(0, .ref 0), (1, .ref 24), (2, .int yl2), (3, .int yl3)] [] yq (rec_9 yq yl2 yl3)) (q : SS) (l2 : Int32) (l3 : Int32) : R E (κI E) 4 156 34 [(0, .ref 0), (1, .ref 24), (2, .int l2), (3, .int l3)] [] q (b_X11_safe_34 rec_9 q l2 l3) := by
  unfold b_X11_safe_34
  refine r_iinc (x := l3) (v := (l3 + (1 : Int32))) (L2 := [(0, .ref 0), (1, .ref 24), (2, .int l2), (3, .int (l3 + (1 : Int32)))]) gX11_safe_28.2.2.2.2.2.2.1 rfl rfl rfl rfl ?_
  refine r_goto (t := 9) gX11_safe_28.2.2.2.2.2.2.2.1 rfl ?_
  exact r_sub (L' := [(0, .ref 0), (1, .ref 24), (2, .int l2), (3, .int (l3 + (1 : Int32)))]) (sub_c rfl (sub_c rfl (sub_c rfl (sub_c rfl sub_n)))) (hrec_9 q l2 (l3 + (1 : Int32)))
def b_X11_safe_9 : SS → Int32 → Int32 → Option (Int32 × SS) :=
  fx3 (fun (rec_9 : SS → Int32 → Int32 → Option (Int32 × SS)) (q : SS) (l2 : Int32) (l3 : Int32) =>
  (f_X10_people q).bind fun r2 =>
  if r2 ≤ l3 then
  (some (l2, q))
  else
  ((f_X8_realsOf q l3).bind fun r3 =>
  if r3 = 0 then
  (nm (l2 ||| (jshl (1 : Int32) l3)) fun v4 =>
  b_X11_safe_34 rec_9 q v4 l3)
  else
  (b_X11_safe_34 rec_9 q l2 l3))) FU
theorem rb_X11_safe_9 {E : EE} (hE : GE E) (q : SS) (l2 : Int32) (l3 : Int32) : R E (κI E) 4 156 9 [(0, .ref 0), (1, .ref 24), (2, .int l2), (3, .int l3)] [] q (b_X11_safe_9 q l2 l3) := by
  unfold b_X11_safe_9
  refine fx3_ok (P := fun q l2 l3 o => R E (κI E) 4 156 9 [(0, .ref 0), (1, .ref 24), (2, .int l2), (3, .int l3)] [] q o) (fun _ _ _ => r_no) (fun rec_9 hrec_9 q l2 l3 => ?_) _ _ _ _
  refine r_iload_n (x := l3) gX11_safe_0.2.2.2.2.2.2.2.1 rfl ?_
  refine r_aload_n (x := 0) gX11_safe_0.2.2.2.2.2.2.2.2.1 rfl ?_
  refine r_getA gX11_safe_0.2.2.2.2.2.2.2.2.2.1 (fa_11_10_0 hE) ?_
  refine r_calli (k := 0) (idx := 226) (y := 125) (as := [.ref 1]) (rest := [.int l3]) (L0 := [(0, .ref 1)]) gX11_safe_0.2.2.2.2.2.2.2.2.2.2.1 rfl rfl rfl rfl rfl (vok_v (ob_1 hE) rfl) rfl (r_dep (by decide) (e_X10_people hE q)) (fun r2 => ?_)
  refine r_icmp_ge (t := 40) gX11_safe_0.2.2.2.2.2.2.2.2.2.2.2.1 rfl (fun h6 => ?_) (fun h6 => ?_)
  · refine r_iload_n (x := l2) gX11_safe_28.2.2.2.2.2.2.2.2.1 rfl ?_
    exact r_ireturn gX11_safe_28.2.2.2.2.2.2.2.2.2.1 rfl rfl
  · refine r_aload_n (x := 24) gX11_safe_0.2.2.2.2.2.2.2.2.2.2.2.2.1 rfl ?_
    refine r_iload_n (x := l3) gX11_safe_0.2.2.2.2.2.2.2.2.2.2.2.2.2.1 rfl ?_
    refine r_calli (k := 0) (idx := 150) (y := 101) (as := [.ref 24, .int l3]) (rest := []) (L0 := [(0, .ref 24), (1, .int l3)]) gX11_safe_0.2.2.2.2.2.2.2.2.2.2.2.2.2.2.1 rfl rfl rfl rfl rfl (vok_v (ob_24 hE) rfl) rfl (r_dep (by decide) (e_X8_realsOf hE q l3)) (fun r3 => ?_)
    refine r_if_ne (t := 34) gX11_safe_0.2.2.2.2.2.2.2.2.2.2.2.2.2.2.2.1 rfl (fun h5 => ?_) (fun h5 => ?_)
    · refine r_iload_n (x := l2) gX11_safe_28.1 rfl ?_
      refine r_iconst (v := (1 : Int32)) gX11_safe_28.2.1 rfl ?_
      refine r_iload_n (x := l3) gX11_safe_28.2.2.1 rfl ?_
      refine r_ishl gX11_safe_28.2.2.2.1 ?_
      refine r_ior gX11_safe_28.2.2.2.2.1 ?_
      refine r_nmI fun v4 _ => ?_
      refine r_istore_n (L2 := [(0, .ref 0), (1, .ref 24), (2, .int v4), (3, .int l3)]) gX11_safe_28.2.2.2.2.2.1 rfl rfl ?_
      exact r_sub (L' := [(0, .ref 0), (1, .ref 24), (2, .int v4), (3, .int l3)]) (sub_c rfl (sub_c rfl (sub_c rfl (sub_c rfl sub_n)))) (rb_X11_safe_34 hE hrec_9 q v4 l3)
    · exact r_sub (L' := [(0, .ref 0), (1, .ref 24), (2, .int l2), (3, .int l3)]) (sub_c rfl (sub_c rfl (sub_c rfl (sub_c rfl sub_n)))) (rb_X11_safe_34 hE hrec_9 q l2 l3)
def f_X11_safe (q : SS)  : Option (Int32 × SS) :=
  (f_X11_now q).bind fun r1 =>
  b_X11_safe_9 r1 (0 : Int32) (0 : Int32)
theorem e_X11_safe {E : EE} (hE : GE E) (q : SS)  : R E (κI E) 4 156 0 [(0, .ref 0)] [] q (f_X11_safe q) := by
  unfold f_X11_safe
  refine r_aload_n (x := 0) gX11_safe_0.1 rfl ?_
  refine r_callA (k := 0) (idx := 143) (y := 148) (as := [.ref 0]) (rest := []) (L0 := [(0, .ref 0)]) gX11_safe_0.2.1 rfl rfl rfl rfl rfl (vok_v (ob_0 hE) rfl) rfl (r_dep (by decide) (e_X11_now hE q)) (fun r1 => ?_)
  refine r_astore_n (L2 := [(0, .ref 0), (1, .ref 24)]) gX11_safe_0.2.2.1 rfl rfl ?_
  refine r_iconst (v := (0 : Int32)) gX11_safe_0.2.2.2.1 rfl ?_
  refine r_istore_n (L2 := [(0, .ref 0), (1, .ref 24), (2, .int (0 : Int32))]) gX11_safe_0.2.2.2.2.1 rfl rfl ?_
  refine r_iconst (v := (0 : Int32)) gX11_safe_0.2.2.2.2.2.1 rfl ?_
  refine r_istore_n (L2 := [(0, .ref 0), (1, .ref 24), (2, .int (0 : Int32)), (3, .int (0 : Int32))]) gX11_safe_0.2.2.2.2.2.2.1 rfl rfl ?_
  exact r_sub (L' := [(0, .ref 0), (1, .ref 24), (2, .int (0 : Int32)), (3, .int (0 : Int32))]) (sub_c rfl (sub_c rfl (sub_c rfl (sub_c rfl sub_n)))) (rb_X11_safe_9 hE r1 (0 : Int32) (0 : Int32))
def b_X12_safe_30 (rec_8 : SS → Int32 → Int32 → Option (Int32 × SS)) (q : SS) (l1 : Int32) (l2 : Int32) : Option (Int32 × SS) :=
  rec_8 q l1 (l2 + (1 : Int32))
theorem rb_X12_safe_30 {E : EE} (hE : GE E) {rec_8 : SS → Int32 → Int32 → Option (Int32 × SS)} (hrec_8 : ∀ (yq : SS) (yl1 : Int32) (yl2 : Int32), R E (κI E) 1 245 8 [(0, .ref 60), (1, .int yl1), (2, .int yl2)] [] yq (rec_8 yq yl1 yl2)) (q : SS) (l1 : Int32) (l2 : Int32) : R E (κI E) 1 245 30 [(0, .ref 60), (1, .int l1), (2, .int l2)] [] q (b_X12_safe_30 rec_8 q l1 l2) := by
  unfold b_X12_safe_30
  refine r_iinc (x := l2) (v := (l2 + (1 : Int32))) (L2 := [(0, .ref 60), (1, .int l1), (2, .int (l2 + (1 : Int32)))]) gX12_safe_26.2.2.2.2.1 rfl rfl rfl rfl ?_
  refine r_goto (t := 8) gX12_safe_26.2.2.2.2.2.1 rfl ?_
  exact r_sub (L' := [(0, .ref 60), (1, .int l1), (2, .int (l2 + (1 : Int32)))]) (sub_c rfl (sub_c rfl (sub_c rfl sub_n))) (hrec_8 q l1 (l2 + (1 : Int32)))
def b_X12_safe_8 : SS → Int32 → Int32 → Option (Int32 × SS) :=
  fx3 (fun (rec_8 : SS → Int32 → Int32 → Option (Int32 × SS)) (q : SS) (l1 : Int32) (l2 : Int32) =>
  if (q.1 60 1) ≤ l2 then
  (some (l1, q))
  else
  ((f_X12_realOf q l2).bind fun r2 =>
  if r2 = 0 then
  (nm (l1 ||| (jshl (1 : Int32) l2)) fun v3 =>
  b_X12_safe_30 rec_8 q v3 l2)
  else
  (b_X12_safe_30 rec_8 q l1 l2))) FU
theorem rb_X12_safe_8 {E : EE} (hE : GE E) (q : SS) (l1 : Int32) (l2 : Int32) : R E (κI E) 1 245 8 [(0, .ref 60), (1, .int l1), (2, .int l2)] [] q (b_X12_safe_8 q l1 l2) := by
  unfold b_X12_safe_8
  refine fx3_ok (P := fun q l1 l2 o => R E (κI E) 1 245 8 [(0, .ref 60), (1, .int l1), (2, .int l2)] [] q o) (fun _ _ _ => r_no) (fun rec_8 hrec_8 q l1 l2 => ?_) _ _ _ _
  refine r_iload_n (x := l2) gX12_safe_0.2.2.2.2.2.2.1 rfl ?_
  refine r_aload_n (x := 60) gX12_safe_0.2.2.2.2.2.2.2.1 rfl ?_
  refine r_getI gX12_safe_0.2.2.2.2.2.2.2.2.1 (ff_12_115_60 hE) (by decide) ?_
  refine r_icmp_ge (t := 36) gX12_safe_0.2.2.2.2.2.2.2.2.2.1 rfl (fun h5 => ?_) (fun h5 => ?_)
  · refine r_iload_n (x := l1) gX12_safe_26.2.2.2.2.2.2.1 rfl ?_
    exact r_ireturn gX12_safe_26.2.2.2.2.2.2.2.1 rfl rfl
  · refine r_aload_n (x := 60) gX12_safe_0.2.2.2.2.2.2.2.2.2.2.1 rfl ?_
    refine r_iload_n (x := l2) gX12_safe_0.2.2.2.2.2.2.2.2.2.2.2.1 rfl ?_
    refine r_calli (k := 0) (idx := 175) (y := 228) (as := [.ref 60, .int l2]) (rest := []) (L0 := [(0, .ref 60), (1, .int l2)]) gX12_safe_0.2.2.2.2.2.2.2.2.2.2.2.2.1 rfl rfl rfl rfl rfl (vok_v (ob_60 hE) rfl) rfl (r_dep (by decide) (e_X12_realOf hE q l2)) (fun r2 => ?_)
    refine r_if_ne (t := 30) gX12_safe_0.2.2.2.2.2.2.2.2.2.2.2.2.2.1 rfl (fun h4 => ?_) (fun h4 => ?_)
    · refine r_iload_n (x := l1) gX12_safe_0.2.2.2.2.2.2.2.2.2.2.2.2.2.2.1 rfl ?_
      refine r_iconst (v := (1 : Int32)) gX12_safe_0.2.2.2.2.2.2.2.2.2.2.2.2.2.2.2.1 rfl ?_
      refine r_iload_n (x := l2) gX12_safe_26.1 rfl ?_
      refine r_ishl gX12_safe_26.2.1 ?_
      refine r_ior gX12_safe_26.2.2.1 ?_
      refine r_nmI fun v3 _ => ?_
      refine r_istore_n (L2 := [(0, .ref 60), (1, .int v3), (2, .int l2)]) gX12_safe_26.2.2.2.1 rfl rfl ?_
      exact r_sub (L' := [(0, .ref 60), (1, .int v3), (2, .int l2)]) (sub_c rfl (sub_c rfl (sub_c rfl sub_n))) (rb_X12_safe_30 hE hrec_8 q v3 l2)
    · exact r_sub (L' := [(0, .ref 60), (1, .int l1), (2, .int l2)]) (sub_c rfl (sub_c rfl (sub_c rfl sub_n))) (rb_X12_safe_30 hE hrec_8 q l1 l2)
def f_X12_safe (q : SS)  : Option (Int32 × SS) :=
  (f_X12_layNow q).bind fun r1 =>
  b_X12_safe_8 r1 (0 : Int32) (0 : Int32)
theorem e_X12_safe {E : EE} (hE : GE E) (q : SS)  : R E (κI E) 1 245 0 [(0, .ref 60)] [] q (f_X12_safe q) := by
  unfold f_X12_safe
  refine r_aload_n (x := 60) gX12_safe_0.1 rfl ?_
  refine r_callV (k := 0) (idx := 168) (y := 226) (as := [.ref 60]) (rest := []) (L0 := [(0, .ref 60)]) gX12_safe_0.2.1 rfl rfl rfl rfl rfl (vok_v (ob_60 hE) rfl) rfl (r_dep (by decide) (e_X12_layNow hE q)) (fun r1 => ?_)
  refine r_iconst (v := (0 : Int32)) gX12_safe_0.2.2.1 rfl ?_
  refine r_istore_n (L2 := [(0, .ref 60), (1, .int (0 : Int32))]) gX12_safe_0.2.2.2.1 rfl rfl ?_
  refine r_iconst (v := (0 : Int32)) gX12_safe_0.2.2.2.2.1 rfl ?_
  refine r_istore_n (L2 := [(0, .ref 60), (1, .int (0 : Int32)), (2, .int (0 : Int32))]) gX12_safe_0.2.2.2.2.2.1 rfl rfl ?_
  exact r_sub (L' := [(0, .ref 60), (1, .int (0 : Int32)), (2, .int (0 : Int32))]) (sub_c rfl (sub_c rfl (sub_c rfl sub_n))) (rb_X12_safe_8 hE r1 (0 : Int32) (0 : Int32))
def f_X11_king (q : SS) (a1 : Int32) (a2 : Int32) : Option (Int64 × SS) :=
  (f_X10_isPerson q a1).bind fun r1 =>
  if r1 = 0 then
  (some ((-9223372036854775808 : Int64), q))
  else
  ((f_X11_isPart q a2).bind fun r2 =>
  if r2 = 0 then
  (some ((-9223372036854775808 : Int64), q))
  else
  ((f_X11_now q).bind fun r3 =>
  (f_X8_realsOf r3 a1).bind fun r4 =>
  (f_X8_reals r3).bind fun r5 =>
  (f_X11_partOf r3 (r4.toInt64) (r5.toInt64) a2).bind fun r6 =>
  some (r6, r3)))
theorem e_X11_king {E : EE} (hE : GE E) (q : SS) (a1 : Int32) (a2 : Int32) : R E (κL E) 4 155 0 [(0, .ref 0), (1, .int a1), (2, .int a2)] [] q (f_X11_king q a1 a2) := by
  unfold f_X11_king
  refine r_aload_n (x := 0) gX11_king_0.1 rfl ?_
  refine r_getA gX11_king_0.2.1 (fa_11_10_0 hE) ?_
  refine r_iload_n (x := a1) gX11_king_0.2.2.1 rfl ?_
  refine r_calli (k := 0) (idx := 140) (y := 128) (as := [.ref 1, .int a1]) (rest := []) (L0 := [(0, .ref 1), (1, .int a1)]) gX11_king_0.2.2.2.1 rfl rfl rfl rfl rfl (vok_v (ob_1 hE) rfl) rfl (r_dep (by decide) (e_X10_isPerson hE q a1)) (fun r1 => ?_)
  refine r_if_eq (t := 18) gX11_king_0.2.2.2.2.1 rfl (fun h8 => ?_) (fun h8 => ?_)
  · refine r_ldc2 (v := (-9223372036854775808 : Int64)) gX11_king_0.2.2.2.2.2.2.2.2.1 rfl ?_
    exact r_lreturn gX11_king_0.2.2.2.2.2.2.2.2.2.1 rfl rfl
  · refine r_iload_n (x := a2) gX11_king_0.2.2.2.2.2.1 rfl ?_
    refine r_calli (k := 2) (idx := 199) (y := 153) (as := [.int a2]) (rest := []) (L0 := [(0, .int a2)]) gX11_king_0.2.2.2.2.2.2.1 rfl rfl rfl rfl rfl vok_s rfl (r_dep (by decide) (e_X11_isPart hE q a2)) (fun r2 => ?_)
    refine r_if_ne (t := 22) gX11_king_0.2.2.2.2.2.2.2.1 rfl (fun h7 => ?_) (fun h7 => ?_)
    · refine r_ldc2 (v := (-9223372036854775808 : Int64)) gX11_king_0.2.2.2.2.2.2.2.2.1 rfl ?_
      exact r_lreturn gX11_king_0.2.2.2.2.2.2.2.2.2.1 rfl rfl
    · refine r_aload_n (x := 0) gX11_king_0.2.2.2.2.2.2.2.2.2.2.1 rfl ?_
      refine r_callA (k := 0) (idx := 143) (y := 148) (as := [.ref 0]) (rest := []) (L0 := [(0, .ref 0)]) gX11_king_0.2.2.2.2.2.2.2.2.2.2.2.1 rfl rfl rfl rfl rfl (vok_v (ob_0 hE) rfl) rfl (r_dep (by decide) (e_X11_now hE q)) (fun r3 => ?_)
      refine r_astore_n (L2 := [(0, .ref 0), (1, .int a1), (2, .int a2), (3, .ref 24)]) gX11_king_0.2.2.2.2.2.2.2.2.2.2.2.2.1 rfl rfl ?_
      refine r_aload_n (x := 24) gX11_king_0.2.2.2.2.2.2.2.2.2.2.2.2.2.1 rfl ?_
      refine r_iload_n (x := a1) gX11_king_0.2.2.2.2.2.2.2.2.2.2.2.2.2.2.1 rfl ?_
      refine r_calli (k := 0) (idx := 150) (y := 101) (as := [.ref 24, .int a1]) (rest := []) (L0 := [(0, .ref 24), (1, .int a1)]) gX11_king_0.2.2.2.2.2.2.2.2.2.2.2.2.2.2.2.1 rfl rfl rfl rfl rfl (vok_v (ob_24 hE) rfl) rfl (r_dep (by decide) (e_X8_realsOf hE r3 a1)) (fun r4 => ?_)
      refine r_i2l gX11_king_32.1 ?_
      refine r_aload_n (x := 24) gX11_king_32.2.1 rfl ?_
      refine r_calli (k := 0) (idx := 223) (y := 102) (as := [.ref 24]) (rest := [.long (r4.toInt64)]) (L0 := [(0, .ref 24)]) gX11_king_32.2.2.1 rfl rfl rfl rfl rfl (vok_v (ob_24 hE) rfl) rfl (r_dep (by decide) (e_X8_reals hE r3)) (fun r5 => ?_)
      refine r_i2l gX11_king_32.2.2.2.1 ?_
      refine r_iload_n (x := a2) gX11_king_32.2.2.2.2.1 rfl ?_
      refine r_calll (k := 2) (idx := 216) (y := 154) (as := [.long (r4.toInt64), .long (r5.toInt64), .int a2]) (rest := []) (L0 := [(0, .long (r4.toInt64)), (2, .long (r5.toInt64)), (4, .int a2)]) gX11_king_32.2.2.2.2.2.1 rfl rfl rfl rfl rfl vok_s rfl (r_dep (by decide) (e_X11_partOf hE r3 (r4.toInt64) (r5.toInt64) a2)) (fun r6 => ?_)
      exact r_lreturn gX11_king_32.2.2.2.2.2.2.1 rfl rfl

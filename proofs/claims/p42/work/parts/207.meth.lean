def b_X12_friend_91 : SS → Int32 → Int32 → Int32 → Int32 → Int32 → Option (Int32 × SS) :=
  fx6 (fun (rec_91 : SS → Int32 → Int32 → Int32 → Int32 → Int32 → Option (Int32 × SS)) (q : SS) (l1 : Int32) (l2 : Int32) (l3 : Int32) (l4 : Int32) (l5 : Int32) =>
  if l4 < l5 then
  (some ((-2 : Int32), q))
  else
  ((f_X12_realOf q l1).bind fun r6 =>
  if ((12 : Int32) * (r6 + l5)) < (l2 * l3) then
  (rec_91 q l1 l2 l3 l4 (l5 + (1 : Int32)))
  else
  (some (l5, q)))) FU
theorem rb_X12_friend_91 {E : EE} (hE : GE E) (q : SS) (l1 : Int32) (l2 : Int32) (l3 : Int32) (l4 : Int32) (l5 : Int32) : R E (κI E) 2 255 91 [(0, .ref 60), (1, .int l1), (2, .int l2), (3, .int l3), (4, .int l4), (5, .int l5)] [] q (b_X12_friend_91 q l1 l2 l3 l4 l5) := by
  unfold b_X12_friend_91
  refine fx6_ok (P := fun q l1 l2 l3 l4 l5 o => R E (κI E) 2 255 91 [(0, .ref 60), (1, .int l1), (2, .int l2), (3, .int l3), (4, .int l4), (5, .int l5)] [] q o) (fun _ _ _ _ _ _ => r_no) (fun rec_91 hrec_91 q l1 l2 l3 l4 l5 => ?_) _ _ _ _ _ _ _
  refine r_iload (x := l5) dX12_friend_91 rfl ?_
  refine r_iload (x := l4) dX12_friend_93 rfl ?_
  refine r_icmp_gt (t := 124) dX12_friend_95 rfl (fun h8 => ?_) (fun h8 => ?_)
  · refine r_bipush (v := (-2 : Int32)) dX12_friend_124 rfl ?_
    exact r_ireturn dX12_friend_126 rfl rfl
  · refine r_bipush (v := (12 : Int32)) dX12_friend_98 rfl ?_
    refine r_aload_n (x := 60) dX12_friend_100 rfl ?_
    refine r_iload_n (x := l1) dX12_friend_101 rfl ?_
    refine r_calli (k := 0) (idx := 175) (y := 228) (as := [.ref 60, .int l1]) (rest := [.int (12 : Int32)]) (L0 := [(0, .ref 60), (1, .int l1)]) dX12_friend_102 rfl rfl rfl rfl rfl (vok_v (ob_60 hE) rfl) rfl (r_dep (by decide) (e_X12_realOf hE q l1)) (fun r6 => ?_)
    refine r_iload (x := l5) dX12_friend_105 rfl ?_
    refine r_iadd dX12_friend_107 ?_
    refine r_imul dX12_friend_108 ?_
    refine r_iload_n (x := l2) dX12_friend_109 rfl ?_
    refine r_iload_n (x := l3) dX12_friend_110 rfl ?_
    refine r_imul dX12_friend_111 ?_
    refine r_icmp_lt (t := 118) dX12_friend_112 rfl (fun h7 => ?_) (fun h7 => ?_)
    · refine r_iinc (x := l5) (v := (l5 + (1 : Int32))) (L2 := [(0, .ref 60), (1, .int l1), (2, .int l2), (3, .int l3), (4, .int l4), (5, .int (l5 + (1 : Int32)))]) dX12_friend_118 rfl rfl rfl rfl ?_
      refine r_goto (t := 91) dX12_friend_121 rfl ?_
      exact r_sub (L' := [(0, .ref 60), (1, .int l1), (2, .int l2), (3, .int l3), (4, .int l4), (5, .int (l5 + (1 : Int32)))]) (sub_c rfl (sub_c rfl (sub_c rfl (sub_c rfl (sub_c rfl (sub_c rfl sub_n)))))) (hrec_91 q l1 l2 l3 l4 (l5 + (1 : Int32)))
    · refine r_iload (x := l5) dX12_friend_115 rfl ?_
      exact r_ireturn dX12_friend_117 rfl rfl
def b_X12_friend_82 (rec_50 : SS → Int32 → Int32 → Int32 → Int32 → Int32 → Option (Int32 × SS)) (q : SS) (l1 : Int32) (l2 : Int32) (l3 : Int32) (l4 : Int32) (l5 : Int32) : Option (Int32 × SS) :=
  rec_50 q l1 l2 l3 l4 (l5 + (1 : Int32))
theorem rb_X12_friend_82 {E : EE} (hE : GE E) {rec_50 : SS → Int32 → Int32 → Int32 → Int32 → Int32 → Option (Int32 × SS)} (hrec_50 : ∀ (yq : SS) (yl1 : Int32) (yl2 : Int32) (yl3 : Int32) (yl4 : Int32) (yl5 : Int32), R E (κI E) 2 255 50 [(0, .ref 60), (1, .int yl1), (2, .int yl2), (3, .int yl3), (4, .int yl4), (5, .int yl5)] [] yq (rec_50 yq yl1 yl2 yl3 yl4 yl5)) (q : SS) (l1 : Int32) (l2 : Int32) (l3 : Int32) (l4 : Int32) (l5 : Int32) : R E (κI E) 2 255 82 [(0, .ref 60), (1, .int l1), (2, .int l2), (3, .int l3), (4, .int l4), (5, .int l5)] [] q (b_X12_friend_82 rec_50 q l1 l2 l3 l4 l5) := by
  unfold b_X12_friend_82
  refine r_iinc (x := l5) (v := (l5 + (1 : Int32))) (L2 := [(0, .ref 60), (1, .int l1), (2, .int l2), (3, .int l3), (4, .int l4), (5, .int (l5 + (1 : Int32)))]) dX12_friend_82 rfl rfl rfl rfl ?_
  refine r_goto (t := 50) dX12_friend_85 rfl ?_
  exact r_sub (L' := [(0, .ref 60), (1, .int l1), (2, .int l2), (3, .int l3), (4, .int l4), (5, .int (l5 + (1 : Int32)))]) (sub_c rfl (sub_c rfl (sub_c rfl (sub_c rfl (sub_c rfl (sub_c rfl sub_n)))))) (hrec_50 q l1 l2 l3 l4 (l5 + (1 : Int32)))
def b_X12_friend_50 : SS → Int32 → Int32 → Int32 → Int32 → Int32 → Option (Int32 × SS) :=
  fx6 (fun (rec_50 : SS → Int32 → Int32 → Int32 → Int32 → Int32 → Option (Int32 × SS)) (q : SS) (l1 : Int32) (l2 : Int32) (l3 : Int32) (l4 : Int32) (l5 : Int32) =>
  if (q.1 60 6) ≤ l5 then
  (b_X12_friend_91 q l1 l2 l3 l4 (0 : Int32))
  else
  (if vin l5 12 then
  if (q.1 66 l5.toNatClampNeg) = 0 then
  ((f_X12_maySlip q l5 l1).bind fun r9 =>
  if r9 = 0 then
  (b_X12_friend_82 rec_50 q l1 l2 l3 l4 l5)
  else
  (b_X12_friend_82 rec_50 q l1 l2 l3 (l4 + (1 : Int32)) l5))
  else
  (b_X12_friend_82 rec_50 q l1 l2 l3 l4 l5)
  else none)) FU
theorem rb_X12_friend_50 {E : EE} (hE : GE E) (q : SS) (l1 : Int32) (l2 : Int32) (l3 : Int32) (l4 : Int32) (l5 : Int32) : R E (κI E) 2 255 50 [(0, .ref 60), (1, .int l1), (2, .int l2), (3, .int l3), (4, .int l4), (5, .int l5)] [] q (b_X12_friend_50 q l1 l2 l3 l4 l5) := by
  unfold b_X12_friend_50
  refine fx6_ok (P := fun q l1 l2 l3 l4 l5 o => R E (κI E) 2 255 50 [(0, .ref 60), (1, .int l1), (2, .int l2), (3, .int l3), (4, .int l4), (5, .int l5)] [] q o) (fun _ _ _ _ _ _ => r_no) (fun rec_50 hrec_50 q l1 l2 l3 l4 l5 => ?_) _ _ _ _ _ _ _
  refine r_iload (x := l5) dX12_friend_50 rfl ?_
  refine r_aload_n (x := 60) dX12_friend_52 rfl ?_
  refine r_getI dX12_friend_53 (ff_12_122_60 hE) (by decide) ?_
  refine r_icmp_ge (t := 88) dX12_friend_56 rfl (fun h12 => ?_) (fun h12 => ?_)
  · refine r_iconst (v := (0 : Int32)) dX12_friend_88 rfl ?_
    refine r_istore (L2 := [(0, .ref 60), (1, .int l1), (2, .int l2), (3, .int l3), (4, .int l4), (5, .int (0 : Int32))]) dX12_friend_89 rfl rfl ?_
    exact r_sub (L' := [(0, .ref 60), (1, .int l1), (2, .int l2), (3, .int l3), (4, .int l4), (5, .int (0 : Int32))]) (sub_c rfl (sub_c rfl (sub_c rfl (sub_c rfl (sub_c rfl (sub_c rfl sub_n)))))) (rb_X12_friend_91 hE q l1 l2 l3 l4 (0 : Int32))
  · refine r_aload_n (x := 60) dX12_friend_59 rfl ?_
    refine r_getA dX12_friend_60 (fa_12_27_60 hE) ?_
    refine r_iload (x := l5) dX12_friend_63 rfl ?_
    refine r_iaload dX12_friend_65 (ar_66 hE) ?_
    refine r_if_ne (t := 82) dX12_friend_66 rfl (fun h11 => ?_) (fun h11 => ?_)
    · refine r_aload_n (x := 60) dX12_friend_69 rfl ?_
      refine r_iload (x := l5) dX12_friend_70 rfl ?_
      refine r_iload_n (x := l1) dX12_friend_72 rfl ?_
      refine r_calli (k := 0) (idx := 251) (y := 230) (as := [.ref 60, .int l5, .int l1]) (rest := []) (L0 := [(0, .ref 60), (1, .int l5), (2, .int l1)]) dX12_friend_73 rfl rfl rfl rfl rfl (vok_v (ob_60 hE) rfl) rfl (r_dep (by decide) (e_X12_maySlip hE q l5 l1)) (fun r9 => ?_)
      refine r_if_eq (t := 82) dX12_friend_76 rfl (fun h10 => ?_) (fun h10 => ?_)
      · exact r_sub (L' := [(0, .ref 60), (1, .int l1), (2, .int l2), (3, .int l3), (4, .int l4), (5, .int l5)]) (sub_c rfl (sub_c rfl (sub_c rfl (sub_c rfl (sub_c rfl (sub_c rfl sub_n)))))) (rb_X12_friend_82 hE hrec_50 q l1 l2 l3 l4 l5)
      · refine r_iinc (x := l4) (v := (l4 + (1 : Int32))) (L2 := [(0, .ref 60), (1, .int l1), (2, .int l2), (3, .int l3), (4, .int (l4 + (1 : Int32))), (5, .int l5)]) dX12_friend_79 rfl rfl rfl rfl ?_
        exact r_sub (L' := [(0, .ref 60), (1, .int l1), (2, .int l2), (3, .int l3), (4, .int (l4 + (1 : Int32))), (5, .int l5)]) (sub_c rfl (sub_c rfl (sub_c rfl (sub_c rfl (sub_c rfl (sub_c rfl sub_n)))))) (rb_X12_friend_82 hE hrec_50 q l1 l2 l3 (l4 + (1 : Int32)) l5)
    · exact r_sub (L' := [(0, .ref 60), (1, .int l1), (2, .int l2), (3, .int l3), (4, .int l4), (5, .int l5)]) (sub_c rfl (sub_c rfl (sub_c rfl (sub_c rfl (sub_c rfl (sub_c rfl sub_n)))))) (rb_X12_friend_82 hE hrec_50 q l1 l2 l3 l4 l5)
def f_X12_friend (q : SS) (a1 : Int32) (a2 : Int32) : Option (Int32 × SS) :=
  (f_X12_isOne q a1).bind fun r1 =>
  if r1 = 0 then
  (some ((-1 : Int32), q))
  else
  ((f_X12_in q a2 (0 : Int32) (12 : Int32)).bind fun r2 =>
  if r2 = 0 then
  (some ((-1 : Int32), q))
  else
  ((f_X12_layNow q).bind fun r3 =>
  (f_X12_allReal r3).bind fun r4 =>
  if r4 = 0 then
  (if a2 = 0 then
  (some ((0 : Int32), r3))
  else
  (some ((-2 : Int32), r3)))
  else
  (b_X12_friend_50 r3 a1 a2 r4 (0 : Int32) (0 : Int32))))
theorem e_X12_friend {E : EE} (hE : GE E) (q : SS) (a1 : Int32) (a2 : Int32) : R E (κI E) 2 255 0 [(0, .ref 60), (1, .int a1), (2, .int a2)] [] q (f_X12_friend q a1 a2) := by
  unfold f_X12_friend
  refine r_aload_n (x := 60) dX12_friend_0 rfl ?_
  refine r_iload_n (x := a1) dX12_friend_1 rfl ?_
  refine r_calli (k := 0) (idx := 125) (y := 191) (as := [.ref 60, .int a1]) (rest := []) (L0 := [(0, .ref 60), (1, .int a1)]) dX12_friend_2 rfl rfl rfl rfl rfl (vok_v (ob_60 hE) rfl) rfl (r_dep (by decide) (e_X12_isOne hE q a1)) (fun r1 => ?_)
  refine r_if_eq (t := 18) dX12_friend_5 rfl (fun h15 => ?_) (fun h15 => ?_)
  · refine r_iconst (v := (-1 : Int32)) dX12_friend_18 rfl ?_
    exact r_ireturn dX12_friend_19 rfl rfl
  · refine r_iload_n (x := a2) dX12_friend_8 rfl ?_
    refine r_iconst (v := (0 : Int32)) dX12_friend_9 rfl ?_
    refine r_bipush (v := (12 : Int32)) dX12_friend_10 rfl ?_
    refine r_calli (k := 2) (idx := 118) (y := 189) (as := [.int a2, .int (0 : Int32), .int (12 : Int32)]) (rest := []) (L0 := [(0, .int a2), (1, .int (0 : Int32)), (2, .int (12 : Int32))]) dX12_friend_12 rfl rfl rfl rfl rfl vok_s rfl (r_dep (by decide) (e_X12_in hE q a2 (0 : Int32) (12 : Int32))) (fun r2 => ?_)
    refine r_if_ne (t := 20) dX12_friend_15 rfl (fun h14 => ?_) (fun h14 => ?_)
    · refine r_iconst (v := (-1 : Int32)) dX12_friend_18 rfl ?_
      exact r_ireturn dX12_friend_19 rfl rfl
    · refine r_aload_n (x := 60) dX12_friend_20 rfl ?_
      refine r_callV (k := 0) (idx := 168) (y := 226) (as := [.ref 60]) (rest := []) (L0 := [(0, .ref 60)]) dX12_friend_21 rfl rfl rfl rfl rfl (vok_v (ob_60 hE) rfl) rfl (r_dep (by decide) (e_X12_layNow hE q)) (fun r3 => ?_)
      refine r_aload_n (x := 60) dX12_friend_24 rfl ?_
      refine r_calli (k := 0) (idx := 292) (y := 229) (as := [.ref 60]) (rest := []) (L0 := [(0, .ref 60)]) dX12_friend_25 rfl rfl rfl rfl rfl (vok_v (ob_60 hE) rfl) rfl (r_dep (by decide) (e_X12_allReal hE r3)) (fun r4 => ?_)
      refine r_istore_n (L2 := [(0, .ref 60), (1, .int a1), (2, .int a2), (3, .int r4)]) dX12_friend_28 rfl rfl ?_
      refine r_iload_n (x := r4) dX12_friend_29 rfl ?_
      refine r_if_ne (t := 44) dX12_friend_30 rfl (fun h13 => ?_) (fun h13 => ?_)
      · refine r_iload_n (x := a2) dX12_friend_33 rfl ?_
        refine r_if_ne (t := 41) dX12_friend_34 rfl (fun h5 => ?_) (fun h5 => ?_)
        · refine r_iconst (v := (0 : Int32)) dX12_friend_37 rfl ?_
          refine r_goto (t := 43) dX12_friend_38 rfl ?_
          exact r_ireturn dX12_friend_43 rfl rfl
        · refine r_bipush (v := (-2 : Int32)) dX12_friend_41 rfl ?_
          exact r_ireturn dX12_friend_43 rfl rfl
      · refine r_iconst (v := (0 : Int32)) dX12_friend_44 rfl ?_
        refine r_istore (L2 := [(0, .ref 60), (1, .int a1), (2, .int a2), (3, .int r4), (4, .int (0 : Int32))]) dX12_friend_45 rfl rfl ?_
        refine r_iconst (v := (0 : Int32)) dX12_friend_47 rfl ?_
        refine r_istore (L2 := [(0, .ref 60), (1, .int a1), (2, .int a2), (3, .int r4), (4, .int (0 : Int32)), (5, .int (0 : Int32))]) dX12_friend_48 rfl rfl ?_
        exact r_sub (L' := [(0, .ref 60), (1, .int a1), (2, .int a2), (3, .int r4), (4, .int (0 : Int32)), (5, .int (0 : Int32))]) (sub_c rfl (sub_c rfl (sub_c rfl (sub_c rfl (sub_c rfl (sub_c rfl sub_n)))))) (rb_X12_friend_50 hE r3 a1 a2 r4 (0 : Int32) (0 : Int32))
def b_X8_looseOf_38 (rec_4 : Int32 → Int32 → Int32 → Option Int32) (q : SS) (l1 : Int32) (l3 : Int32) (s0 : Int32) (s1 : Int32) : Option Int32 :=
  nm (s1 + s0) fun v4 =>
  rec_4 l1 v4 (l3 + (1 : Int32))
theorem rb_X8_looseOf_38 {E : EE} (hE : GE E) {q : SS} {rec_4 : Int32 → Int32 → Int32 → Option Int32} (hrec_4 : ∀ (yl1 : Int32) (yl2 : Int32) (yl3 : Int32), R E (κi E q) 3 103 4 [(0, .ref 24), (1, .int yl1), (2, .int yl2), (3, .int yl3)] [] q (rec_4 yl1 yl2 yl3)) (l1 : Int32) (l3 : Int32) (s0 : Int32) (s1 : Int32) : R E (κi E q) 3 103 38 [(0, .ref 24), (1, .int l1), (3, .int l3)] [.int s0, .int s1] q (b_X8_looseOf_38 rec_4 q l1 l3 s0 s1) := by
  unfold b_X8_looseOf_38
  refine r_iadd dX8_looseOf_38 ?_
  refine r_nmI fun v4 _ => ?_
  refine r_istore_n (L2 := [(0, .ref 24), (1, .int l1), (2, .int v4), (3, .int l3)]) dX8_looseOf_39 rfl rfl ?_
  refine r_iinc (x := l3) (v := (l3 + (1 : Int32))) (L2 := [(0, .ref 24), (1, .int l1), (2, .int v4), (3, .int (l3 + (1 : Int32)))]) dX8_looseOf_40 rfl rfl rfl rfl ?_
  refine r_goto (t := 4) dX8_looseOf_43 rfl ?_
  exact r_sub (L' := [(0, .ref 24), (1, .int l1), (2, .int v4), (3, .int (l3 + (1 : Int32)))]) (sub_c rfl (sub_c rfl (sub_c rfl (sub_c rfl sub_n)))) (hrec_4 l1 v4 (l3 + (1 : Int32)))
def b_X8_looseOf_37 (rec_4 : Int32 → Int32 → Int32 → Option Int32) (q : SS) (l1 : Int32) (l3 : Int32) (s0 : Int32) : Option Int32 :=
  b_X8_looseOf_38 rec_4 q l1 l3 (0 : Int32) s0
theorem rb_X8_looseOf_37 {E : EE} (hE : GE E) {q : SS} {rec_4 : Int32 → Int32 → Int32 → Option Int32} (hrec_4 : ∀ (yl1 : Int32) (yl2 : Int32) (yl3 : Int32), R E (κi E q) 3 103 4 [(0, .ref 24), (1, .int yl1), (2, .int yl2), (3, .int yl3)] [] q (rec_4 yl1 yl2 yl3)) (l1 : Int32) (l3 : Int32) (s0 : Int32) : R E (κi E q) 3 103 37 [(0, .ref 24), (1, .int l1), (3, .int l3)] [.int s0] q (b_X8_looseOf_37 rec_4 q l1 l3 s0) := by
  unfold b_X8_looseOf_37
  refine r_iconst (v := (0 : Int32)) dX8_looseOf_37 rfl ?_
  exact r_sub (L' := [(0, .ref 24), (1, .int l1), (3, .int l3)]) (sub_c rfl (sub_c rfl (sub_c rfl sub_n))) (rb_X8_looseOf_38 hE hrec_4 l1 l3 (0 : Int32) s0)
def b_X8_looseOf_4 (q : SS) : Int32 → Int32 → Int32 → Option Int32 :=
  fx3 (fun (rec_4 : Int32 → Int32 → Int32 → Option Int32) (l1 : Int32) (l2 : Int32) (l3 : Int32) =>
  (f_X10_tickets q).bind fun r1 =>
  if r1 ≤ l3 then
  (some l2)
  else
  ((f_X8_holderOf q l3).bind fun r2 =>
  if r2 = l1 then
  ((f_X8_isLoose q l3).bind fun r3 =>
  if r3 = 0 then
  (b_X8_looseOf_37 rec_4 q l1 l3 l2)
  else
  (b_X8_looseOf_38 rec_4 q l1 l3 (1 : Int32) l2))
  else
  (b_X8_looseOf_37 rec_4 q l1 l3 l2))) FU
theorem rb_X8_looseOf_4 {E : EE} (hE : GE E) (q : SS) (l1 : Int32) (l2 : Int32) (l3 : Int32) : R E (κi E q) 3 103 4 [(0, .ref 24), (1, .int l1), (2, .int l2), (3, .int l3)] [] q (b_X8_looseOf_4 q l1 l2 l3) := by
  unfold b_X8_looseOf_4
  refine fx3_ok (P := fun l1 l2 l3 o => R E (κi E q) 3 103 4 [(0, .ref 24), (1, .int l1), (2, .int l2), (3, .int l3)] [] q o) (fun _ _ _ => r_no) (fun rec_4 hrec_4 l1 l2 l3 => ?_) _ _ _ _
  refine r_iload_n (x := l3) dX8_looseOf_4 rfl ?_
  refine r_aload_n (x := 24) dX8_looseOf_5 rfl ?_
  refine r_getA dX8_looseOf_6 (fa_8_9_24 hE) ?_
  refine r_calli (k := 0) (idx := 33) (y := 126) (as := [.ref 1]) (rest := [.int l3]) (L0 := [(0, .ref 1)]) dX8_looseOf_9 rfl rfl rfl rfl rfl (vok_v (ob_1 hE) rfl) rfl (r_dep (by decide) (e_X10_tickets hE q)) (fun r1 => ?_)
  refine r_icmp_ge (t := 46) dX8_looseOf_12 rfl (fun h7 => ?_) (fun h7 => ?_)
  · refine r_iload_n (x := l2) dX8_looseOf_46 rfl ?_
    exact r_ireturn dX8_looseOf_47 rfl rfl
  · refine r_iload_n (x := l2) dX8_looseOf_15 rfl ?_
    refine r_aload_n (x := 24) dX8_looseOf_16 rfl ?_
    refine r_iload_n (x := l3) dX8_looseOf_17 rfl ?_
    refine r_calli (k := 0) (idx := 37) (y := 98) (as := [.ref 24, .int l3]) (rest := [.int l2]) (L0 := [(0, .ref 24), (1, .int l3)]) dX8_looseOf_18 rfl rfl rfl rfl rfl (vok_v (ob_24 hE) rfl) rfl (r_dep (by decide) (e_X8_holderOf hE q l3)) (fun r2 => ?_)
    refine r_iload_n (x := l1) dX8_looseOf_21 rfl ?_
    refine r_icmp_ne (t := 37) dX8_looseOf_22 rfl (fun h6 => ?_) (fun h6 => ?_)
    · refine r_aload_n (x := 24) dX8_looseOf_25 rfl ?_
      refine r_iload_n (x := l3) dX8_looseOf_26 rfl ?_
      refine r_calli (k := 0) (idx := 44) (y := 106) (as := [.ref 24, .int l3]) (rest := [.int l2]) (L0 := [(0, .ref 24), (1, .int l3)]) dX8_looseOf_27 rfl rfl rfl rfl rfl (vok_v (ob_24 hE) rfl) rfl (r_dep (by decide) (e_X8_isLoose hE q l3)) (fun r3 => ?_)
      refine r_if_eq (t := 37) dX8_looseOf_30 rfl (fun h5 => ?_) (fun h5 => ?_)
      · exact r_sub (L' := [(0, .ref 24), (1, .int l1), (3, .int l3)]) (sub_c rfl (sub_c rfl (sub_c rfl sub_n))) (rb_X8_looseOf_37 hE hrec_4 l1 l3 l2)
      · refine r_iconst (v := (1 : Int32)) dX8_looseOf_33 rfl ?_
        refine r_goto (t := 38) dX8_looseOf_34 rfl ?_
        exact r_sub (L' := [(0, .ref 24), (1, .int l1), (3, .int l3)]) (sub_c rfl (sub_c rfl (sub_c rfl sub_n))) (rb_X8_looseOf_38 hE hrec_4 l1 l3 (1 : Int32) l2)
    · exact r_sub (L' := [(0, .ref 24), (1, .int l1), (3, .int l3)]) (sub_c rfl (sub_c rfl (sub_c rfl sub_n))) (rb_X8_looseOf_37 hE hrec_4 l1 l3 l2)
def f_X8_looseOf (q : SS) (a1 : Int32) : Option Int32 :=
  b_X8_looseOf_4 q a1 (0 : Int32) (0 : Int32)
theorem e_X8_looseOf {E : EE} (hE : GE E) (q : SS) (a1 : Int32) : R E (κi E q) 3 103 0 [(0, .ref 24), (1, .int a1)] [] q (f_X8_looseOf q a1) := by
  unfold f_X8_looseOf
  refine r_iconst (v := (0 : Int32)) dX8_looseOf_0 rfl ?_
  refine r_istore_n (L2 := [(0, .ref 24), (1, .int a1), (2, .int (0 : Int32))]) dX8_looseOf_1 rfl rfl ?_
  refine r_iconst (v := (0 : Int32)) dX8_looseOf_2 rfl ?_
  refine r_istore_n (L2 := [(0, .ref 24), (1, .int a1), (2, .int (0 : Int32)), (3, .int (0 : Int32))]) dX8_looseOf_3 rfl rfl ?_
  exact r_sub (L' := [(0, .ref 24), (1, .int a1), (2, .int (0 : Int32)), (3, .int (0 : Int32))]) (sub_c rfl (sub_c rfl (sub_c rfl (sub_c rfl sub_n)))) (rb_X8_looseOf_4 hE q a1 (0 : Int32) (0 : Int32))
def b_X11_takesFor_35 (q : SS) (l2 : Int32) (s0 : Int32) : Option Int32 :=
  if s0 = 0 then
  (some (0 : Int32))
  else
  ((f_X10_get q (3 : Int32) l2).bind fun r1 =>
  some r1)
theorem rb_X11_takesFor_35 {E : EE} (hE : GE E) (q : SS) (l2 : Int32) (s0 : Int32) : R E (κi E q) 2 162 35 [(0, .ref 0), (2, .int l2)] [.int s0] q (b_X11_takesFor_35 q l2 s0) := by
  unfold b_X11_takesFor_35
  refine r_istore (L2 := [(0, .ref 0), (2, .int l2), (4, .int s0)]) dX11_takesFor_35 rfl rfl ?_
  refine r_iload (x := s0) dX11_takesFor_37 rfl ?_
  refine r_if_eq (t := 54) dX11_takesFor_39 rfl (fun h2 => ?_) (fun h2 => ?_)
  · refine r_iconst (v := (0 : Int32)) dX11_takesFor_54 rfl ?_
    exact r_ireturn dX11_takesFor_55 rfl rfl
  · refine r_aload_n (x := 0) dX11_takesFor_42 rfl ?_
    refine r_getA dX11_takesFor_43 (fa_11_10_0 hE) ?_
    refine r_iconst (v := (3 : Int32)) dX11_takesFor_46 rfl ?_
    refine r_iload_n (x := l2) dX11_takesFor_47 rfl ?_
    refine r_calli (k := 0) (idx := 129) (y := 134) (as := [.ref 1, .int (3 : Int32), .int l2]) (rest := []) (L0 := [(0, .ref 1), (1, .int (3 : Int32)), (2, .int l2)]) dX11_takesFor_48 rfl rfl rfl rfl rfl (vok_v (ob_1 hE) rfl) rfl (r_dep (by decide) (e_X10_get hE q (3 : Int32) l2)) (fun r1 => ?_)
    refine r_goto (t := 55) dX11_takesFor_51 rfl ?_
    exact r_ireturn dX11_takesFor_55 rfl rfl
def b_X11_takesFor_34 (q : SS) (l2 : Int32) : Option Int32 :=
  b_X11_takesFor_35 q l2 (0 : Int32)
theorem rb_X11_takesFor_34 {E : EE} (hE : GE E) (q : SS) (l2 : Int32) : R E (κi E q) 2 162 34 [(0, .ref 0), (2, .int l2)] [] q (b_X11_takesFor_34 q l2) := by
  unfold b_X11_takesFor_34
  refine r_iconst (v := (0 : Int32)) dX11_takesFor_34 rfl ?_
  exact r_sub (L' := [(0, .ref 0), (2, .int l2)]) (sub_c rfl (sub_c rfl sub_n)) (rb_X11_takesFor_35 hE q l2 (0 : Int32))
def f_X11_takesFor (q : SS) (a1 : Int32) (a2 : Int32) (a3 : Int32) : Option Int32 :=
  if a2 = a1 then
  (b_X11_takesFor_34 q a2)
  else
  ((f_X10_get q (1 : Int32) a2).bind fun r3 =>
  if r3 = 0 then
  ((f_X10_get q (2 : Int32) a2).bind fun r4 =>
  if r4 = a3 then
  (b_X11_takesFor_35 q a2 (1 : Int32))
  else
  (b_X11_takesFor_34 q a2))
  else
  (b_X11_takesFor_34 q a2))
theorem e_X11_takesFor {E : EE} (hE : GE E) (q : SS) (a1 : Int32) (a2 : Int32) (a3 : Int32) : R E (κi E q) 2 162 0 [(0, .ref 0), (1, .int a1), (2, .int a2), (3, .int a3)] [] q (f_X11_takesFor q a1 a2 a3) := by
  unfold f_X11_takesFor
  refine r_iload_n (x := a2) dX11_takesFor_0 rfl ?_
  refine r_iload_n (x := a1) dX11_takesFor_1 rfl ?_
  refine r_icmp_eq (t := 34) dX11_takesFor_2 rfl (fun h7 => ?_) (fun h7 => ?_)
  · exact r_sub (L' := [(0, .ref 0), (2, .int a2)]) (sub_c rfl (sub_c rfl sub_n)) (rb_X11_takesFor_34 hE q a2)
  · refine r_aload_n (x := 0) dX11_takesFor_5 rfl ?_
    refine r_getA dX11_takesFor_6 (fa_11_10_0 hE) ?_
    refine r_iconst (v := (1 : Int32)) dX11_takesFor_9 rfl ?_
    refine r_iload_n (x := a2) dX11_takesFor_10 rfl ?_
    refine r_calli (k := 0) (idx := 129) (y := 134) (as := [.ref 1, .int (1 : Int32), .int a2]) (rest := []) (L0 := [(0, .ref 1), (1, .int (1 : Int32)), (2, .int a2)]) dX11_takesFor_11 rfl rfl rfl rfl rfl (vok_v (ob_1 hE) rfl) rfl (r_dep (by decide) (e_X10_get hE q (1 : Int32) a2)) (fun r3 => ?_)
    refine r_if_ne (t := 34) dX11_takesFor_14 rfl (fun h6 => ?_) (fun h6 => ?_)
    · refine r_aload_n (x := 0) dX11_takesFor_17 rfl ?_
      refine r_getA dX11_takesFor_18 (fa_11_10_0 hE) ?_
      refine r_iconst (v := (2 : Int32)) dX11_takesFor_21 rfl ?_
      refine r_iload_n (x := a2) dX11_takesFor_22 rfl ?_
      refine r_calli (k := 0) (idx := 129) (y := 134) (as := [.ref 1, .int (2 : Int32), .int a2]) (rest := []) (L0 := [(0, .ref 1), (1, .int (2 : Int32)), (2, .int a2)]) dX11_takesFor_23 rfl rfl rfl rfl rfl (vok_v (ob_1 hE) rfl) rfl (r_dep (by decide) (e_X10_get hE q (2 : Int32) a2)) (fun r4 => ?_)
      refine r_iload_n (x := a3) dX11_takesFor_26 rfl ?_
      refine r_icmp_ne (t := 34) dX11_takesFor_27 rfl (fun h5 => ?_) (fun h5 => ?_)
      · refine r_iconst (v := (1 : Int32)) dX11_takesFor_30 rfl ?_
        refine r_goto (t := 35) dX11_takesFor_31 rfl ?_
        exact r_sub (L' := [(0, .ref 0), (2, .int a2)]) (sub_c rfl (sub_c rfl sub_n)) (rb_X11_takesFor_35 hE q a2 (1 : Int32))
      · exact r_sub (L' := [(0, .ref 0), (2, .int a2)]) (sub_c rfl (sub_c rfl sub_n)) (rb_X11_takesFor_34 hE q a2)
    · exact r_sub (L' := [(0, .ref 0), (2, .int a2)]) (sub_c rfl (sub_c rfl sub_n)) (rb_X11_takesFor_34 hE q a2)
def b_X11_hire_146 (q : SS) (l3 : Int32) (l4 : Int32) (l5 : Int32) (l6 : Int32) : Option (Int32 × SS) :=
  if l4 ≤ 0 then
  (if l3 = 0 then
  (some (l5, q))
  else
  (some (l6, q)))
  else
  (some ((-2 : Int32), q))
theorem rb_X11_hire_146 {E : EE} (hE : GE E) (q : SS) (l3 : Int32) (l4 : Int32) (l5 : Int32) (l6 : Int32) : R E (κI E) 4 161 146 [(3, .int l3), (4, .int l4), (5, .int l5), (6, .int l6)] [] q (b_X11_hire_146 q l3 l4 l5 l6) := by
  unfold b_X11_hire_146
  refine r_iload (x := l4) dX11_hire_146 rfl ?_
  refine r_if_le (t := 154) dX11_hire_148 rfl (fun h5 => ?_) (fun h5 => ?_)
  · refine r_iload_n (x := l3) dX11_hire_154 rfl ?_
    refine r_if_ne (t := 163) dX11_hire_155 rfl (fun h4 => ?_) (fun h4 => ?_)
    · refine r_iload (x := l5) dX11_hire_158 rfl ?_
      refine r_goto (t := 165) dX11_hire_160 rfl ?_
      exact r_ireturn dX11_hire_165 rfl rfl
    · refine r_iload (x := l6) dX11_hire_163 rfl ?_
      exact r_ireturn dX11_hire_165 rfl rfl
  · refine r_bipush (v := (-2 : Int32)) dX11_hire_151 rfl ?_
    exact r_ireturn dX11_hire_153 rfl rfl
def b_X11_hire_140 (rec_60 : SS → Int32 → Int32 → Int32 → Int32 → Int32 → Int32 → Option (Int32 × SS)) (q : SS) (l1 : Int32) (l3 : Int32) (l4 : Int32) (l5 : Int32) (l6 : Int32) (l7 : Int32) : Option (Int32 × SS) :=
  rec_60 q l1 l3 l4 l5 l6 (l7 + (1 : Int32))
theorem rb_X11_hire_140 {E : EE} (hE : GE E) {rec_60 : SS → Int32 → Int32 → Int32 → Int32 → Int32 → Int32 → Option (Int32 × SS)} (hrec_60 : ∀ (yq : SS) (yl1 : Int32) (yl3 : Int32) (yl4 : Int32) (yl5 : Int32) (yl6 : Int32) (yl7 : Int32), R E (κI E) 4 161 60 [(0, .ref 0), (1, .int yl1), (3, .int yl3), (4, .int yl4), (5, .int yl5), (6, .int yl6), (7, .int yl7)] [] yq (rec_60 yq yl1 yl3 yl4 yl5 yl6 yl7)) (q : SS) (l1 : Int32) (l3 : Int32) (l4 : Int32) (l5 : Int32) (l6 : Int32) (l7 : Int32) : R E (κI E) 4 161 140 [(0, .ref 0), (1, .int l1), (3, .int l3), (4, .int l4), (5, .int l5), (6, .int l6), (7, .int l7)] [] q (b_X11_hire_140 rec_60 q l1 l3 l4 l5 l6 l7) := by
  unfold b_X11_hire_140
  refine r_iinc (x := l7) (v := (l7 + (1 : Int32))) (L2 := [(0, .ref 0), (1, .int l1), (3, .int l3), (4, .int l4), (5, .int l5), (6, .int l6), (7, .int (l7 + (1 : Int32)))]) dX11_hire_140 rfl rfl rfl rfl ?_
  refine r_goto (t := 60) dX11_hire_143 rfl ?_
  exact r_sub (L' := [(0, .ref 0), (1, .int l1), (3, .int l3), (4, .int l4), (5, .int l5), (6, .int l6), (7, .int (l7 + (1 : Int32)))]) (sub_c rfl (sub_c rfl (sub_c rfl (sub_c rfl (sub_c rfl (sub_c rfl (sub_c rfl sub_n))))))) (hrec_60 q l1 l3 l4 l5 l6 (l7 + (1 : Int32)))
def b_X11_hire_134 (rec_60 : SS → Int32 → Int32 → Int32 → Int32 → Int32 → Int32 → Option (Int32 × SS)) (rec_75 : SS → Int32 → Int32 → Int32 → Int32 → Int32 → Int32 → Int32 → Option (Int32 × SS)) (q : SS) (l1 : Int32) (l3 : Int32) (l4 : Int32) (l5 : Int32) (l6 : Int32) (l7 : Int32) (l8 : Int32) : Option (Int32 × SS) :=
  rec_75 q l1 l3 l4 l5 l6 l7 (l8 + (1 : Int32))
theorem rb_X11_hire_134 {E : EE} (hE : GE E) {rec_60 : SS → Int32 → Int32 → Int32 → Int32 → Int32 → Int32 → Option (Int32 × SS)} (hrec_60 : ∀ (yq : SS) (yl1 : Int32) (yl3 : Int32) (yl4 : Int32) (yl5 : Int32) (yl6 : Int32) (yl7 : Int32), R E (κI E) 4 161 60 [(0, .ref 0), (1, .int yl1), (3, .int yl3), (4, .int yl4), (5, .int yl5), (6, .int yl6), (7, .int yl7)] [] yq (rec_60 yq yl1 yl3 yl4 yl5 yl6 yl7)) {rec_75 : SS → Int32 → Int32 → Int32 → Int32 → Int32 → Int32 → Int32 → Option (Int32 × SS)} (hrec_75 : ∀ (yq : SS) (yl1 : Int32) (yl3 : Int32) (yl4 : Int32) (yl5 : Int32) (yl6 : Int32) (yl7 : Int32) (yl8 : Int32), R E (κI E) 4 161 75 [(0, .ref 0), (1, .int yl1), (3, .int yl3), (4, .int yl4), (5, .int yl5), (6, .int yl6), (7, .int yl7), (8, .int yl8)] [] yq (rec_75 yq yl1 yl3 yl4 yl5 yl6 yl7 yl8)) (q : SS) (l1 : Int32) (l3 : Int32) (l4 : Int32) (l5 : Int32) (l6 : Int32) (l7 : Int32) (l8 : Int32) : R E (κI E) 4 161 134 [(0, .ref 0), (1, .int l1), (3, .int l3), (4, .int l4), (5, .int l5), (6, .int l6), (7, .int l7), (8, .int l8)] [] q (b_X11_hire_134 rec_60 rec_75 q l1 l3 l4 l5 l6 l7 l8) := by
  unfold b_X11_hire_134
  refine r_iinc (x := l8) (v := (l8 + (1 : Int32))) (L2 := [(0, .ref 0), (1, .int l1), (3, .int l3), (4, .int l4), (5, .int l5), (6, .int l6), (7, .int l7), (8, .int (l8 + (1 : Int32)))]) dX11_hire_134 rfl rfl rfl rfl ?_
  refine r_goto (t := 75) dX11_hire_137 rfl ?_
  exact r_sub (L' := [(0, .ref 0), (1, .int l1), (3, .int l3), (4, .int l4), (5, .int l5), (6, .int l6), (7, .int l7), (8, .int (l8 + (1 : Int32)))]) (sub_c rfl (sub_c rfl (sub_c rfl (sub_c rfl (sub_c rfl (sub_c rfl (sub_c rfl (sub_c rfl sub_n)))))))) (hrec_75 q l1 l3 l4 l5 l6 l7 (l8 + (1 : Int32)))
def b_X11_hire_75 (rec_60 : SS → Int32 → Int32 → Int32 → Int32 → Int32 → Int32 → Option (Int32 × SS)) : SS → Int32 → Int32 → Int32 → Int32 → Int32 → Int32 → Int32 → Option (Int32 × SS) :=
  fx8 (fun (rec_75 : SS → Int32 → Int32 → Int32 → Int32 → Int32 → Int32 → Int32 → Option (Int32 × SS)) (q : SS) (l1 : Int32) (l3 : Int32) (l4 : Int32) (l5 : Int32) (l6 : Int32) (l7 : Int32) (l8 : Int32) =>
  (f_X10_people q).bind fun r6 =>
  if r6 ≤ l8 then
  (b_X11_hire_140 rec_60 q l1 l3 l4 l5 l6 l7)
  else
  (if l4 ≤ 0 then
  (b_X11_hire_140 rec_60 q l1 l3 l4 l5 l6 l7)
  else
  ((f_X11_takesFor q l1 l8 l7).bind fun r7 =>
  nm (jmin l4 r7) fun v8 =>
  if v8 ≤ 0 then
  (b_X11_hire_134 rec_60 rec_75 q l1 l3 l4 l5 l6 l7 l8)
  else
  (nm (l4 - v8) fun v9 =>
  nm (l5 + (v8 * l7)) fun v10 =>
  b_X11_hire_134 rec_60 rec_75 q l1 l3 v9 v10 l8 l7 l8)))) FU
theorem rb_X11_hire_75 {E : EE} (hE : GE E) {rec_60 : SS → Int32 → Int32 → Int32 → Int32 → Int32 → Int32 → Option (Int32 × SS)} (hrec_60 : ∀ (yq : SS) (yl1 : Int32) (yl3 : Int32) (yl4 : Int32) (yl5 : Int32) (yl6 : Int32) (yl7 : Int32), R E (κI E) 4 161 60 [(0, .ref 0), (1, .int yl1), (3, .int yl3), (4, .int yl4), (5, .int yl5), (6, .int yl6), (7, .int yl7)] [] yq (rec_60 yq yl1 yl3 yl4 yl5 yl6 yl7)) (q : SS) (l1 : Int32) (l3 : Int32) (l4 : Int32) (l5 : Int32) (l6 : Int32) (l7 : Int32) (l8 : Int32) : R E (κI E) 4 161 75 [(0, .ref 0), (1, .int l1), (3, .int l3), (4, .int l4), (5, .int l5), (6, .int l6), (7, .int l7), (8, .int l8)] [] q (b_X11_hire_75 rec_60 q l1 l3 l4 l5 l6 l7 l8) := by
  unfold b_X11_hire_75
  refine fx8_ok (P := fun q l1 l3 l4 l5 l6 l7 l8 o => R E (κI E) 4 161 75 [(0, .ref 0), (1, .int l1), (3, .int l3), (4, .int l4), (5, .int l5), (6, .int l6), (7, .int l7), (8, .int l8)] [] q o) (fun _ _ _ _ _ _ _ _ => r_no) (fun rec_75 hrec_75 q l1 l3 l4 l5 l6 l7 l8 => ?_) _ _ _ _ _ _ _ _ _
  refine r_iload (x := l8) dX11_hire_75 rfl ?_
  refine r_aload_n (x := 0) dX11_hire_77 rfl ?_
  refine r_getA dX11_hire_78 (fa_11_10_0 hE) ?_
  refine r_calli (k := 0) (idx := 226) (y := 125) (as := [.ref 1]) (rest := [.int l8]) (L0 := [(0, .ref 1)]) dX11_hire_81 rfl rfl rfl rfl rfl (vok_v (ob_1 hE) rfl) rfl (r_dep (by decide) (e_X10_people hE q)) (fun r6 => ?_)
  refine r_icmp_ge (t := 140) dX11_hire_84 rfl (fun h13 => ?_) (fun h13 => ?_)
  · exact r_sub (L' := [(0, .ref 0), (1, .int l1), (3, .int l3), (4, .int l4), (5, .int l5), (6, .int l6), (7, .int l7)]) (sub_c rfl (sub_c rfl (sub_c rfl (sub_c rfl (sub_c rfl (sub_c rfl (sub_c rfl sub_n))))))) (rb_X11_hire_140 hE hrec_60 q l1 l3 l4 l5 l6 l7)
  · refine r_iload (x := l4) dX11_hire_87 rfl ?_
    refine r_if_le (t := 140) dX11_hire_89 rfl (fun h12 => ?_) (fun h12 => ?_)
    · exact r_sub (L' := [(0, .ref 0), (1, .int l1), (3, .int l3), (4, .int l4), (5, .int l5), (6, .int l6), (7, .int l7)]) (sub_c rfl (sub_c rfl (sub_c rfl (sub_c rfl (sub_c rfl (sub_c rfl (sub_c rfl sub_n))))))) (rb_X11_hire_140 hE hrec_60 q l1 l3 l4 l5 l6 l7)
    · refine r_iload (x := l4) dX11_hire_92 rfl ?_
      refine r_aload_n (x := 0) dX11_hire_94 rfl ?_
      refine r_iload_n (x := l1) dX11_hire_95 rfl ?_
      refine r_iload (x := l8) dX11_hire_96 rfl ?_
      refine r_iload (x := l7) dX11_hire_98 rfl ?_
      refine r_calli (k := 0) (idx := 250) (y := 162) (as := [.ref 0, .int l1, .int l8, .int l7]) (rest := [.int l4]) (L0 := [(0, .ref 0), (1, .int l1), (2, .int l8), (3, .int l7)]) dX11_hire_100 rfl rfl rfl rfl rfl (vok_v (ob_0 hE) rfl) rfl (r_dep (by decide) (e_X11_takesFor hE q l1 l8 l7)) (fun r7 => ?_)
      refine r_mm (j := 1) (v := (jmin l4 r7)) dX11_hire_103 ⟨rfl, rfl, rfl, rfl⟩ rfl rfl ?_
      refine r_nmI fun v8 _ => ?_
      refine r_istore (L2 := [(0, .ref 0), (1, .int l1), (3, .int l3), (4, .int l4), (5, .int l5), (6, .int l6), (7, .int l7), (8, .int l8), (9, .int v8)]) dX11_hire_106 rfl rfl ?_
      refine r_iload (x := v8) dX11_hire_108 rfl ?_
      refine r_if_le (t := 134) dX11_hire_110 rfl (fun h11 => ?_) (fun h11 => ?_)
      · exact r_sub (L' := [(0, .ref 0), (1, .int l1), (3, .int l3), (4, .int l4), (5, .int l5), (6, .int l6), (7, .int l7), (8, .int l8)]) (sub_c rfl (sub_c rfl (sub_c rfl (sub_c rfl (sub_c rfl (sub_c rfl (sub_c rfl (sub_c rfl sub_n)))))))) (rb_X11_hire_134 hE hrec_60 hrec_75 q l1 l3 l4 l5 l6 l7 l8)
      · refine r_iload (x := l4) dX11_hire_113 rfl ?_
        refine r_iload (x := v8) dX11_hire_115 rfl ?_
        refine r_isub dX11_hire_117 ?_
        refine r_nmI fun v9 _ => ?_
        refine r_istore (L2 := [(0, .ref 0), (1, .int l1), (3, .int l3), (4, .int v9), (5, .int l5), (6, .int l6), (7, .int l7), (8, .int l8), (9, .int v8)]) dX11_hire_118 rfl rfl ?_
        refine r_iload (x := l5) dX11_hire_120 rfl ?_
        refine r_iload (x := v8) dX11_hire_122 rfl ?_
        refine r_iload (x := l7) dX11_hire_124 rfl ?_
        refine r_imul dX11_hire_126 ?_
        refine r_iadd dX11_hire_127 ?_
        refine r_nmI fun v10 _ => ?_
        refine r_istore (L2 := [(0, .ref 0), (1, .int l1), (3, .int l3), (4, .int v9), (5, .int v10), (6, .int l6), (7, .int l7), (8, .int l8), (9, .int v8)]) dX11_hire_128 rfl rfl ?_
        refine r_iload (x := l8) dX11_hire_130 rfl ?_
        refine r_istore (L2 := [(0, .ref 0), (1, .int l1), (3, .int l3), (4, .int v9), (5, .int v10), (6, .int l8), (7, .int l7), (8, .int l8), (9, .int v8)]) dX11_hire_132 rfl rfl ?_
        exact r_sub (L' := [(0, .ref 0), (1, .int l1), (3, .int l3), (4, .int v9), (5, .int v10), (6, .int l8), (7, .int l7), (8, .int l8)]) (sub_c rfl (sub_c rfl (sub_c rfl (sub_c rfl (sub_c rfl (sub_c rfl (sub_c rfl (sub_c rfl sub_n)))))))) (rb_X11_hire_134 hE hrec_60 hrec_75 q l1 l3 v9 v10 l8 l7 l8)
def b_X11_hire_60 : SS → Int32 → Int32 → Int32 → Int32 → Int32 → Int32 → Option (Int32 × SS) :=
  fx7 (fun (rec_60 : SS → Int32 → Int32 → Int32 → Int32 → Int32 → Int32 → Option (Int32 × SS)) (q : SS) (l1 : Int32) (l3 : Int32) (l4 : Int32) (l5 : Int32) (l6 : Int32) (l7 : Int32) =>
  if (99 : Int32) < l7 then
  (b_X11_hire_146 q l3 l4 l5 l6)
  else
  (if l4 ≤ 0 then
  (b_X11_hire_146 q l3 l4 l5 l6)
  else
  (b_X11_hire_75 rec_60 q l1 l3 l4 l5 l6 l7 (0 : Int32)))) FU
theorem rb_X11_hire_60 {E : EE} (hE : GE E) (q : SS) (l1 : Int32) (l3 : Int32) (l4 : Int32) (l5 : Int32) (l6 : Int32) (l7 : Int32) : R E (κI E) 4 161 60 [(0, .ref 0), (1, .int l1), (3, .int l3), (4, .int l4), (5, .int l5), (6, .int l6), (7, .int l7)] [] q (b_X11_hire_60 q l1 l3 l4 l5 l6 l7) := by
  unfold b_X11_hire_60
  refine fx7_ok (P := fun q l1 l3 l4 l5 l6 l7 o => R E (κI E) 4 161 60 [(0, .ref 0), (1, .int l1), (3, .int l3), (4, .int l4), (5, .int l5), (6, .int l6), (7, .int l7)] [] q o) (fun _ _ _ _ _ _ _ => r_no) (fun rec_60 hrec_60 q l1 l3 l4 l5 l6 l7 => ?_) _ _ _ _ _ _ _ _
  refine r_iload (x := l7) dX11_hire_60 rfl ?_
  refine r_bipush (v := (99 : Int32)) dX11_hire_62 rfl ?_
  refine r_icmp_gt (t := 146) dX11_hire_64 rfl (fun h15 => ?_) (fun h15 => ?_)
  · exact r_sub (L' := [(3, .int l3), (4, .int l4), (5, .int l5), (6, .int l6)]) (sub_c rfl (sub_c rfl (sub_c rfl (sub_c rfl sub_n)))) (rb_X11_hire_146 hE q l3 l4 l5 l6)
  · refine r_iload (x := l4) dX11_hire_67 rfl ?_
    refine r_if_le (t := 146) dX11_hire_69 rfl (fun h14 => ?_) (fun h14 => ?_)
    · exact r_sub (L' := [(3, .int l3), (4, .int l4), (5, .int l5), (6, .int l6)]) (sub_c rfl (sub_c rfl (sub_c rfl (sub_c rfl sub_n)))) (rb_X11_hire_146 hE q l3 l4 l5 l6)
    · refine r_iconst (v := (0 : Int32)) dX11_hire_72 rfl ?_
      refine r_istore (L2 := [(0, .ref 0), (1, .int l1), (3, .int l3), (4, .int l4), (5, .int l5), (6, .int l6), (7, .int l7), (8, .int (0 : Int32))]) dX11_hire_73 rfl rfl ?_
      exact r_sub (L' := [(0, .ref 0), (1, .int l1), (3, .int l3), (4, .int l4), (5, .int l5), (6, .int l6), (7, .int l7), (8, .int (0 : Int32))]) (sub_c rfl (sub_c rfl (sub_c rfl (sub_c rfl (sub_c rfl (sub_c rfl (sub_c rfl (sub_c rfl sub_n)))))))) (rb_X11_hire_75 hE hrec_60 q l1 l3 l4 l5 l6 l7 (0 : Int32))
def f_X11_hire (q : SS) (a1 : Int32) (a2 : Int32) (a3 : Int32) : Option (Int32 × SS) :=
  (f_X10_isPerson q a1).bind fun r1 =>
  if r1 = 0 then
  (some ((-1 : Int32), q))
  else
  (if a2 < 0 then
  (some ((-1 : Int32), q))
  else
  (if (12 : Int32) < a2 then
  (some ((-1 : Int32), q))
  else
  (if a3 < 0 then
  (some ((-1 : Int32), q))
  else
  (if a3 ≤ (1 : Int32) then
  ((f_X11_now q).bind fun r2 =>
  (f_X8_looseOf r2 a1).bind fun r3 =>
  if a2 ≤ r3 then
  (b_X11_hire_60 r2 a1 a3 a2 (0 : Int32) (-2 : Int32) (0 : Int32))
  else
  (some ((-2 : Int32), r2)))
  else
  (some ((-1 : Int32), q))))))
theorem e_X11_hire {E : EE} (hE : GE E) (q : SS) (a1 : Int32) (a2 : Int32) (a3 : Int32) : R E (κI E) 4 161 0 [(0, .ref 0), (1, .int a1), (2, .int a2), (3, .int a3)] [] q (f_X11_hire q a1 a2 a3) := by
  unfold f_X11_hire
  refine r_aload_n (x := 0) dX11_hire_0 rfl ?_
  refine r_getA dX11_hire_1 (fa_11_10_0 hE) ?_
  refine r_iload_n (x := a1) dX11_hire_4 rfl ?_
  refine r_calli (k := 0) (idx := 140) (y := 128) (as := [.ref 1, .int a1]) (rest := []) (L0 := [(0, .ref 1), (1, .int a1)]) dX11_hire_5 rfl rfl rfl rfl rfl (vok_v (ob_1 hE) rfl) rfl (r_dep (by decide) (e_X10_isPerson hE q a1)) (fun r1 => ?_)
  refine r_if_eq (t := 30) dX11_hire_8 rfl (fun h21 => ?_) (fun h21 => ?_)
  · refine r_iconst (v := (-1 : Int32)) dX11_hire_30 rfl ?_
    exact r_ireturn dX11_hire_31 rfl rfl
  · refine r_iload_n (x := a2) dX11_hire_11 rfl ?_
    refine r_if_lt (t := 30) dX11_hire_12 rfl (fun h20 => ?_) (fun h20 => ?_)
    · refine r_iconst (v := (-1 : Int32)) dX11_hire_30 rfl ?_
      exact r_ireturn dX11_hire_31 rfl rfl
    · refine r_iload_n (x := a2) dX11_hire_15 rfl ?_
      refine r_bipush (v := (12 : Int32)) dX11_hire_16 rfl ?_
      refine r_icmp_gt (t := 30) dX11_hire_18 rfl (fun h19 => ?_) (fun h19 => ?_)
      · refine r_iconst (v := (-1 : Int32)) dX11_hire_30 rfl ?_
        exact r_ireturn dX11_hire_31 rfl rfl
      · refine r_iload_n (x := a3) dX11_hire_21 rfl ?_
        refine r_if_lt (t := 30) dX11_hire_22 rfl (fun h18 => ?_) (fun h18 => ?_)
        · refine r_iconst (v := (-1 : Int32)) dX11_hire_30 rfl ?_
          exact r_ireturn dX11_hire_31 rfl rfl
        · refine r_iload_n (x := a3) dX11_hire_25 rfl ?_
          refine r_iconst (v := (1 : Int32)) dX11_hire_26 rfl ?_
          refine r_icmp_le (t := 32) dX11_hire_27 rfl (fun h17 => ?_) (fun h17 => ?_)
          · refine r_aload_n (x := 0) dX11_hire_32 rfl ?_
            refine r_callA (k := 0) (idx := 143) (y := 148) (as := [.ref 0]) (rest := []) (L0 := [(0, .ref 0)]) dX11_hire_33 rfl rfl rfl rfl rfl (vok_v (ob_0 hE) rfl) rfl (r_dep (by decide) (e_X11_now hE q)) (fun r2 => ?_)
            refine r_iload_n (x := a1) dX11_hire_36 rfl ?_
            refine r_calli (k := 0) (idx := 247) (y := 103) (as := [.ref 24, .int a1]) (rest := []) (L0 := [(0, .ref 24), (1, .int a1)]) dX11_hire_37 rfl rfl rfl rfl rfl (vok_v (ob_24 hE) rfl) rfl (r_dep (by decide) (e_X8_looseOf hE r2 a1)) (fun r3 => ?_)
            refine r_iload_n (x := a2) dX11_hire_40 rfl ?_
            refine r_icmp_ge (t := 47) dX11_hire_41 rfl (fun h16 => ?_) (fun h16 => ?_)
            · refine r_iload_n (x := a2) dX11_hire_47 rfl ?_
              refine r_istore (L2 := [(0, .ref 0), (1, .int a1), (2, .int a2), (3, .int a3), (4, .int a2)]) dX11_hire_48 rfl rfl ?_
              refine r_iconst (v := (0 : Int32)) dX11_hire_50 rfl ?_
              refine r_istore (L2 := [(0, .ref 0), (1, .int a1), (2, .int a2), (3, .int a3), (4, .int a2), (5, .int (0 : Int32))]) dX11_hire_51 rfl rfl ?_
              refine r_bipush (v := (-2 : Int32)) dX11_hire_53 rfl ?_
              refine r_istore (L2 := [(0, .ref 0), (1, .int a1), (2, .int a2), (3, .int a3), (4, .int a2), (5, .int (0 : Int32)), (6, .int (-2 : Int32))]) dX11_hire_55 rfl rfl ?_
              refine r_iconst (v := (0 : Int32)) dX11_hire_57 rfl ?_
              refine r_istore (L2 := [(0, .ref 0), (1, .int a1), (2, .int a2), (3, .int a3), (4, .int a2), (5, .int (0 : Int32)), (6, .int (-2 : Int32)), (7, .int (0 : Int32))]) dX11_hire_58 rfl rfl ?_
              exact r_sub (L' := [(0, .ref 0), (1, .int a1), (3, .int a3), (4, .int a2), (5, .int (0 : Int32)), (6, .int (-2 : Int32)), (7, .int (0 : Int32))]) (sub_c rfl (sub_c rfl (sub_c rfl (sub_c rfl (sub_c rfl (sub_c rfl (sub_c rfl sub_n))))))) (rb_X11_hire_60 hE r2 a1 a3 a2 (0 : Int32) (-2 : Int32) (0 : Int32))
            · refine r_bipush (v := (-2 : Int32)) dX11_hire_44 rfl ?_
              exact r_ireturn dX11_hire_46 rfl rfl
          · refine r_iconst (v := (-1 : Int32)) dX11_hire_30 rfl ?_
            exact r_ireturn dX11_hire_31 rfl rfl
def b_X12_hire_205 (rec_147 : SS → Int32 → Int32 → Int32 → Int32 → Int32 → Option (Int32 × SS)) (rec_160 : SS → Int32 → Int32 → Int32 → Int32 → Int32 → Int32 → Option (Int32 × SS)) (q : SS) (l2 : Int32) (l3 : Int32) (l5 : Int32) (l7 : Int32) (l8 : Int32) (l9 : Int32) : Option (Int32 × SS) :=
  rec_160 q l2 l3 l5 l7 l8 (l9 + (1 : Int32))
theorem rb_X12_hire_205 {E : EE} (hE : GE E) {rec_147 : SS → Int32 → Int32 → Int32 → Int32 → Int32 → Option (Int32 × SS)} (hrec_147 : ∀ (yq : SS) (yl2 : Int32) (yl3 : Int32) (yl5 : Int32) (yl6 : Int32) (yl7 : Int32), R E (κI E) 2 254 147 [(0, .ref 60), (2, .int yl2), (3, .int yl3), (5, .int yl5), (6, .int yl6), (7, .int yl7)] [] yq (rec_147 yq yl2 yl3 yl5 yl6 yl7)) {rec_160 : SS → Int32 → Int32 → Int32 → Int32 → Int32 → Int32 → Option (Int32 × SS)} (hrec_160 : ∀ (yq : SS) (yl2 : Int32) (yl3 : Int32) (yl5 : Int32) (yl7 : Int32) (yl8 : Int32) (yl9 : Int32), R E (κI E) 2 254 160 [(0, .ref 60), (2, .int yl2), (3, .int yl3), (5, .int yl5), (7, .int yl7), (8, .int yl8), (9, .int yl9)] [] yq (rec_160 yq yl2 yl3 yl5 yl7 yl8 yl9)) (q : SS) (l2 : Int32) (l3 : Int32) (l5 : Int32) (l7 : Int32) (l8 : Int32) (l9 : Int32) : R E (κI E) 2 254 205 [(0, .ref 60), (2, .int l2), (3, .int l3), (5, .int l5), (7, .int l7), (8, .int l8), (9, .int l9)] [] q (b_X12_hire_205 rec_147 rec_160 q l2 l3 l5 l7 l8 l9) := by
  unfold b_X12_hire_205
  refine r_iinc (x := l9) (v := (l9 + (1 : Int32))) (L2 := [(0, .ref 60), (2, .int l2), (3, .int l3), (5, .int l5), (7, .int l7), (8, .int l8), (9, .int (l9 + (1 : Int32)))]) dX12_hire_205 rfl rfl rfl rfl ?_
  refine r_goto (t := 160) dX12_hire_208 rfl ?_
  exact r_sub (L' := [(0, .ref 60), (2, .int l2), (3, .int l3), (5, .int l5), (7, .int l7), (8, .int l8), (9, .int (l9 + (1 : Int32)))]) (sub_c rfl (sub_c rfl (sub_c rfl (sub_c rfl (sub_c rfl (sub_c rfl (sub_c rfl sub_n))))))) (hrec_160 q l2 l3 l5 l7 l8 (l9 + (1 : Int32)))
def b_X12_hire_201 (rec_147 : SS → Int32 → Int32 → Int32 → Int32 → Int32 → Option (Int32 × SS)) (rec_160 : SS → Int32 → Int32 → Int32 → Int32 → Int32 → Int32 → Option (Int32 × SS)) (q : SS) (l2 : Int32) (l3 : Int32) (l5 : Int32) (l7 : Int32) (l9 : Int32) : Option (Int32 × SS) :=
  b_X12_hire_205 rec_147 rec_160 q l2 l3 l5 l7 l9 l9
theorem rb_X12_hire_201 {E : EE} (hE : GE E) {rec_147 : SS → Int32 → Int32 → Int32 → Int32 → Int32 → Option (Int32 × SS)} (hrec_147 : ∀ (yq : SS) (yl2 : Int32) (yl3 : Int32) (yl5 : Int32) (yl6 : Int32) (yl7 : Int32), R E (κI E) 2 254 147 [(0, .ref 60), (2, .int yl2), (3, .int yl3), (5, .int yl5), (6, .int yl6), (7, .int yl7)] [] yq (rec_147 yq yl2 yl3 yl5 yl6 yl7)) {rec_160 : SS → Int32 → Int32 → Int32 → Int32 → Int32 → Int32 → Option (Int32 × SS)} (hrec_160 : ∀ (yq : SS) (yl2 : Int32) (yl3 : Int32) (yl5 : Int32) (yl7 : Int32) (yl8 : Int32) (yl9 : Int32), R E (κI E) 2 254 160 [(0, .ref 60), (2, .int yl2), (3, .int yl3), (5, .int yl5), (7, .int yl7), (8, .int yl8), (9, .int yl9)] [] yq (rec_160 yq yl2 yl3 yl5 yl7 yl8 yl9)) (q : SS) (l2 : Int32) (l3 : Int32) (l5 : Int32) (l7 : Int32) (l9 : Int32) : R E (κI E) 2 254 201 [(0, .ref 60), (2, .int l2), (3, .int l3), (5, .int l5), (7, .int l7), (9, .int l9)] [] q (b_X12_hire_201 rec_147 rec_160 q l2 l3 l5 l7 l9) := by
  unfold b_X12_hire_201
  refine r_iload (x := l9) dX12_hire_201 rfl ?_
  refine r_istore (L2 := [(0, .ref 60), (2, .int l2), (3, .int l3), (5, .int l5), (7, .int l7), (8, .int l9), (9, .int l9)]) dX12_hire_203 rfl rfl ?_
  exact r_sub (L' := [(0, .ref 60), (2, .int l2), (3, .int l3), (5, .int l5), (7, .int l7), (8, .int l9), (9, .int l9)]) (sub_c rfl (sub_c rfl (sub_c rfl (sub_c rfl (sub_c rfl (sub_c rfl (sub_c rfl sub_n))))))) (rb_X12_hire_205 hE hrec_147 hrec_160 q l2 l3 l5 l7 l9 l9)
def b_X12_hire_160 (rec_147 : SS → Int32 → Int32 → Int32 → Int32 → Int32 → Option (Int32 × SS)) : SS → Int32 → Int32 → Int32 → Int32 → Int32 → Int32 → Option (Int32 × SS) :=
  fx7 (fun (rec_160 : SS → Int32 → Int32 → Int32 → Int32 → Int32 → Int32 → Option (Int32 × SS)) (q : SS) (l2 : Int32) (l3 : Int32) (l5 : Int32) (l7 : Int32) (l8 : Int32) (l9 : Int32) =>
  if (q.1 60 1) ≤ l9 then
  (if 0 ≤ l8 then
  (if vin l8 6 then
  if vin l8 6 then
  nm (sI q 82 l8.toNatClampNeg ((q.1 82 l8.toNatClampNeg) - (1 : Int32))) fun q5 =>
  if vin l8 6 then
  nm (l5 + (q5.1 63 l8.toNatClampNeg)) fun v6 =>
  rec_147 q5 l2 l3 v6 l8 (l7 + (1 : Int32))
  else none
  else none
  else none)
  else
  (some ((-2 : Int32), q)))
  else
  (if vin l9 6 then
  if (q.1 82 l9.toNatClampNeg) ≤ 0 then
  (b_X12_hire_205 rec_147 rec_160 q l2 l3 l5 l7 l8 l9)
  else
  (if l8 < 0 then
  (b_X12_hire_201 rec_147 rec_160 q l2 l3 l5 l7 l9)
  else
  (if vin l9 6 then
  if vin l8 6 then
  if (q.1 63 l8.toNatClampNeg) ≤ (q.1 63 l9.toNatClampNeg) then
  (b_X12_hire_205 rec_147 rec_160 q l2 l3 l5 l7 l8 l9)
  else
  (b_X12_hire_201 rec_147 rec_160 q l2 l3 l5 l7 l9)
  else none
  else none))
  else none)) FU
theorem rb_X12_hire_160 {E : EE} (hE : GE E) {rec_147 : SS → Int32 → Int32 → Int32 → Int32 → Int32 → Option (Int32 × SS)} (hrec_147 : ∀ (yq : SS) (yl2 : Int32) (yl3 : Int32) (yl5 : Int32) (yl6 : Int32) (yl7 : Int32), R E (κI E) 2 254 147 [(0, .ref 60), (2, .int yl2), (3, .int yl3), (5, .int yl5), (6, .int yl6), (7, .int yl7)] [] yq (rec_147 yq yl2 yl3 yl5 yl6 yl7)) (q : SS) (l2 : Int32) (l3 : Int32) (l5 : Int32) (l7 : Int32) (l8 : Int32) (l9 : Int32) : R E (κI E) 2 254 160 [(0, .ref 60), (2, .int l2), (3, .int l3), (5, .int l5), (7, .int l7), (8, .int l8), (9, .int l9)] [] q (b_X12_hire_160 rec_147 q l2 l3 l5 l7 l8 l9) := by
  unfold b_X12_hire_160
  refine fx7_ok (P := fun q l2 l3 l5 l7 l8 l9 o => R E (κI E) 2 254 160 [(0, .ref 60), (2, .int l2), (3, .int l3), (5, .int l5), (7, .int l7), (8, .int l8), (9, .int l9)] [] q o) (fun _ _ _ _ _ _ _ => r_no) (fun rec_160 hrec_160 q l2 l3 l5 l7 l8 l9 => ?_) _ _ _ _ _ _ _ _
  refine r_iload (x := l9) dX12_hire_160 rfl ?_
  refine r_aload_n (x := 60) dX12_hire_162 rfl ?_
  refine r_getI dX12_hire_163 (ff_12_115_60 hE) (by decide) ?_
  refine r_icmp_ge (t := 211) dX12_hire_166 rfl (fun h11 => ?_) (fun h11 => ?_)
  · refine r_iload (x := l8) dX12_hire_211 rfl ?_
    refine r_if_ge (t := 219) dX12_hire_213 rfl (fun h7 => ?_) (fun h7 => ?_)
    · refine r_aload_n (x := 60) dX12_hire_219 rfl ?_
      refine r_getA dX12_hire_220 (fa_12_77_60 hE) ?_
      refine r_iload (x := l8) dX12_hire_223 rfl ?_
      refine r_dup2 dX12_hire_225 ⟨rfl, rfl⟩ ?_
      refine r_iaload dX12_hire_226 (ar_82 hE) ?_
      refine r_iconst (v := (1 : Int32)) dX12_hire_227 rfl ?_
      refine r_isub dX12_hire_228 ?_
      refine r_iastore dX12_hire_229 (ar_82 hE) ?_
      refine r_nmS fun q5 _ => ?_
      refine r_iload (x := l5) dX12_hire_230 rfl ?_
      refine r_aload_n (x := 60) dX12_hire_232 rfl ?_
      refine r_getA dX12_hire_233 (fa_12_18_60 hE) ?_
      refine r_iload (x := l8) dX12_hire_236 rfl ?_
      refine r_iaload dX12_hire_238 (ar_63 hE) ?_
      refine r_iadd dX12_hire_239 ?_
      refine r_nmI fun v6 _ => ?_
      refine r_istore (L2 := [(0, .ref 60), (2, .int l2), (3, .int l3), (5, .int v6), (7, .int l7), (8, .int l8), (9, .int l9)]) dX12_hire_240 rfl rfl ?_
      refine r_iload (x := l8) dX12_hire_242 rfl ?_
      refine r_istore (L2 := [(0, .ref 60), (2, .int l2), (3, .int l3), (5, .int v6), (6, .int l8), (7, .int l7), (8, .int l8), (9, .int l9)]) dX12_hire_244 rfl rfl ?_
      refine r_iinc (x := l7) (v := (l7 + (1 : Int32))) (L2 := [(0, .ref 60), (2, .int l2), (3, .int l3), (5, .int v6), (6, .int l8), (7, .int (l7 + (1 : Int32))), (8, .int l8), (9, .int l9)]) dX12_hire_246 rfl rfl rfl rfl ?_
      refine r_goto (t := 147) dX12_hire_249 rfl ?_
      exact r_sub (L' := [(0, .ref 60), (2, .int l2), (3, .int l3), (5, .int v6), (6, .int l8), (7, .int (l7 + (1 : Int32)))]) (sub_c rfl (sub_c rfl (sub_c rfl (sub_c rfl (sub_c rfl (sub_c rfl sub_n)))))) (hrec_147 q5 l2 l3 v6 l8 (l7 + (1 : Int32)))
    · refine r_bipush (v := (-2 : Int32)) dX12_hire_216 rfl ?_
      exact r_ireturn dX12_hire_218 rfl rfl
  · refine r_aload_n (x := 60) dX12_hire_169 rfl ?_
    refine r_getA dX12_hire_170 (fa_12_77_60 hE) ?_
    refine r_iload (x := l9) dX12_hire_173 rfl ?_
    refine r_iaload dX12_hire_175 (ar_82 hE) ?_
    refine r_if_le (t := 205) dX12_hire_176 rfl (fun h10 => ?_) (fun h10 => ?_)
    · exact r_sub (L' := [(0, .ref 60), (2, .int l2), (3, .int l3), (5, .int l5), (7, .int l7), (8, .int l8), (9, .int l9)]) (sub_c rfl (sub_c rfl (sub_c rfl (sub_c rfl (sub_c rfl (sub_c rfl (sub_c rfl sub_n))))))) (rb_X12_hire_205 hE hrec_147 hrec_160 q l2 l3 l5 l7 l8 l9)
    · refine r_iload (x := l8) dX12_hire_179 rfl ?_
      refine r_if_lt (t := 201) dX12_hire_181 rfl (fun h9 => ?_) (fun h9 => ?_)
      · exact r_sub (L' := [(0, .ref 60), (2, .int l2), (3, .int l3), (5, .int l5), (7, .int l7), (9, .int l9)]) (sub_c rfl (sub_c rfl (sub_c rfl (sub_c rfl (sub_c rfl (sub_c rfl sub_n)))))) (rb_X12_hire_201 hE hrec_147 hrec_160 q l2 l3 l5 l7 l9)
      · refine r_aload_n (x := 60) dX12_hire_184 rfl ?_
        refine r_getA dX12_hire_185 (fa_12_18_60 hE) ?_
        refine r_iload (x := l9) dX12_hire_188 rfl ?_
        refine r_iaload dX12_hire_190 (ar_63 hE) ?_
        refine r_aload_n (x := 60) dX12_hire_191 rfl ?_
        refine r_getA dX12_hire_192 (fa_12_18_60 hE) ?_
        refine r_iload (x := l8) dX12_hire_195 rfl ?_
        refine r_iaload dX12_hire_197 (ar_63 hE) ?_
        refine r_icmp_ge (t := 205) dX12_hire_198 rfl (fun h8 => ?_) (fun h8 => ?_)
        · exact r_sub (L' := [(0, .ref 60), (2, .int l2), (3, .int l3), (5, .int l5), (7, .int l7), (8, .int l8), (9, .int l9)]) (sub_c rfl (sub_c rfl (sub_c rfl (sub_c rfl (sub_c rfl (sub_c rfl (sub_c rfl sub_n))))))) (rb_X12_hire_205 hE hrec_147 hrec_160 q l2 l3 l5 l7 l8 l9)
        · exact r_sub (L' := [(0, .ref 60), (2, .int l2), (3, .int l3), (5, .int l5), (7, .int l7), (9, .int l9)]) (sub_c rfl (sub_c rfl (sub_c rfl (sub_c rfl (sub_c rfl (sub_c rfl sub_n)))))) (rb_X12_hire_201 hE hrec_147 hrec_160 q l2 l3 l5 l7 l9)
def b_X12_hire_147 : SS → Int32 → Int32 → Int32 → Int32 → Int32 → Option (Int32 × SS) :=
  fx6 (fun (rec_147 : SS → Int32 → Int32 → Int32 → Int32 → Int32 → Option (Int32 × SS)) (q : SS) (l2 : Int32) (l3 : Int32) (l5 : Int32) (l6 : Int32) (l7 : Int32) =>
  if l2 ≤ l7 then
  (if l3 = 0 then
  (some (l5, q))
  else
  (some (l6, q)))
  else
  (b_X12_hire_160 rec_147 q l2 l3 l5 l7 (-2 : Int32) (0 : Int32))) FU
theorem rb_X12_hire_147 {E : EE} (hE : GE E) (q : SS) (l2 : Int32) (l3 : Int32) (l5 : Int32) (l6 : Int32) (l7 : Int32) : R E (κI E) 2 254 147 [(0, .ref 60), (2, .int l2), (3, .int l3), (5, .int l5), (6, .int l6), (7, .int l7)] [] q (b_X12_hire_147 q l2 l3 l5 l6 l7) := by
  unfold b_X12_hire_147
  refine fx6_ok (P := fun q l2 l3 l5 l6 l7 o => R E (κI E) 2 254 147 [(0, .ref 60), (2, .int l2), (3, .int l3), (5, .int l5), (6, .int l6), (7, .int l7)] [] q o) (fun _ _ _ _ _ _ => r_no) (fun rec_147 hrec_147 q l2 l3 l5 l6 l7 => ?_) _ _ _ _ _ _ _
  refine r_iload (x := l7) dX12_hire_147 rfl ?_
  refine r_iload_n (x := l2) dX12_hire_149 rfl ?_
  refine r_icmp_ge (t := 252) dX12_hire_150 rfl (fun h12 => ?_) (fun h12 => ?_)
  · refine r_iload_n (x := l3) dX12_hire_252 rfl ?_
    refine r_if_ne (t := 261) dX12_hire_253 rfl (fun h4 => ?_) (fun h4 => ?_)
    · refine r_iload (x := l5) dX12_hire_256 rfl ?_
      refine r_goto (t := 263) dX12_hire_258 rfl ?_
      exact r_ireturn dX12_hire_263 rfl rfl
    · refine r_iload (x := l6) dX12_hire_261 rfl ?_
      exact r_ireturn dX12_hire_263 rfl rfl
  · refine r_bipush (v := (-2 : Int32)) dX12_hire_153 rfl ?_
    refine r_istore (L2 := [(0, .ref 60), (2, .int l2), (3, .int l3), (5, .int l5), (6, .int l6), (7, .int l7), (8, .int (-2 : Int32))]) dX12_hire_155 rfl rfl ?_
    refine r_iconst (v := (0 : Int32)) dX12_hire_157 rfl ?_
    refine r_istore (L2 := [(0, .ref 60), (2, .int l2), (3, .int l3), (5, .int l5), (6, .int l6), (7, .int l7), (8, .int (-2 : Int32)), (9, .int (0 : Int32))]) dX12_hire_158 rfl rfl ?_
    exact r_sub (L' := [(0, .ref 60), (2, .int l2), (3, .int l3), (5, .int l5), (7, .int l7), (8, .int (-2 : Int32)), (9, .int (0 : Int32))]) (sub_c rfl (sub_c rfl (sub_c rfl (sub_c rfl (sub_c rfl (sub_c rfl (sub_c rfl sub_n))))))) (rb_X12_hire_160 hE hrec_147 q l2 l3 l5 l7 (-2 : Int32) (0 : Int32))
def b_X12_hire_130 (rec_87 : SS → Int32 → Int32 → Int32 → Int32 → Option (Int32 × SS)) (q : SS) (l1 : Int32) (l2 : Int32) (l3 : Int32) (l5 : Int32) (s0 : Int32) (s1 : Int32) : Option (Int32 × SS) :=
  if vin s1 6 then
  nm (sI q 82 s1.toNatClampNeg s0) fun q13 =>
  rec_87 q13 l1 l2 l3 (l5 + (1 : Int32))
  else none
theorem rb_X12_hire_130 {E : EE} (hE : GE E) {rec_87 : SS → Int32 → Int32 → Int32 → Int32 → Option (Int32 × SS)} (hrec_87 : ∀ (yq : SS) (yl1 : Int32) (yl2 : Int32) (yl3 : Int32) (yl5 : Int32), R E (κI E) 2 254 87 [(0, .ref 60), (1, .int yl1), (2, .int yl2), (3, .int yl3), (5, .int yl5)] [] yq (rec_87 yq yl1 yl2 yl3 yl5)) (q : SS) (l1 : Int32) (l2 : Int32) (l3 : Int32) (l5 : Int32) (s0 : Int32) (s1 : Int32) : R E (κI E) 2 254 130 [(0, .ref 60), (1, .int l1), (2, .int l2), (3, .int l3), (5, .int l5)] [.int s0, .int s1, .ref 82] q (b_X12_hire_130 rec_87 q l1 l2 l3 l5 s0 s1) := by
  unfold b_X12_hire_130
  refine r_iastore dX12_hire_130 (ar_82 hE) ?_
  refine r_nmS fun q13 _ => ?_
  refine r_iinc (x := l5) (v := (l5 + (1 : Int32))) (L2 := [(0, .ref 60), (1, .int l1), (2, .int l2), (3, .int l3), (5, .int (l5 + (1 : Int32)))]) dX12_hire_131 rfl rfl rfl rfl ?_
  refine r_goto (t := 87) dX12_hire_134 rfl ?_
  exact r_sub (L' := [(0, .ref 60), (1, .int l1), (2, .int l2), (3, .int l3), (5, .int (l5 + (1 : Int32)))]) (sub_c rfl (sub_c rfl (sub_c rfl (sub_c rfl (sub_c rfl sub_n))))) (hrec_87 q13 l1 l2 l3 (l5 + (1 : Int32)))
def b_X12_hire_119 (rec_87 : SS → Int32 → Int32 → Int32 → Int32 → Option (Int32 × SS)) (q : SS) (l1 : Int32) (l2 : Int32) (l3 : Int32) (l5 : Int32) (s0 : Int32) : Option (Int32 × SS) :=
  b_X12_hire_130 rec_87 q l1 l2 l3 l5 (0 : Int32) s0
theorem rb_X12_hire_119 {E : EE} (hE : GE E) {rec_87 : SS → Int32 → Int32 → Int32 → Int32 → Option (Int32 × SS)} (hrec_87 : ∀ (yq : SS) (yl1 : Int32) (yl2 : Int32) (yl3 : Int32) (yl5 : Int32), R E (κI E) 2 254 87 [(0, .ref 60), (1, .int yl1), (2, .int yl2), (3, .int yl3), (5, .int yl5)] [] yq (rec_87 yq yl1 yl2 yl3 yl5)) (q : SS) (l1 : Int32) (l2 : Int32) (l3 : Int32) (l5 : Int32) (s0 : Int32) : R E (κI E) 2 254 119 [(0, .ref 60), (1, .int l1), (2, .int l2), (3, .int l3), (5, .int l5)] [.int s0, .ref 82] q (b_X12_hire_119 rec_87 q l1 l2 l3 l5 s0) := by
  unfold b_X12_hire_119
  refine r_iconst (v := (0 : Int32)) dX12_hire_119 rfl ?_
  refine r_goto (t := 130) dX12_hire_120 rfl ?_
  exact r_sub (L' := [(0, .ref 60), (1, .int l1), (2, .int l2), (3, .int l3), (5, .int l5)]) (sub_c rfl (sub_c rfl (sub_c rfl (sub_c rfl (sub_c rfl sub_n))))) (rb_X12_hire_130 hE hrec_87 q l1 l2 l3 l5 (0 : Int32) s0)
def b_X12_hire_87 : SS → Int32 → Int32 → Int32 → Int32 → Option (Int32 × SS) :=
  fx5 (fun (rec_87 : SS → Int32 → Int32 → Int32 → Int32 → Option (Int32 × SS)) (q : SS) (l1 : Int32) (l2 : Int32) (l3 : Int32) (l5 : Int32) =>
  if (q.1 60 1) ≤ l5 then
  (b_X12_hire_147 q l2 l3 (0 : Int32) (-2 : Int32) (0 : Int32))
  else
  (if l5 = l1 then
  (b_X12_hire_119 rec_87 q l1 l2 l3 l5 l5)
  else
  (if vin l5 6 then
  if (q.1 62 l5.toNatClampNeg) = (1 : Int32) then
  (b_X12_hire_119 rec_87 q l1 l2 l3 l5 l5)
  else
  (if vin l5 6 then
  b_X12_hire_130 rec_87 q l1 l2 l3 l5 (q.1 64 l5.toNatClampNeg) l5
  else none)
  else none))) FU
theorem rb_X12_hire_87 {E : EE} (hE : GE E) (q : SS) (l1 : Int32) (l2 : Int32) (l3 : Int32) (l5 : Int32) : R E (κI E) 2 254 87 [(0, .ref 60), (1, .int l1), (2, .int l2), (3, .int l3), (5, .int l5)] [] q (b_X12_hire_87 q l1 l2 l3 l5) := by
  unfold b_X12_hire_87
  refine fx5_ok (P := fun q l1 l2 l3 l5 o => R E (κI E) 2 254 87 [(0, .ref 60), (1, .int l1), (2, .int l2), (3, .int l3), (5, .int l5)] [] q o) (fun _ _ _ _ _ => r_no) (fun rec_87 hrec_87 q l1 l2 l3 l5 => ?_) _ _ _ _ _ _
  refine r_iload (x := l5) dX12_hire_87 rfl ?_
  refine r_aload_n (x := 60) dX12_hire_89 rfl ?_
  refine r_getI dX12_hire_90 (ff_12_115_60 hE) (by decide) ?_
  refine r_icmp_ge (t := 137) dX12_hire_93 rfl (fun h16 => ?_) (fun h16 => ?_)
  · refine r_iconst (v := (0 : Int32)) dX12_hire_137 rfl ?_
    refine r_istore (L2 := [(0, .ref 60), (1, .int l1), (2, .int l2), (3, .int l3), (5, .int (0 : Int32))]) dX12_hire_138 rfl rfl ?_
    refine r_bipush (v := (-2 : Int32)) dX12_hire_140 rfl ?_
    refine r_istore (L2 := [(0, .ref 60), (1, .int l1), (2, .int l2), (3, .int l3), (5, .int (0 : Int32)), (6, .int (-2 : Int32))]) dX12_hire_142 rfl rfl ?_
    refine r_iconst (v := (0 : Int32)) dX12_hire_144 rfl ?_
    refine r_istore (L2 := [(0, .ref 60), (1, .int l1), (2, .int l2), (3, .int l3), (5, .int (0 : Int32)), (6, .int (-2 : Int32)), (7, .int (0 : Int32))]) dX12_hire_145 rfl rfl ?_
    exact r_sub (L' := [(0, .ref 60), (2, .int l2), (3, .int l3), (5, .int (0 : Int32)), (6, .int (-2 : Int32)), (7, .int (0 : Int32))]) (sub_c rfl (sub_c rfl (sub_c rfl (sub_c rfl (sub_c rfl (sub_c rfl sub_n)))))) (rb_X12_hire_147 hE q l2 l3 (0 : Int32) (-2 : Int32) (0 : Int32))
  · refine r_aload_n (x := 60) dX12_hire_96 rfl ?_
    refine r_getA dX12_hire_97 (fa_12_77_60 hE) ?_
    refine r_iload (x := l5) dX12_hire_100 rfl ?_
    refine r_iload (x := l5) dX12_hire_102 rfl ?_
    refine r_iload_n (x := l1) dX12_hire_104 rfl ?_
    refine r_icmp_eq (t := 119) dX12_hire_105 rfl (fun h15 => ?_) (fun h15 => ?_)
    · exact r_sub (L' := [(0, .ref 60), (1, .int l1), (2, .int l2), (3, .int l3), (5, .int l5)]) (sub_c rfl (sub_c rfl (sub_c rfl (sub_c rfl (sub_c rfl sub_n))))) (rb_X12_hire_119 hE hrec_87 q l1 l2 l3 l5 l5)
    · refine r_aload_n (x := 60) dX12_hire_108 rfl ?_
      refine r_getA dX12_hire_109 (fa_12_15_60 hE) ?_
      refine r_iload (x := l5) dX12_hire_112 rfl ?_
      refine r_iaload dX12_hire_114 (ar_62 hE) ?_
      refine r_iconst (v := (1 : Int32)) dX12_hire_115 rfl ?_
      refine r_icmp_ne (t := 123) dX12_hire_116 rfl (fun h14 => ?_) (fun h14 => ?_)
      · exact r_sub (L' := [(0, .ref 60), (1, .int l1), (2, .int l2), (3, .int l3), (5, .int l5)]) (sub_c rfl (sub_c rfl (sub_c rfl (sub_c rfl (sub_c rfl sub_n))))) (rb_X12_hire_119 hE hrec_87 q l1 l2 l3 l5 l5)
      · refine r_aload_n (x := 60) dX12_hire_123 rfl ?_
        refine r_getA dX12_hire_124 (fa_12_21_60 hE) ?_
        refine r_iload (x := l5) dX12_hire_127 rfl ?_
        refine r_iaload dX12_hire_129 (ar_64 hE) ?_
        exact r_sub (L' := [(0, .ref 60), (1, .int l1), (2, .int l2), (3, .int l3), (5, .int l5)]) (sub_c rfl (sub_c rfl (sub_c rfl (sub_c rfl (sub_c rfl sub_n))))) (rb_X12_hire_130 hE hrec_87 q l1 l2 l3 l5 (q.1 64 l5.toNatClampNeg) l5)
def b_X12_hire_69 (rec_35 : SS → Int32 → Int32 → Int32 → Int32 → Int32 → Option (Int32 × SS)) (q : SS) (l1 : Int32) (l2 : Int32) (l3 : Int32) (l4 : Int32) (l5 : Int32) : Option (Int32 × SS) :=
  rec_35 q l1 l2 l3 l4 (l5 + (1 : Int32))
theorem rb_X12_hire_69 {E : EE} (hE : GE E) {rec_35 : SS → Int32 → Int32 → Int32 → Int32 → Int32 → Option (Int32 × SS)} (hrec_35 : ∀ (yq : SS) (yl1 : Int32) (yl2 : Int32) (yl3 : Int32) (yl4 : Int32) (yl5 : Int32), R E (κI E) 2 254 35 [(0, .ref 60), (1, .int yl1), (2, .int yl2), (3, .int yl3), (4, .int yl4), (5, .int yl5)] [] yq (rec_35 yq yl1 yl2 yl3 yl4 yl5)) (q : SS) (l1 : Int32) (l2 : Int32) (l3 : Int32) (l4 : Int32) (l5 : Int32) : R E (κI E) 2 254 69 [(0, .ref 60), (1, .int l1), (2, .int l2), (3, .int l3), (4, .int l4), (5, .int l5)] [] q (b_X12_hire_69 rec_35 q l1 l2 l3 l4 l5) := by
  unfold b_X12_hire_69
  refine r_iinc (x := l5) (v := (l5 + (1 : Int32))) (L2 := [(0, .ref 60), (1, .int l1), (2, .int l2), (3, .int l3), (4, .int l4), (5, .int (l5 + (1 : Int32)))]) dX12_hire_69 rfl rfl rfl rfl ?_
  refine r_goto (t := 35) dX12_hire_72 rfl ?_
  exact r_sub (L' := [(0, .ref 60), (1, .int l1), (2, .int l2), (3, .int l3), (4, .int l4), (5, .int (l5 + (1 : Int32)))]) (sub_c rfl (sub_c rfl (sub_c rfl (sub_c rfl (sub_c rfl (sub_c rfl sub_n)))))) (hrec_35 q l1 l2 l3 l4 (l5 + (1 : Int32)))
def b_X12_hire_35 : SS → Int32 → Int32 → Int32 → Int32 → Int32 → Option (Int32 × SS) :=
  fx6 (fun (rec_35 : SS → Int32 → Int32 → Int32 → Int32 → Int32 → Option (Int32 × SS)) (q : SS) (l1 : Int32) (l2 : Int32) (l3 : Int32) (l4 : Int32) (l5 : Int32) =>
  if (q.1 60 6) ≤ l5 then
  (if l2 ≤ l4 then
  (b_X12_hire_87 q l1 l2 l3 (0 : Int32))
  else
  (some ((-2 : Int32), q)))
  else
  (if vin l5 12 then
  if (q.1 65 l5.toNatClampNeg) = l1 then
  (if vin l5 12 then
  if (q.1 67 l5.toNatClampNeg) = (4 : Int32) then
  (b_X12_hire_69 rec_35 q l1 l2 l3 l4 l5)
  else
  (b_X12_hire_69 rec_35 q l1 l2 l3 (l4 + (1 : Int32)) l5)
  else none)
  else
  (b_X12_hire_69 rec_35 q l1 l2 l3 l4 l5)
  else none)) FU
theorem rb_X12_hire_35 {E : EE} (hE : GE E) (q : SS) (l1 : Int32) (l2 : Int32) (l3 : Int32) (l4 : Int32) (l5 : Int32) : R E (κI E) 2 254 35 [(0, .ref 60), (1, .int l1), (2, .int l2), (3, .int l3), (4, .int l4), (5, .int l5)] [] q (b_X12_hire_35 q l1 l2 l3 l4 l5) := by
  unfold b_X12_hire_35
  refine fx6_ok (P := fun q l1 l2 l3 l4 l5 o => R E (κI E) 2 254 35 [(0, .ref 60), (1, .int l1), (2, .int l2), (3, .int l3), (4, .int l4), (5, .int l5)] [] q o) (fun _ _ _ _ _ _ => r_no) (fun rec_35 hrec_35 q l1 l2 l3 l4 l5 => ?_) _ _ _ _ _ _ _
  refine r_iload (x := l5) dX12_hire_35 rfl ?_
  refine r_aload_n (x := 60) dX12_hire_37 rfl ?_
  refine r_getI dX12_hire_38 (ff_12_122_60 hE) (by decide) ?_
  refine r_icmp_ge (t := 75) dX12_hire_41 rfl (fun h20 => ?_) (fun h20 => ?_)
  · refine r_iload_n (x := l2) dX12_hire_75 rfl ?_
    refine r_iload (x := l4) dX12_hire_76 rfl ?_
    refine r_icmp_le (t := 84) dX12_hire_78 rfl (fun h17 => ?_) (fun h17 => ?_)
    · refine r_iconst (v := (0 : Int32)) dX12_hire_84 rfl ?_
      refine r_istore (L2 := [(0, .ref 60), (1, .int l1), (2, .int l2), (3, .int l3), (4, .int l4), (5, .int (0 : Int32))]) dX12_hire_85 rfl rfl ?_
      exact r_sub (L' := [(0, .ref 60), (1, .int l1), (2, .int l2), (3, .int l3), (5, .int (0 : Int32))]) (sub_c rfl (sub_c rfl (sub_c rfl (sub_c rfl (sub_c rfl sub_n))))) (rb_X12_hire_87 hE q l1 l2 l3 (0 : Int32))
    · refine r_bipush (v := (-2 : Int32)) dX12_hire_81 rfl ?_
      exact r_ireturn dX12_hire_83 rfl rfl
  · refine r_aload_n (x := 60) dX12_hire_44 rfl ?_
    refine r_getA dX12_hire_45 (fa_12_24_60 hE) ?_
    refine r_iload (x := l5) dX12_hire_48 rfl ?_
    refine r_iaload dX12_hire_50 (ar_65 hE) ?_
    refine r_iload_n (x := l1) dX12_hire_51 rfl ?_
    refine r_icmp_ne (t := 69) dX12_hire_52 rfl (fun h19 => ?_) (fun h19 => ?_)
    · refine r_aload_n (x := 60) dX12_hire_55 rfl ?_
      refine r_getA dX12_hire_56 (fa_12_30_60 hE) ?_
      refine r_iload (x := l5) dX12_hire_59 rfl ?_
      refine r_iaload dX12_hire_61 (ar_67 hE) ?_
      refine r_iconst (v := (4 : Int32)) dX12_hire_62 rfl ?_
      refine r_icmp_eq (t := 69) dX12_hire_63 rfl (fun h18 => ?_) (fun h18 => ?_)
      · exact r_sub (L' := [(0, .ref 60), (1, .int l1), (2, .int l2), (3, .int l3), (4, .int l4), (5, .int l5)]) (sub_c rfl (sub_c rfl (sub_c rfl (sub_c rfl (sub_c rfl (sub_c rfl sub_n)))))) (rb_X12_hire_69 hE hrec_35 q l1 l2 l3 l4 l5)
      · refine r_iinc (x := l4) (v := (l4 + (1 : Int32))) (L2 := [(0, .ref 60), (1, .int l1), (2, .int l2), (3, .int l3), (4, .int (l4 + (1 : Int32))), (5, .int l5)]) dX12_hire_66 rfl rfl rfl rfl ?_
        exact r_sub (L' := [(0, .ref 60), (1, .int l1), (2, .int l2), (3, .int l3), (4, .int (l4 + (1 : Int32))), (5, .int l5)]) (sub_c rfl (sub_c rfl (sub_c rfl (sub_c rfl (sub_c rfl (sub_c rfl sub_n)))))) (rb_X12_hire_69 hE hrec_35 q l1 l2 l3 (l4 + (1 : Int32)) l5)
    · exact r_sub (L' := [(0, .ref 60), (1, .int l1), (2, .int l2), (3, .int l3), (4, .int l4), (5, .int l5)]) (sub_c rfl (sub_c rfl (sub_c rfl (sub_c rfl (sub_c rfl (sub_c rfl sub_n)))))) (rb_X12_hire_69 hE hrec_35 q l1 l2 l3 l4 l5)
def f_X12_hire (q : SS) (a1 : Int32) (a2 : Int32) (a3 : Int32) : Option (Int32 × SS) :=
  (f_X12_isOne q a1).bind fun r1 =>
  if r1 = 0 then
  (some ((-1 : Int32), q))
  else
  ((f_X12_in q a2 (0 : Int32) (12 : Int32)).bind fun r2 =>
  if r2 = 0 then
  (some ((-1 : Int32), q))
  else
  ((f_X12_in q a3 (0 : Int32) (1 : Int32)).bind fun r3 =>
  if r3 = 0 then
  (some ((-1 : Int32), q))
  else
  (b_X12_hire_35 q a1 a2 a3 (0 : Int32) (0 : Int32))))
theorem e_X12_hire {E : EE} (hE : GE E) (q : SS) (a1 : Int32) (a2 : Int32) (a3 : Int32) : R E (κI E) 2 254 0 [(0, .ref 60), (1, .int a1), (2, .int a2), (3, .int a3)] [] q (f_X12_hire q a1 a2 a3) := by
  unfold f_X12_hire
  refine r_aload_n (x := 60) dX12_hire_0 rfl ?_
  refine r_iload_n (x := a1) dX12_hire_1 rfl ?_
  refine r_calli (k := 0) (idx := 125) (y := 191) (as := [.ref 60, .int a1]) (rest := []) (L0 := [(0, .ref 60), (1, .int a1)]) dX12_hire_2 rfl rfl rfl rfl rfl (vok_v (ob_60 hE) rfl) rfl (r_dep (by decide) (e_X12_isOne hE q a1)) (fun r1 => ?_)
  refine r_if_eq (t := 27) dX12_hire_5 rfl (fun h23 => ?_) (fun h23 => ?_)
  · refine r_iconst (v := (-1 : Int32)) dX12_hire_27 rfl ?_
    exact r_ireturn dX12_hire_28 rfl rfl
  · refine r_iload_n (x := a2) dX12_hire_8 rfl ?_
    refine r_iconst (v := (0 : Int32)) dX12_hire_9 rfl ?_
    refine r_bipush (v := (12 : Int32)) dX12_hire_10 rfl ?_
    refine r_calli (k := 2) (idx := 118) (y := 189) (as := [.int a2, .int (0 : Int32), .int (12 : Int32)]) (rest := []) (L0 := [(0, .int a2), (1, .int (0 : Int32)), (2, .int (12 : Int32))]) dX12_hire_12 rfl rfl rfl rfl rfl vok_s rfl (r_dep (by decide) (e_X12_in hE q a2 (0 : Int32) (12 : Int32))) (fun r2 => ?_)
    refine r_if_eq (t := 27) dX12_hire_15 rfl (fun h22 => ?_) (fun h22 => ?_)
    · refine r_iconst (v := (-1 : Int32)) dX12_hire_27 rfl ?_
      exact r_ireturn dX12_hire_28 rfl rfl
    · refine r_iload_n (x := a3) dX12_hire_18 rfl ?_
      refine r_iconst (v := (0 : Int32)) dX12_hire_19 rfl ?_
      refine r_iconst (v := (1 : Int32)) dX12_hire_20 rfl ?_
      refine r_calli (k := 2) (idx := 118) (y := 189) (as := [.int a3, .int (0 : Int32), .int (1 : Int32)]) (rest := []) (L0 := [(0, .int a3), (1, .int (0 : Int32)), (2, .int (1 : Int32))]) dX12_hire_21 rfl rfl rfl rfl rfl vok_s rfl (r_dep (by decide) (e_X12_in hE q a3 (0 : Int32) (1 : Int32))) (fun r3 => ?_)
      refine r_if_ne (t := 29) dX12_hire_24 rfl (fun h21 => ?_) (fun h21 => ?_)
      · refine r_iconst (v := (-1 : Int32)) dX12_hire_27 rfl ?_
        exact r_ireturn dX12_hire_28 rfl rfl
      · refine r_iconst (v := (0 : Int32)) dX12_hire_29 rfl ?_
        refine r_istore (L2 := [(0, .ref 60), (1, .int a1), (2, .int a2), (3, .int a3), (4, .int (0 : Int32))]) dX12_hire_30 rfl rfl ?_
        refine r_iconst (v := (0 : Int32)) dX12_hire_32 rfl ?_
        refine r_istore (L2 := [(0, .ref 60), (1, .int a1), (2, .int a2), (3, .int a3), (4, .int (0 : Int32)), (5, .int (0 : Int32))]) dX12_hire_33 rfl rfl ?_
        exact r_sub (L' := [(0, .ref 60), (1, .int a1), (2, .int a2), (3, .int a3), (4, .int (0 : Int32)), (5, .int (0 : Int32))]) (sub_c rfl (sub_c rfl (sub_c rfl (sub_c rfl (sub_c rfl (sub_c rfl sub_n)))))) (rb_X12_hire_35 hE q a1 a2 a3 (0 : Int32) (0 : Int32))
def b_X6_sortTickets_101 (rec_38 : SS → Int32 → Option SS) (q : SS) (l1 : Int32) : Option SS :=
  rec_38 q (l1 + (-1 : Int32))
theorem rb_X6_sortTickets_101 {E : EE} (hE : GE E) {rec_38 : SS → Int32 → Option SS} (hrec_38 : ∀ (yq : SS) (yl1 : Int32), R E (κV E) 3 68 38 [(0, .ref 42), (1, .int yl1)] [] yq (rec_38 yq yl1)) (q : SS) (l1 : Int32) : R E (κV E) 3 68 101 [(0, .ref 42), (1, .int l1)] [] q (b_X6_sortTickets_101 rec_38 q l1) := by
  unfold b_X6_sortTickets_101
  refine r_iinc (x := l1) (v := (l1 + (-1 : Int32))) (L2 := [(0, .ref 42), (1, .int (l1 + (-1 : Int32)))]) dX6_sortTickets_101 rfl rfl rfl rfl ?_
  refine r_goto (t := 38) dX6_sortTickets_104 rfl ?_
  exact r_sub (L' := [(0, .ref 42), (1, .int (l1 + (-1 : Int32)))]) (sub_c rfl (sub_c rfl sub_n)) (hrec_38 q (l1 + (-1 : Int32)))
def b_X6_sortTickets_38 : SS → Int32 → Option SS :=
  fx2 (fun (rec_38 : SS → Int32 → Option SS) (q : SS) (l1 : Int32) =>
  if l1 < 0 then
  (some q)
  else
  ((f_X10_get q (6 : Int32) l1).bind fun r3 =>
  if (4 : Int32) ≤ r3 then
  (b_X6_sortTickets_101 rec_38 q l1)
  else
  ((f_X10_isReal q l1).bind fun r4 =>
  if r4 = 0 then
  (b_X6_sortTickets_101 rec_38 q l1)
  else
  ((f_X8_holderOf q l1).bind fun r5 =>
  if r5 = (q.1 42 6) then
  (if vin r3 4 then
  if vin r3 4 then
  nm (sI q 43 r3.toNatClampNeg ((q.1 43 r3.toNatClampNeg) + (1 : Int32))) fun q6 =>
  if vin r3 4 then
  nm (sI q6 44 r3.toNatClampNeg l1) fun q7 =>
  b_X6_sortTickets_101 rec_38 q7 l1
  else none
  else none
  else none)
  else
  (b_X6_sortTickets_101 rec_38 q l1))))) FU
theorem rb_X6_sortTickets_38 {E : EE} (hE : GE E) (q : SS) (l1 : Int32) : R E (κV E) 3 68 38 [(0, .ref 42), (1, .int l1)] [] q (b_X6_sortTickets_38 q l1) := by
  unfold b_X6_sortTickets_38
  refine fx2_ok (P := fun q l1 o => R E (κV E) 3 68 38 [(0, .ref 42), (1, .int l1)] [] q o) (fun _ _ => r_no) (fun rec_38 hrec_38 q l1 => ?_) _ _ _
  refine r_iload_n (x := l1) dX6_sortTickets_38 rfl ?_
  refine r_if_lt (t := 107) dX6_sortTickets_39 rfl (fun h11 => ?_) (fun h11 => ?_)
  · exact r_return dX6_sortTickets_107 rfl rfl
  · refine r_aload_n (x := 42) dX6_sortTickets_42 rfl ?_
    refine r_getA dX6_sortTickets_43 (fa_6_9_42 hE) ?_
    refine r_bipush (v := (6 : Int32)) dX6_sortTickets_46 rfl ?_
    refine r_iload_n (x := l1) dX6_sortTickets_48 rfl ?_
    refine r_calli (k := 0) (idx := 69) (y := 134) (as := [.ref 1, .int (6 : Int32), .int l1]) (rest := []) (L0 := [(0, .ref 1), (1, .int (6 : Int32)), (2, .int l1)]) dX6_sortTickets_49 rfl rfl rfl rfl rfl (vok_v (ob_1 hE) rfl) rfl (r_dep (by decide) (e_X10_get hE q (6 : Int32) l1)) (fun r3 => ?_)
    refine r_istore_n (L2 := [(0, .ref 42), (1, .int l1), (2, .int r3)]) dX6_sortTickets_52 rfl rfl ?_
    refine r_iload_n (x := r3) dX6_sortTickets_53 rfl ?_
    refine r_iconst (v := (4 : Int32)) dX6_sortTickets_54 rfl ?_
    refine r_icmp_ge (t := 101) dX6_sortTickets_55 rfl (fun h10 => ?_) (fun h10 => ?_)
    · exact r_sub (L' := [(0, .ref 42), (1, .int l1)]) (sub_c rfl (sub_c rfl sub_n)) (rb_X6_sortTickets_101 hE hrec_38 q l1)
    · refine r_aload_n (x := 42) dX6_sortTickets_58 rfl ?_
      refine r_getA dX6_sortTickets_59 (fa_6_9_42 hE) ?_
      refine r_iload_n (x := l1) dX6_sortTickets_62 rfl ?_
      refine r_calli (k := 0) (idx := 73) (y := 131) (as := [.ref 1, .int l1]) (rest := []) (L0 := [(0, .ref 1), (1, .int l1)]) dX6_sortTickets_63 rfl rfl rfl rfl rfl (vok_v (ob_1 hE) rfl) rfl (r_dep (by decide) (e_X10_isReal hE q l1)) (fun r4 => ?_)
      refine r_if_eq (t := 101) dX6_sortTickets_66 rfl (fun h9 => ?_) (fun h9 => ?_)
      · exact r_sub (L' := [(0, .ref 42), (1, .int l1)]) (sub_c rfl (sub_c rfl sub_n)) (rb_X6_sortTickets_101 hE hrec_38 q l1)
      · refine r_aload_n (x := 42) dX6_sortTickets_69 rfl ?_
        refine r_getA dX6_sortTickets_70 (fa_6_15_42 hE) ?_
        refine r_iload_n (x := l1) dX6_sortTickets_73 rfl ?_
        refine r_calli (k := 0) (idx := 77) (y := 98) (as := [.ref 24, .int l1]) (rest := []) (L0 := [(0, .ref 24), (1, .int l1)]) dX6_sortTickets_74 rfl rfl rfl rfl rfl (vok_v (ob_24 hE) rfl) rfl (r_dep (by decide) (e_X8_holderOf hE q l1)) (fun r5 => ?_)
        refine r_aload_n (x := 42) dX6_sortTickets_77 rfl ?_
        refine r_getI dX6_sortTickets_78 (ff_6_37_42 hE) (by decide) ?_
        refine r_icmp_ne (t := 101) dX6_sortTickets_81 rfl (fun h8 => ?_) (fun h8 => ?_)
        · refine r_aload_n (x := 42) dX6_sortTickets_84 rfl ?_
          refine r_getA dX6_sortTickets_85 (fa_6_19_42 hE) ?_
          refine r_iload_n (x := r3) dX6_sortTickets_88 rfl ?_
          refine r_dup2 dX6_sortTickets_89 ⟨rfl, rfl⟩ ?_
          refine r_iaload dX6_sortTickets_90 (ar_43 hE) ?_
          refine r_iconst (v := (1 : Int32)) dX6_sortTickets_91 rfl ?_
          refine r_iadd dX6_sortTickets_92 ?_
          refine r_iastore dX6_sortTickets_93 (ar_43 hE) ?_
          refine r_nmS fun q6 _ => ?_
          refine r_aload_n (x := 42) dX6_sortTickets_94 rfl ?_
          refine r_getA dX6_sortTickets_95 (fa_6_23_42 hE) ?_
          refine r_iload_n (x := r3) dX6_sortTickets_98 rfl ?_
          refine r_iload_n (x := l1) dX6_sortTickets_99 rfl ?_
          refine r_iastore dX6_sortTickets_100 (ar_44 hE) ?_
          refine r_nmS fun q7 _ => ?_
          exact r_sub (L' := [(0, .ref 42), (1, .int l1)]) (sub_c rfl (sub_c rfl sub_n)) (rb_X6_sortTickets_101 hE hrec_38 q7 l1)
        · exact r_sub (L' := [(0, .ref 42), (1, .int l1)]) (sub_c rfl (sub_c rfl sub_n)) (rb_X6_sortTickets_101 hE hrec_38 q l1)
def b_X6_sortTickets_2 : SS → Int32 → Option SS :=
  fx2 (fun (rec_2 : SS → Int32 → Option SS) (q : SS) (l1 : Int32) =>
  if (4 : Int32) ≤ l1 then
  ((f_X10_tickets q).bind fun r1 =>
  nm (r1 - (1 : Int32)) fun v2 =>
  b_X6_sortTickets_38 q v2)
  else
  (if vin l1 4 then
  nm (sI q 43 l1.toNatClampNeg (0 : Int32)) fun q12 =>
  if vin l1 4 then
  nm (sI q12 44 l1.toNatClampNeg (-2 : Int32)) fun q13 =>
  rec_2 q13 (l1 + (1 : Int32))
  else none
  else none)) FU
theorem rb_X6_sortTickets_2 {E : EE} (hE : GE E) (q : SS) (l1 : Int32) : R E (κV E) 3 68 2 [(0, .ref 42), (1, .int l1)] [] q (b_X6_sortTickets_2 q l1) := by
  unfold b_X6_sortTickets_2
  refine fx2_ok (P := fun q l1 o => R E (κV E) 3 68 2 [(0, .ref 42), (1, .int l1)] [] q o) (fun _ _ => r_no) (fun rec_2 hrec_2 q l1 => ?_) _ _ _
  refine r_iload_n (x := l1) dX6_sortTickets_2 rfl ?_
  refine r_iconst (v := (4 : Int32)) dX6_sortTickets_3 rfl ?_
  refine r_icmp_ge (t := 28) dX6_sortTickets_4 rfl (fun h14 => ?_) (fun h14 => ?_)
  · refine r_aload_n (x := 42) dX6_sortTickets_28 rfl ?_
    refine r_getA dX6_sortTickets_29 (fa_6_9_42 hE) ?_
    refine r_calli (k := 0) (idx := 64) (y := 126) (as := [.ref 1]) (rest := []) (L0 := [(0, .ref 1)]) dX6_sortTickets_32 rfl rfl rfl rfl rfl (vok_v (ob_1 hE) rfl) rfl (r_dep (by decide) (e_X10_tickets hE q)) (fun r1 => ?_)
    refine r_iconst (v := (1 : Int32)) dX6_sortTickets_35 rfl ?_
    refine r_isub dX6_sortTickets_36 ?_
    refine r_nmI fun v2 _ => ?_
    refine r_istore_n (L2 := [(0, .ref 42), (1, .int v2)]) dX6_sortTickets_37 rfl rfl ?_
    exact r_sub (L' := [(0, .ref 42), (1, .int v2)]) (sub_c rfl (sub_c rfl sub_n)) (rb_X6_sortTickets_38 hE q v2)
  · refine r_aload_n (x := 42) dX6_sortTickets_7 rfl ?_
    refine r_getA dX6_sortTickets_8 (fa_6_19_42 hE) ?_
    refine r_iload_n (x := l1) dX6_sortTickets_11 rfl ?_
    refine r_iconst (v := (0 : Int32)) dX6_sortTickets_12 rfl ?_
    refine r_iastore dX6_sortTickets_13 (ar_43 hE) ?_
    refine r_nmS fun q12 _ => ?_
    refine r_aload_n (x := 42) dX6_sortTickets_14 rfl ?_
    refine r_getA dX6_sortTickets_15 (fa_6_23_42 hE) ?_
    refine r_iload_n (x := l1) dX6_sortTickets_18 rfl ?_
    refine r_bipush (v := (-2 : Int32)) dX6_sortTickets_19 rfl ?_
    refine r_iastore dX6_sortTickets_21 (ar_44 hE) ?_
    refine r_nmS fun q13 _ => ?_
    refine r_iinc (x := l1) (v := (l1 + (1 : Int32))) (L2 := [(0, .ref 42), (1, .int (l1 + (1 : Int32)))]) dX6_sortTickets_22 rfl rfl rfl rfl ?_
    refine r_goto (t := 2) dX6_sortTickets_25 rfl ?_
    exact r_sub (L' := [(0, .ref 42), (1, .int (l1 + (1 : Int32)))]) (sub_c rfl (sub_c rfl sub_n)) (hrec_2 q13 (l1 + (1 : Int32)))
def f_X6_sortTickets (q : SS)  : Option SS :=
  b_X6_sortTickets_2 q (0 : Int32)
theorem e_X6_sortTickets {E : EE} (hE : GE E) (q : SS)  : R E (κV E) 3 68 0 [(0, .ref 42)] [] q (f_X6_sortTickets q) := by
  unfold f_X6_sortTickets
  refine r_iconst (v := (0 : Int32)) dX6_sortTickets_0 rfl ?_
  refine r_istore_n (L2 := [(0, .ref 42), (1, .int (0 : Int32))]) dX6_sortTickets_1 rfl rfl ?_
  exact r_sub (L' := [(0, .ref 42), (1, .int (0 : Int32))]) (sub_c rfl (sub_c rfl sub_n)) (rb_X6_sortTickets_2 hE q (0 : Int32))
def f_X6_placeOf (q : SS) (a0 : Int32) (a1 : Int32) (a2 : Int32) (a3 : Int32) : Option Int32 :=
  some ((((((a0 * (6 : Int32)) + a1) * (3 : Int32)) + a2) * (4 : Int32)) + a3)
theorem e_X6_placeOf {E : EE} (hE : GE E) (q : SS) (a0 : Int32) (a1 : Int32) (a2 : Int32) (a3 : Int32) : R E (κi E q) 0 70 0 [(0, .int a0), (1, .int a1), (2, .int a2), (3, .int a3)] [] q (f_X6_placeOf q a0 a1 a2 a3) := by
  unfold f_X6_placeOf
  refine r_iload_n (x := a0) dX6_placeOf_0 rfl ?_
  refine r_bipush (v := (6 : Int32)) dX6_placeOf_1 rfl ?_
  refine r_imul dX6_placeOf_3 ?_
  refine r_iload_n (x := a1) dX6_placeOf_4 rfl ?_
  refine r_iadd dX6_placeOf_5 ?_
  refine r_iconst (v := (3 : Int32)) dX6_placeOf_6 rfl ?_
  refine r_imul dX6_placeOf_7 ?_
  refine r_iload_n (x := a2) dX6_placeOf_8 rfl ?_
  refine r_iadd dX6_placeOf_9 ?_
  refine r_iconst (v := (4 : Int32)) dX6_placeOf_10 rfl ?_
  refine r_imul dX6_placeOf_11 ?_
  refine r_iload_n (x := a3) dX6_placeOf_12 rfl ?_
  refine r_iadd dX6_placeOf_13 ?_
  exact r_ireturn dX6_placeOf_14 rfl rfl
def b_X6_workOutHour_114 (rec_17 : SS → Int32 → Int32 → Int32 → Option SS) (rec_41 : SS → Int32 → Int32 → Int32 → Int32 → Int32 → Option SS) (rec_50 : SS → Int32 → Int32 → Int32 → Int32 → Int32 → Int32 → Option SS) (q : SS) (l1 : Int32) (l2 : Int32) (l3 : Int32) (l4 : Int32) (l5 : Int32) (l6 : Int32) : Option SS :=
  rec_50 q l1 l2 l3 l4 l5 (l6 + (1 : Int32))
theorem rb_X6_workOutHour_114 {E : EE} (hE : GE E) {rec_17 : SS → Int32 → Int32 → Int32 → Option SS} (hrec_17 : ∀ (yq : SS) (yl1 : Int32) (yl2 : Int32) (yl3 : Int32), R E (κV E) 4 69 17 [(0, .ref 42), (1, .int yl1), (2, .int yl2), (3, .int yl3)] [] yq (rec_17 yq yl1 yl2 yl3)) {rec_41 : SS → Int32 → Int32 → Int32 → Int32 → Int32 → Option SS} (hrec_41 : ∀ (yq : SS) (yl1 : Int32) (yl2 : Int32) (yl3 : Int32) (yl4 : Int32) (yl5 : Int32), R E (κV E) 4 69 41 [(0, .ref 42), (1, .int yl1), (2, .int yl2), (3, .int yl3), (4, .int yl4), (5, .int yl5)] [] yq (rec_41 yq yl1 yl2 yl3 yl4 yl5)) {rec_50 : SS → Int32 → Int32 → Int32 → Int32 → Int32 → Int32 → Option SS} (hrec_50 : ∀ (yq : SS) (yl1 : Int32) (yl2 : Int32) (yl3 : Int32) (yl4 : Int32) (yl5 : Int32) (yl6 : Int32), R E (κV E) 4 69 50 [(0, .ref 42), (1, .int yl1), (2, .int yl2), (3, .int yl3), (4, .int yl4), (5, .int yl5), (6, .int yl6)] [] yq (rec_50 yq yl1 yl2 yl3 yl4 yl5 yl6)) (q : SS) (l1 : Int32) (l2 : Int32) (l3 : Int32) (l4 : Int32) (l5 : Int32) (l6 : Int32) : R E (κV E) 4 69 114 [(0, .ref 42), (1, .int l1), (2, .int l2), (3, .int l3), (4, .int l4), (5, .int l5), (6, .int l6)] [] q (b_X6_workOutHour_114 rec_17 rec_41 rec_50 q l1 l2 l3 l4 l5 l6) := by
  unfold b_X6_workOutHour_114
  refine r_iinc (x := l6) (v := (l6 + (1 : Int32))) (L2 := [(0, .ref 42), (1, .int l1), (2, .int l2), (3, .int l3), (4, .int l4), (5, .int l5), (6, .int (l6 + (1 : Int32)))]) dX6_workOutHour_114 rfl rfl rfl rfl ?_
  refine r_goto (t := 50) dX6_workOutHour_117 rfl ?_
  exact r_sub (L' := [(0, .ref 42), (1, .int l1), (2, .int l2), (3, .int l3), (4, .int l4), (5, .int l5), (6, .int (l6 + (1 : Int32)))]) (sub_c rfl (sub_c rfl (sub_c rfl (sub_c rfl (sub_c rfl (sub_c rfl (sub_c rfl sub_n))))))) (hrec_50 q l1 l2 l3 l4 l5 (l6 + (1 : Int32)))
def b_X6_workOutHour_50 (rec_17 : SS → Int32 → Int32 → Int32 → Option SS) (rec_41 : SS → Int32 → Int32 → Int32 → Int32 → Int32 → Option SS) : SS → Int32 → Int32 → Int32 → Int32 → Int32 → Int32 → Option SS :=
  fx7 (fun (rec_50 : SS → Int32 → Int32 → Int32 → Int32 → Int32 → Int32 → Option SS) (q : SS) (l1 : Int32) (l2 : Int32) (l3 : Int32) (l4 : Int32) (l5 : Int32) (l6 : Int32) =>
  if (4 : Int32) ≤ l6 then
  (rec_41 q l1 l2 l3 l4 (l5 + (1 : Int32)))
  else
  ((f_X6_placeOf q l1 l3 l5 l6).bind fun r5 =>
  if (216 : Int32) ≤ r5 then
  (b_X6_workOutHour_114 rec_17 rec_41 rec_50 q l1 l2 l3 l4 l5 l6)
  else
  (if vin l6 4 then
  if (q.1 43 l6.toNatClampNeg) ≤ 0 then
  (b_X6_workOutHour_114 rec_17 rec_41 rec_50 q l1 l2 l3 l4 l5 l6)
  else
  ((f_X8_oddsBy q (q.1 42 6) l3 (l4 + l5) l6 l2).bind fun r6 =>
  if vin r5 216 then
  nm (sI r6.2 46 r5.toNatClampNeg r6.1) fun q7 =>
  b_X6_workOutHour_114 rec_17 rec_41 rec_50 q7 l1 l2 l3 l4 l5 l6
  else none)
  else none))) FU
theorem rb_X6_workOutHour_50 {E : EE} (hE : GE E) {rec_17 : SS → Int32 → Int32 → Int32 → Option SS} (hrec_17 : ∀ (yq : SS) (yl1 : Int32) (yl2 : Int32) (yl3 : Int32), R E (κV E) 4 69 17 [(0, .ref 42), (1, .int yl1), (2, .int yl2), (3, .int yl3)] [] yq (rec_17 yq yl1 yl2 yl3)) {rec_41 : SS → Int32 → Int32 → Int32 → Int32 → Int32 → Option SS} (hrec_41 : ∀ (yq : SS) (yl1 : Int32) (yl2 : Int32) (yl3 : Int32) (yl4 : Int32) (yl5 : Int32), R E (κV E) 4 69 41 [(0, .ref 42), (1, .int yl1), (2, .int yl2), (3, .int yl3), (4, .int yl4), (5, .int yl5)] [] yq (rec_41 yq yl1 yl2 yl3 yl4 yl5)) (q : SS) (l1 : Int32) (l2 : Int32) (l3 : Int32) (l4 : Int32) (l5 : Int32) (l6 : Int32) : R E (κV E) 4 69 50 [(0, .ref 42), (1, .int l1), (2, .int l2), (3, .int l3), (4, .int l4), (5, .int l5), (6, .int l6)] [] q (b_X6_workOutHour_50 rec_17 rec_41 q l1 l2 l3 l4 l5 l6) := by
  unfold b_X6_workOutHour_50
  refine fx7_ok (P := fun q l1 l2 l3 l4 l5 l6 o => R E (κV E) 4 69 50 [(0, .ref 42), (1, .int l1), (2, .int l2), (3, .int l3), (4, .int l4), (5, .int l5), (6, .int l6)] [] q o) (fun _ _ _ _ _ _ _ => r_no) (fun rec_50 hrec_50 q l1 l2 l3 l4 l5 l6 => ?_) _ _ _ _ _ _ _ _
  refine r_iload (x := l6) dX6_workOutHour_50 rfl ?_
  refine r_iconst (v := (4 : Int32)) dX6_workOutHour_52 rfl ?_
  refine r_icmp_ge (t := 120) dX6_workOutHour_53 rfl (fun h10 => ?_) (fun h10 => ?_)
  · refine r_iinc (x := l5) (v := (l5 + (1 : Int32))) (L2 := [(0, .ref 42), (1, .int l1), (2, .int l2), (3, .int l3), (4, .int l4), (5, .int (l5 + (1 : Int32))), (6, .int l6)]) dX6_workOutHour_120 rfl rfl rfl rfl ?_
    refine r_goto (t := 41) dX6_workOutHour_123 rfl ?_
    exact r_sub (L' := [(0, .ref 42), (1, .int l1), (2, .int l2), (3, .int l3), (4, .int l4), (5, .int (l5 + (1 : Int32)))]) (sub_c rfl (sub_c rfl (sub_c rfl (sub_c rfl (sub_c rfl (sub_c rfl sub_n)))))) (hrec_41 q l1 l2 l3 l4 (l5 + (1 : Int32)))
  · refine r_iload_n (x := l1) dX6_workOutHour_56 rfl ?_
    refine r_iload_n (x := l3) dX6_workOutHour_57 rfl ?_
    refine r_iload (x := l5) dX6_workOutHour_58 rfl ?_
    refine r_iload (x := l6) dX6_workOutHour_60 rfl ?_
    refine r_calli (k := 2) (idx := 94) (y := 70) (as := [.int l1, .int l3, .int l5, .int l6]) (rest := []) (L0 := [(0, .int l1), (1, .int l3), (2, .int l5), (3, .int l6)]) dX6_workOutHour_62 rfl rfl rfl rfl rfl vok_s rfl (r_dep (by decide) (e_X6_placeOf hE q l1 l3 l5 l6)) (fun r5 => ?_)
    refine r_istore (L2 := [(0, .ref 42), (1, .int l1), (2, .int l2), (3, .int l3), (4, .int l4), (5, .int l5), (6, .int l6), (7, .int r5)]) dX6_workOutHour_65 rfl rfl ?_
    refine r_iload (x := r5) dX6_workOutHour_67 rfl ?_
    refine r_aload_n (x := 42) dX6_workOutHour_69 rfl ?_
    refine r_getA dX6_workOutHour_70 (fa_6_29_42 hE) ?_
    refine r_len (v := (216 : Int32)) dX6_workOutHour_73 (ar_46 hE) (by decide) rfl ?_
    refine r_icmp_ge (t := 114) dX6_workOutHour_74 rfl (fun h9 => ?_) (fun h9 => ?_)
    · exact r_sub (L' := [(0, .ref 42), (1, .int l1), (2, .int l2), (3, .int l3), (4, .int l4), (5, .int l5), (6, .int l6)]) (sub_c rfl (sub_c rfl (sub_c rfl (sub_c rfl (sub_c rfl (sub_c rfl (sub_c rfl sub_n))))))) (rb_X6_workOutHour_114 hE hrec_17 hrec_41 hrec_50 q l1 l2 l3 l4 l5 l6)
    · refine r_aload_n (x := 42) dX6_workOutHour_77 rfl ?_
      refine r_getA dX6_workOutHour_78 (fa_6_19_42 hE) ?_
      refine r_iload (x := l6) dX6_workOutHour_81 rfl ?_
      refine r_iaload dX6_workOutHour_83 (ar_43 hE) ?_
      refine r_if_le (t := 114) dX6_workOutHour_84 rfl (fun h8 => ?_) (fun h8 => ?_)
      · exact r_sub (L' := [(0, .ref 42), (1, .int l1), (2, .int l2), (3, .int l3), (4, .int l4), (5, .int l5), (6, .int l6)]) (sub_c rfl (sub_c rfl (sub_c rfl (sub_c rfl (sub_c rfl (sub_c rfl (sub_c rfl sub_n))))))) (rb_X6_workOutHour_114 hE hrec_17 hrec_41 hrec_50 q l1 l2 l3 l4 l5 l6)
      · refine r_aload_n (x := 42) dX6_workOutHour_87 rfl ?_
        refine r_getA dX6_workOutHour_88 (fa_6_29_42 hE) ?_
        refine r_iload (x := r5) dX6_workOutHour_91 rfl ?_
        refine r_aload_n (x := 42) dX6_workOutHour_93 rfl ?_
        refine r_getA dX6_workOutHour_94 (fa_6_15_42 hE) ?_
        refine r_aload_n (x := 42) dX6_workOutHour_97 rfl ?_
        refine r_getI dX6_workOutHour_98 (ff_6_37_42 hE) (by decide) ?_
        refine r_iload_n (x := l3) dX6_workOutHour_101 rfl ?_
        refine r_iload (x := l4) dX6_workOutHour_102 rfl ?_
        refine r_iload (x := l5) dX6_workOutHour_104 rfl ?_
        refine r_iadd dX6_workOutHour_106 ?_
        refine r_iload (x := l6) dX6_workOutHour_107 rfl ?_
        refine r_iload_n (x := l2) dX6_workOutHour_109 rfl ?_
        refine r_callI (k := 0) (idx := 98) (y := 110) (as := [.ref 24, .int (q.1 42 6), .int l3, .int (l4 + l5), .int l6, .int l2]) (rest := [.int r5, .ref 46]) (L0 := [(0, .ref 24), (1, .int (q.1 42 6)), (2, .int l3), (3, .int (l4 + l5)), (4, .int l6), (5, .int l2)]) dX6_workOutHour_110 rfl rfl rfl rfl rfl (vok_v (ob_24 hE) rfl) rfl (r_dep (by decide) (e_X8_oddsBy hE q (q.1 42 6) l3 (l4 + l5) l6 l2)) (fun r6 => ?_)
        refine r_iastore dX6_workOutHour_113 (ar_46 hE) ?_
        refine r_nmS fun q7 _ => ?_
        exact r_sub (L' := [(0, .ref 42), (1, .int l1), (2, .int l2), (3, .int l3), (4, .int l4), (5, .int l5), (6, .int l6)]) (sub_c rfl (sub_c rfl (sub_c rfl (sub_c rfl (sub_c rfl (sub_c rfl (sub_c rfl sub_n))))))) (rb_X6_workOutHour_114 hE hrec_17 hrec_41 hrec_50 q7 l1 l2 l3 l4 l5 l6)
def b_X6_workOutHour_41 (rec_17 : SS → Int32 → Int32 → Int32 → Option SS) : SS → Int32 → Int32 → Int32 → Int32 → Int32 → Option SS :=
  fx6 (fun (rec_41 : SS → Int32 → Int32 → Int32 → Int32 → Int32 → Option SS) (q : SS) (l1 : Int32) (l2 : Int32) (l3 : Int32) (l4 : Int32) (l5 : Int32) =>
  if l1 < l5 then
  (rec_17 q l1 l2 (l3 + (1 : Int32)))
  else
  (b_X6_workOutHour_50 rec_17 rec_41 q l1 l2 l3 l4 l5 (0 : Int32))) FU
theorem rb_X6_workOutHour_41 {E : EE} (hE : GE E) {rec_17 : SS → Int32 → Int32 → Int32 → Option SS} (hrec_17 : ∀ (yq : SS) (yl1 : Int32) (yl2 : Int32) (yl3 : Int32), R E (κV E) 4 69 17 [(0, .ref 42), (1, .int yl1), (2, .int yl2), (3, .int yl3)] [] yq (rec_17 yq yl1 yl2 yl3)) (q : SS) (l1 : Int32) (l2 : Int32) (l3 : Int32) (l4 : Int32) (l5 : Int32) : R E (κV E) 4 69 41 [(0, .ref 42), (1, .int l1), (2, .int l2), (3, .int l3), (4, .int l4), (5, .int l5)] [] q (b_X6_workOutHour_41 rec_17 q l1 l2 l3 l4 l5) := by
  unfold b_X6_workOutHour_41
  refine fx6_ok (P := fun q l1 l2 l3 l4 l5 o => R E (κV E) 4 69 41 [(0, .ref 42), (1, .int l1), (2, .int l2), (3, .int l3), (4, .int l4), (5, .int l5)] [] q o) (fun _ _ _ _ _ _ => r_no) (fun rec_41 hrec_41 q l1 l2 l3 l4 l5 => ?_) _ _ _ _ _ _ _
  refine r_iload (x := l5) dX6_workOutHour_41 rfl ?_
  refine r_iload_n (x := l1) dX6_workOutHour_43 rfl ?_
  refine r_icmp_gt (t := 126) dX6_workOutHour_44 rfl (fun h11 => ?_) (fun h11 => ?_)
  · refine r_iinc (x := l3) (v := (l3 + (1 : Int32))) (L2 := [(0, .ref 42), (1, .int l1), (2, .int l2), (3, .int (l3 + (1 : Int32))), (4, .int l4), (5, .int l5)]) dX6_workOutHour_126 rfl rfl rfl rfl ?_
    refine r_goto (t := 17) dX6_workOutHour_129 rfl ?_
    exact r_sub (L' := [(0, .ref 42), (1, .int l1), (2, .int l2), (3, .int (l3 + (1 : Int32)))]) (sub_c rfl (sub_c rfl (sub_c rfl (sub_c rfl sub_n)))) (hrec_17 q l1 l2 (l3 + (1 : Int32)))
  · refine r_iconst (v := (0 : Int32)) dX6_workOutHour_47 rfl ?_
    refine r_istore (L2 := [(0, .ref 42), (1, .int l1), (2, .int l2), (3, .int l3), (4, .int l4), (5, .int l5), (6, .int (0 : Int32))]) dX6_workOutHour_48 rfl rfl ?_
    exact r_sub (L' := [(0, .ref 42), (1, .int l1), (2, .int l2), (3, .int l3), (4, .int l4), (5, .int l5), (6, .int (0 : Int32))]) (sub_c rfl (sub_c rfl (sub_c rfl (sub_c rfl (sub_c rfl (sub_c rfl (sub_c rfl sub_n))))))) (rb_X6_workOutHour_50 hE hrec_17 hrec_41 q l1 l2 l3 l4 l5 (0 : Int32))
def b_X6_workOutHour_17 : SS → Int32 → Int32 → Int32 → Option SS :=
  fx4 (fun (rec_17 : SS → Int32 → Int32 → Int32 → Option SS) (q : SS) (l1 : Int32) (l2 : Int32) (l3 : Int32) =>
  (f_X10_people q).bind fun r3 =>
  if r3 ≤ l3 then
  (some q)
  else
  ((f_X8_heldBy q l3).bind fun r4 =>
  b_X6_workOutHour_41 rec_17 q l1 l2 l3 r4 (0 : Int32))) FU
theorem rb_X6_workOutHour_17 {E : EE} (hE : GE E) (q : SS) (l1 : Int32) (l2 : Int32) (l3 : Int32) : R E (κV E) 4 69 17 [(0, .ref 42), (1, .int l1), (2, .int l2), (3, .int l3)] [] q (b_X6_workOutHour_17 q l1 l2 l3) := by
  unfold b_X6_workOutHour_17
  refine fx4_ok (P := fun q l1 l2 l3 o => R E (κV E) 4 69 17 [(0, .ref 42), (1, .int l1), (2, .int l2), (3, .int l3)] [] q o) (fun _ _ _ _ => r_no) (fun rec_17 hrec_17 q l1 l2 l3 => ?_) _ _ _ _ _
  refine r_iload_n (x := l3) dX6_workOutHour_17 rfl ?_
  refine r_aload_n (x := 42) dX6_workOutHour_18 rfl ?_
  refine r_getA dX6_workOutHour_19 (fa_6_9_42 hE) ?_
  refine r_calli (k := 0) (idx := 88) (y := 125) (as := [.ref 1]) (rest := [.int l3]) (L0 := [(0, .ref 1)]) dX6_workOutHour_22 rfl rfl rfl rfl rfl (vok_v (ob_1 hE) rfl) rfl (r_dep (by decide) (e_X10_people hE q)) (fun r3 => ?_)
  refine r_icmp_ge (t := 132) dX6_workOutHour_25 rfl (fun h12 => ?_) (fun h12 => ?_)
  · exact r_return dX6_workOutHour_132 rfl rfl
  · refine r_aload_n (x := 42) dX6_workOutHour_28 rfl ?_
    refine r_getA dX6_workOutHour_29 (fa_6_15_42 hE) ?_
    refine r_iload_n (x := l3) dX6_workOutHour_32 rfl ?_
    refine r_calli (k := 0) (idx := 91) (y := 100) (as := [.ref 24, .int l3]) (rest := []) (L0 := [(0, .ref 24), (1, .int l3)]) dX6_workOutHour_33 rfl rfl rfl rfl rfl (vok_v (ob_24 hE) rfl) rfl (r_dep (by decide) (e_X8_heldBy hE q l3)) (fun r4 => ?_)
    refine r_istore (L2 := [(0, .ref 42), (1, .int l1), (2, .int l2), (3, .int l3), (4, .int r4)]) dX6_workOutHour_36 rfl rfl ?_
    refine r_iconst (v := (0 : Int32)) dX6_workOutHour_38 rfl ?_
    refine r_istore (L2 := [(0, .ref 42), (1, .int l1), (2, .int l2), (3, .int l3), (4, .int r4), (5, .int (0 : Int32))]) dX6_workOutHour_39 rfl rfl ?_
    exact r_sub (L' := [(0, .ref 42), (1, .int l1), (2, .int l2), (3, .int l3), (4, .int r4), (5, .int (0 : Int32))]) (sub_c rfl (sub_c rfl (sub_c rfl (sub_c rfl (sub_c rfl (sub_c rfl sub_n)))))) (rb_X6_workOutHour_41 hE hrec_17 q l1 l2 l3 r4 (0 : Int32))
def f_X6_workOutHour (q : SS) (a1 : Int32) : Option SS :=
  (f_X10_hourNow q).bind fun r1 =>
  nm (jmin (11 : Int32) (r1 + a1)) fun v2 =>
  b_X6_workOutHour_17 q a1 v2 (0 : Int32)
theorem e_X6_workOutHour {E : EE} (hE : GE E) (q : SS) (a1 : Int32) : R E (κV E) 4 69 0 [(0, .ref 42), (1, .int a1)] [] q (f_X6_workOutHour q a1) := by
  unfold f_X6_workOutHour
  refine r_bipush (v := (11 : Int32)) dX6_workOutHour_0 rfl ?_
  refine r_aload_n (x := 42) dX6_workOutHour_2 rfl ?_
  refine r_getA dX6_workOutHour_3 (fa_6_9_42 hE) ?_
  refine r_calli (k := 0) (idx := 80) (y := 127) (as := [.ref 1]) (rest := [.int (11 : Int32)]) (L0 := [(0, .ref 1)]) dX6_workOutHour_6 rfl rfl rfl rfl rfl (vok_v (ob_1 hE) rfl) rfl (r_dep (by decide) (e_X10_hourNow hE q)) (fun r1 => ?_)
  refine r_iload_n (x := a1) dX6_workOutHour_9 rfl ?_
  refine r_iadd dX6_workOutHour_10 ?_
  refine r_mm (j := 1) (v := (jmin (11 : Int32) (r1 + a1))) dX6_workOutHour_11 ⟨rfl, rfl, rfl, rfl⟩ rfl rfl ?_
  refine r_nmI fun v2 _ => ?_
  refine r_istore_n (L2 := [(0, .ref 42), (1, .int a1), (2, .int v2)]) dX6_workOutHour_14 rfl rfl ?_
  refine r_iconst (v := (0 : Int32)) dX6_workOutHour_15 rfl ?_
  refine r_istore_n (L2 := [(0, .ref 42), (1, .int a1), (2, .int v2), (3, .int (0 : Int32))]) dX6_workOutHour_16 rfl rfl ?_
  exact r_sub (L' := [(0, .ref 42), (1, .int a1), (2, .int v2), (3, .int (0 : Int32))]) (sub_c rfl (sub_c rfl (sub_c rfl (sub_c rfl sub_n)))) (rb_X6_workOutHour_17 hE q a1 v2 (0 : Int32))
def b_X6_begin_72 : SS → Int32 → Option SS :=
  fx2 (fun (rec_72 : SS → Int32 → Option SS) (q : SS) (l3 : Int32) =>
  if (q.1 42 7) ≤ l3 then
  (some q)
  else
  ((f_X6_workOutHour q l3).bind fun r9 =>
  rec_72 r9 (l3 + (1 : Int32)))) FU
theorem rb_X6_begin_72 {E : EE} (hE : GE E) (q : SS) (l3 : Int32) : R E (κV E) 5 67 72 [(0, .ref 42), (3, .int l3)] [] q (b_X6_begin_72 q l3) := by
  unfold b_X6_begin_72
  refine fx2_ok (P := fun q l3 o => R E (κV E) 5 67 72 [(0, .ref 42), (3, .int l3)] [] q o) (fun _ _ => r_no) (fun rec_72 hrec_72 q l3 => ?_) _ _ _
  refine r_iload_n (x := l3) dX6_begin_72 rfl ?_
  refine r_aload_n (x := 42) dX6_begin_73 rfl ?_
  refine r_getI dX6_begin_74 (ff_6_41_42 hE) (by decide) ?_
  refine r_icmp_ge (t := 91) dX6_begin_77 rfl (fun h10 => ?_) (fun h10 => ?_)
  · exact r_return dX6_begin_91 rfl rfl
  · refine r_aload_n (x := 42) dX6_begin_80 rfl ?_
    refine r_iload_n (x := l3) dX6_begin_81 rfl ?_
    refine r_callV (k := 0) (idx := 60) (y := 69) (as := [.ref 42, .int l3]) (rest := []) (L0 := [(0, .ref 42), (1, .int l3)]) dX6_begin_82 rfl rfl rfl rfl rfl (vok_v (ob_42 hE) rfl) rfl (r_dep (by decide) (e_X6_workOutHour hE q l3)) (fun r9 => ?_)
    refine r_iinc (x := l3) (v := (l3 + (1 : Int32))) (L2 := [(0, .ref 42), (3, .int (l3 + (1 : Int32)))]) dX6_begin_85 rfl rfl rfl rfl ?_
    refine r_goto (t := 72) dX6_begin_88 rfl ?_
    exact r_sub (L' := [(0, .ref 42), (3, .int (l3 + (1 : Int32)))]) (sub_c rfl (sub_c rfl sub_n)) (hrec_72 r9 (l3 + (1 : Int32)))
def b_X6_begin_47 : SS → Int32 → Option SS :=
  fx2 (fun (rec_47 : SS → Int32 → Option SS) (q : SS) (l3 : Int32) =>
  if (6 : Int32) ≤ l3 then
  ((f_X6_sortTickets q).bind fun r8 =>
  b_X6_begin_72 r8 (0 : Int32))
  else
  (if vin l3 6 then
  nm (sI q 45 l3.toNatClampNeg (0 : Int32)) fun q11 =>
  rec_47 q11 (l3 + (1 : Int32))
  else none)) FU
theorem rb_X6_begin_47 {E : EE} (hE : GE E) (q : SS) (l3 : Int32) : R E (κV E) 5 67 47 [(0, .ref 42), (3, .int l3)] [] q (b_X6_begin_47 q l3) := by
  unfold b_X6_begin_47
  refine fx2_ok (P := fun q l3 o => R E (κV E) 5 67 47 [(0, .ref 42), (3, .int l3)] [] q o) (fun _ _ => r_no) (fun rec_47 hrec_47 q l3 => ?_) _ _ _
  refine r_iload_n (x := l3) dX6_begin_47 rfl ?_
  refine r_bipush (v := (6 : Int32)) dX6_begin_48 rfl ?_
  refine r_icmp_ge (t := 66) dX6_begin_50 rfl (fun h12 => ?_) (fun h12 => ?_)
  · refine r_aload_n (x := 42) dX6_begin_66 rfl ?_
    refine r_callV (k := 0) (idx := 57) (y := 68) (as := [.ref 42]) (rest := []) (L0 := [(0, .ref 42)]) dX6_begin_67 rfl rfl rfl rfl rfl (vok_v (ob_42 hE) rfl) rfl (r_dep (by decide) (e_X6_sortTickets hE q)) (fun r8 => ?_)
    refine r_iconst (v := (0 : Int32)) dX6_begin_70 rfl ?_
    refine r_istore_n (L2 := [(0, .ref 42), (3, .int (0 : Int32))]) dX6_begin_71 rfl rfl ?_
    exact r_sub (L' := [(0, .ref 42), (3, .int (0 : Int32))]) (sub_c rfl (sub_c rfl sub_n)) (rb_X6_begin_72 hE r8 (0 : Int32))
  · refine r_aload_n (x := 42) dX6_begin_53 rfl ?_
    refine r_getA dX6_begin_54 (fa_6_26_42 hE) ?_
    refine r_iload_n (x := l3) dX6_begin_57 rfl ?_
    refine r_iconst (v := (0 : Int32)) dX6_begin_58 rfl ?_
    refine r_iastore dX6_begin_59 (ar_45 hE) ?_
    refine r_nmS fun q11 _ => ?_
    refine r_iinc (x := l3) (v := (l3 + (1 : Int32))) (L2 := [(0, .ref 42), (3, .int (l3 + (1 : Int32)))]) dX6_begin_60 rfl rfl rfl rfl ?_
    refine r_goto (t := 47) dX6_begin_63 rfl ?_
    exact r_sub (L' := [(0, .ref 42), (3, .int (l3 + (1 : Int32)))]) (sub_c rfl (sub_c rfl sub_n)) (hrec_47 q11 (l3 + (1 : Int32)))
def f_X6_begin (q : SS) (a1 : Int32) (a2 : Int32) : Option SS :=
  (f_X8_begin q).bind fun r1 =>
  nm (sI r1 42 6 a1) fun q2 =>
  nm (sI q2 42 7 a2) fun q3 =>
  (f_X8_reals q3).bind fun r4 =>
  nm (sI q3 42 8 r4) fun q5 =>
  (f_X8_realsOf q5 a1).bind fun r6 =>
  nm (sI q5 42 9 ((q5.1 42 8) - r6)) fun q7 =>
  b_X6_begin_47 q7 (0 : Int32)
theorem e_X6_begin {E : EE} (hE : GE E) (q : SS) (a1 : Int32) (a2 : Int32) : R E (κV E) 5 67 0 [(0, .ref 42), (1, .int a1), (2, .int a2)] [] q (f_X6_begin q a1 a2) := by
  unfold f_X6_begin
  refine r_aload_n (x := 42) dX6_begin_0 rfl ?_
  refine r_getA dX6_begin_1 (fa_6_15_42 hE) ?_
  refine r_callV (k := 0) (idx := 32) (y := 97) (as := [.ref 24]) (rest := []) (L0 := [(0, .ref 24)]) dX6_begin_4 rfl rfl rfl rfl rfl (vok_v (ob_24 hE) rfl) rfl (r_dep (by decide) (e_X8_begin hE q)) (fun r1 => ?_)
  refine r_aload_n (x := 42) dX6_begin_7 rfl ?_
  refine r_iload_n (x := a1) dX6_begin_8 rfl ?_
  refine r_putI dX6_begin_9 (ff_6_37_42 hE) ?_
  refine r_nmS fun q2 _ => ?_
  refine r_aload_n (x := 42) dX6_begin_12 rfl ?_
  refine r_iload_n (x := a2) dX6_begin_13 rfl ?_
  refine r_putI dX6_begin_14 (ff_6_41_42 hE) ?_
  refine r_nmS fun q3 _ => ?_
  refine r_aload_n (x := 42) dX6_begin_17 rfl ?_
  refine r_aload_n (x := 42) dX6_begin_18 rfl ?_
  refine r_getA dX6_begin_19 (fa_6_15_42 hE) ?_
  refine r_calli (k := 0) (idx := 44) (y := 102) (as := [.ref 24]) (rest := [.ref 42]) (L0 := [(0, .ref 24)]) dX6_begin_22 rfl rfl rfl rfl rfl (vok_v (ob_24 hE) rfl) rfl (r_dep (by decide) (e_X8_reals hE q3)) (fun r4 => ?_)
  refine r_putI dX6_begin_25 (ff_6_48_42 hE) ?_
  refine r_nmS fun q5 _ => ?_
  refine r_aload_n (x := 42) dX6_begin_28 rfl ?_
  refine r_aload_n (x := 42) dX6_begin_29 rfl ?_
  refine r_getI dX6_begin_30 (ff_6_48_42 hE) (by decide) ?_
  refine r_aload_n (x := 42) dX6_begin_33 rfl ?_
  refine r_getA dX6_begin_34 (fa_6_15_42 hE) ?_
  refine r_iload_n (x := a1) dX6_begin_37 rfl ?_
  refine r_calli (k := 0) (idx := 50) (y := 101) (as := [.ref 24, .int a1]) (rest := [.int (q5.1 42 8), .ref 42]) (L0 := [(0, .ref 24), (1, .int a1)]) dX6_begin_38 rfl rfl rfl rfl rfl (vok_v (ob_24 hE) rfl) rfl (r_dep (by decide) (e_X8_realsOf hE q5 a1)) (fun r6 => ?_)
  refine r_isub dX6_begin_41 ?_
  refine r_putI dX6_begin_42 (ff_6_54_42 hE) ?_
  refine r_nmS fun q7 _ => ?_
  refine r_iconst (v := (0 : Int32)) dX6_begin_45 rfl ?_
  refine r_istore_n (L2 := [(0, .ref 42), (1, .int a1), (2, .int a2), (3, .int (0 : Int32))]) dX6_begin_46 rfl rfl ?_
  exact r_sub (L' := [(0, .ref 42), (3, .int (0 : Int32))]) (sub_c rfl (sub_c rfl sub_n)) (rb_X6_begin_47 hE q7 (0 : Int32))
def f_X6_oddsThen (q : SS) (a1 : Int32) (a2 : Int32) (a3 : Int32) : Option Int32 :=
  if vin a3 6 then
  (f_X6_placeOf q a1 a3 (q.1 45 a3.toNatClampNeg) a2).bind fun r1 =>
  if vin a2 4 then
  if (q.1 43 a2.toNatClampNeg) ≤ 0 then
  (some (0 : Int32))
  else
  (if r1 < 0 then
  (some (0 : Int32))
  else
  (if (216 : Int32) ≤ r1 then
  (some (0 : Int32))
  else
  (if vin r1 216 then
  some (q.1 46 r1.toNatClampNeg)
  else none)))
  else none
  else none
theorem e_X6_oddsThen {E : EE} (hE : GE E) (q : SS) (a1 : Int32) (a2 : Int32) (a3 : Int32) : R E (κi E q) 1 71 0 [(0, .ref 42), (1, .int a1), (2, .int a2), (3, .int a3)] [] q (f_X6_oddsThen q a1 a2 a3) := by
  unfold f_X6_oddsThen
  refine r_iload_n (x := a1) dX6_oddsThen_0 rfl ?_
  refine r_iload_n (x := a3) dX6_oddsThen_1 rfl ?_
  refine r_aload_n (x := 42) dX6_oddsThen_2 rfl ?_
  refine r_getA dX6_oddsThen_3 (fa_6_26_42 hE) ?_
  refine r_iload_n (x := a3) dX6_oddsThen_6 rfl ?_
  refine r_iaload dX6_oddsThen_7 (ar_45 hE) ?_
  refine r_iload_n (x := a2) dX6_oddsThen_8 rfl ?_
  refine r_calli (k := 2) (idx := 94) (y := 70) (as := [.int a1, .int a3, .int (q.1 45 a3.toNatClampNeg), .int a2]) (rest := []) (L0 := [(0, .int a1), (1, .int a3), (2, .int (q.1 45 a3.toNatClampNeg)), (3, .int a2)]) dX6_oddsThen_9 rfl rfl rfl rfl rfl vok_s rfl (r_dep (by decide) (e_X6_placeOf hE q a1 a3 (q.1 45 a3.toNatClampNeg) a2)) (fun r1 => ?_)
  refine r_istore (L2 := [(0, .ref 42), (1, .int a1), (2, .int a2), (3, .int a3), (4, .int r1)]) dX6_oddsThen_12 rfl rfl ?_
  refine r_aload_n (x := 42) dX6_oddsThen_14 rfl ?_
  refine r_getA dX6_oddsThen_15 (fa_6_19_42 hE) ?_
  refine r_iload_n (x := a2) dX6_oddsThen_18 rfl ?_
  refine r_iaload dX6_oddsThen_19 (ar_43 hE) ?_
  refine r_if_le (t := 48) dX6_oddsThen_20 rfl (fun h4 => ?_) (fun h4 => ?_)
  · refine r_iconst (v := (0 : Int32)) dX6_oddsThen_48 rfl ?_
    exact r_ireturn dX6_oddsThen_49 rfl rfl
  · refine r_iload (x := r1) dX6_oddsThen_23 rfl ?_
    refine r_if_lt (t := 48) dX6_oddsThen_25 rfl (fun h3 => ?_) (fun h3 => ?_)
    · refine r_iconst (v := (0 : Int32)) dX6_oddsThen_48 rfl ?_
      exact r_ireturn dX6_oddsThen_49 rfl rfl
    · refine r_iload (x := r1) dX6_oddsThen_28 rfl ?_
      refine r_aload_n (x := 42) dX6_oddsThen_30 rfl ?_
      refine r_getA dX6_oddsThen_31 (fa_6_29_42 hE) ?_
      refine r_len (v := (216 : Int32)) dX6_oddsThen_34 (ar_46 hE) (by decide) rfl ?_
      refine r_icmp_ge (t := 48) dX6_oddsThen_35 rfl (fun h2 => ?_) (fun h2 => ?_)
      · refine r_iconst (v := (0 : Int32)) dX6_oddsThen_48 rfl ?_
        exact r_ireturn dX6_oddsThen_49 rfl rfl
      · refine r_aload_n (x := 42) dX6_oddsThen_38 rfl ?_
        refine r_getA dX6_oddsThen_39 (fa_6_29_42 hE) ?_
        refine r_iload (x := r1) dX6_oddsThen_42 rfl ?_
        refine r_iaload dX6_oddsThen_44 (ar_46 hE) ?_
        refine r_goto (t := 49) dX6_oddsThen_45 rfl ?_
        exact r_ireturn dX6_oddsThen_49 rfl rfl
abbrev GT_X6_best : Type := (SS → Int32 → Int32 → Option (Int32 × SS)) × (SS → Int32 → Int32 → Int32 → Int32 → Int32 → Option (Int32 × SS))
def GS_X6_best (E : EE) (n : Nat) (r : GT_X6_best) : Prop := (∀ (q : SS) (a1 : Int32) (a2 : Int32), R E (κI E) (2 + n) 74 0 [(0, .ref 42), (1, .int a1), (2, .int a2)] [] q (r.1 q a1 a2)) ∧ (∀ (q : SS) (a1 : Int32) (a2 : Int32) (a3 : Int32) (a4 : Int32) (a5 : Int32), R E (κI E) (2 + n) 75 0 [(0, .ref 42), (1, .int a1), (2, .int a2), (3, .int a3), (4, .int a4), (5, .int a5)] [] q (r.2 q a1 a2 a3 a4 a5))
def b_X6_best_13 (r : GT_X6_best) (q : SS) (l2 : Int32) : Option (Int32 × SS) :=
  some (((q.1 42 9) + l2), q)
theorem rb_X6_best_13 {E : EE} (hE : GE E) {r : GT_X6_best} (n : Nat) (hr : GS_X6_best E n r) (q : SS) (l2 : Int32) : R E (κI E) (2 + n + 1) 74 13 [(0, .ref 42), (2, .int l2)] [] q (b_X6_best_13 r q l2) := by
  unfold b_X6_best_13
  refine r_aload_n (x := 42) dX6_best_13 rfl ?_
  refine r_getI dX6_best_14 (ff_6_54_42 hE) (by decide) ?_
  refine r_iload_n (x := l2) dX6_best_17 rfl ?_
  refine r_iadd dX6_best_18 ?_
  exact r_ireturn dX6_best_19 rfl rfl
def b_X6_best_47 (r : GT_X6_best) (rec_38 : SS → Int32 → Int32 → Int32 → Int32 → Int32 → Option (Int32 × SS)) : SS → Int32 → Int32 → Int32 → Int32 → Int32 → Int32 → Option (Int32 × SS) :=
  fx7 (fun (rec_47 : SS → Int32 → Int32 → Int32 → Int32 → Int32 → Int32 → Option (Int32 × SS)) (q : SS) (l1 : Int32) (l2 : Int32) (l3 : Int32) (l4 : Int32) (l5 : Int32) (l6 : Int32) =>
  (f_X10_people q).bind fun r3 =>
  if r3 ≤ l6 then
  (rec_38 q l1 l2 l3 l4 (l5 + (1 : Int32)))
  else
  ((r.2 q l1 l2 l5 l6 l3).bind fun r4 =>
  nm (jmax l4 r4.1) fun v5 =>
  rec_47 r4.2 l1 l2 l3 v5 l5 (l6 + (1 : Int32)))) FU
theorem rb_X6_best_47 {E : EE} (hE : GE E) {r : GT_X6_best} (n : Nat) (hr : GS_X6_best E n r) {rec_38 : SS → Int32 → Int32 → Int32 → Int32 → Int32 → Option (Int32 × SS)} (hrec_38 : ∀ (yq : SS) (yl1 : Int32) (yl2 : Int32) (yl3 : Int32) (yl4 : Int32) (yl5 : Int32), R E (κI E) (2 + n + 1) 74 38 [(0, .ref 42), (1, .int yl1), (2, .int yl2), (3, .int yl3), (4, .int yl4), (5, .int yl5)] [] yq (rec_38 yq yl1 yl2 yl3 yl4 yl5)) (q : SS) (l1 : Int32) (l2 : Int32) (l3 : Int32) (l4 : Int32) (l5 : Int32) (l6 : Int32) : R E (κI E) (2 + n + 1) 74 47 [(0, .ref 42), (1, .int l1), (2, .int l2), (3, .int l3), (4, .int l4), (5, .int l5), (6, .int l6)] [] q (b_X6_best_47 r rec_38 q l1 l2 l3 l4 l5 l6) := by
  unfold b_X6_best_47
  refine fx7_ok (P := fun q l1 l2 l3 l4 l5 l6 o => R E (κI E) (2 + n + 1) 74 47 [(0, .ref 42), (1, .int l1), (2, .int l2), (3, .int l3), (4, .int l4), (5, .int l5), (6, .int l6)] [] q o) (fun _ _ _ _ _ _ _ => r_no) (fun rec_47 hrec_47 q l1 l2 l3 l4 l5 l6 => ?_) _ _ _ _ _ _ _ _
  refine r_iload (x := l6) dX6_best_47 rfl ?_
  refine r_aload_n (x := 42) dX6_best_49 rfl ?_
  refine r_getA dX6_best_50 (fa_6_9_42 hE) ?_
  refine r_calli (k := 0) (idx := 88) (y := 125) (as := [.ref 1]) (rest := [.int l6]) (L0 := [(0, .ref 1)]) dX6_best_53 rfl rfl rfl rfl rfl (vok_v (ob_1 hE) rfl) rfl (r_dep (by omega) (e_X10_people hE q)) (fun r3 => ?_)
  refine r_icmp_ge (t := 83) dX6_best_56 rfl (fun h6 => ?_) (fun h6 => ?_)
  · refine r_iinc (x := l5) (v := (l5 + (1 : Int32))) (L2 := [(0, .ref 42), (1, .int l1), (2, .int l2), (3, .int l3), (4, .int l4), (5, .int (l5 + (1 : Int32))), (6, .int l6)]) dX6_best_83 rfl rfl rfl rfl ?_
    refine r_goto (t := 38) dX6_best_86 rfl ?_
    exact r_sub (L' := [(0, .ref 42), (1, .int l1), (2, .int l2), (3, .int l3), (4, .int l4), (5, .int (l5 + (1 : Int32)))]) (sub_c rfl (sub_c rfl (sub_c rfl (sub_c rfl (sub_c rfl (sub_c rfl sub_n)))))) (hrec_38 q l1 l2 l3 l4 (l5 + (1 : Int32)))
  · refine r_iload (x := l4) dX6_best_59 rfl ?_
    refine r_aload_n (x := 42) dX6_best_61 rfl ?_
    refine r_iload_n (x := l1) dX6_best_62 rfl ?_
    refine r_iload_n (x := l2) dX6_best_63 rfl ?_
    refine r_iload (x := l5) dX6_best_64 rfl ?_
    refine r_iload (x := l6) dX6_best_66 rfl ?_
    refine r_iload_n (x := l3) dX6_best_68 rfl ?_
    refine r_callI (k := 2) (idx := 109) (y := 75) (as := [.ref 42, .int l1, .int l2, .int l5, .int l6, .int l3]) (rest := [.int l4]) (L0 := [(0, .ref 42), (1, .int l1), (2, .int l2), (3, .int l5), (4, .int l6), (5, .int l3)]) dX6_best_69 rfl rfl rfl rfl rfl vok_s rfl (hr.2 q l1 l2 l5 l6 l3) (fun r4 => ?_)
    refine r_mm (j := 0) (v := (jmax l4 r4.1)) dX6_best_72 ⟨rfl, rfl, rfl, rfl⟩ rfl rfl ?_
    refine r_nmI fun v5 _ => ?_
    refine r_istore (L2 := [(0, .ref 42), (1, .int l1), (2, .int l2), (3, .int l3), (4, .int v5), (5, .int l5), (6, .int l6)]) dX6_best_75 rfl rfl ?_
    refine r_iinc (x := l6) (v := (l6 + (1 : Int32))) (L2 := [(0, .ref 42), (1, .int l1), (2, .int l2), (3, .int l3), (4, .int v5), (5, .int l5), (6, .int (l6 + (1 : Int32)))]) dX6_best_77 rfl rfl rfl rfl ?_
    refine r_goto (t := 47) dX6_best_80 rfl ?_
    exact r_sub (L' := [(0, .ref 42), (1, .int l1), (2, .int l2), (3, .int l3), (4, .int v5), (5, .int l5), (6, .int (l6 + (1 : Int32)))]) (sub_c rfl (sub_c rfl (sub_c rfl (sub_c rfl (sub_c rfl (sub_c rfl (sub_c rfl sub_n))))))) (hrec_47 r4.2 l1 l2 l3 v5 l5 (l6 + (1 : Int32)))
def b_X6_best_38 (r : GT_X6_best) : SS → Int32 → Int32 → Int32 → Int32 → Int32 → Option (Int32 × SS) :=
  fx6 (fun (rec_38 : SS → Int32 → Int32 → Int32 → Int32 → Int32 → Option (Int32 × SS)) (q : SS) (l1 : Int32) (l2 : Int32) (l3 : Int32) (l4 : Int32) (l5 : Int32) =>
  if (4 : Int32) ≤ l5 then
  (some (l4, q))
  else
  (b_X6_best_47 r rec_38 q l1 l2 l3 l4 l5 (0 : Int32))) FU
theorem rb_X6_best_38 {E : EE} (hE : GE E) {r : GT_X6_best} (n : Nat) (hr : GS_X6_best E n r) (q : SS) (l1 : Int32) (l2 : Int32) (l3 : Int32) (l4 : Int32) (l5 : Int32) : R E (κI E) (2 + n + 1) 74 38 [(0, .ref 42), (1, .int l1), (2, .int l2), (3, .int l3), (4, .int l4), (5, .int l5)] [] q (b_X6_best_38 r q l1 l2 l3 l4 l5) := by
  unfold b_X6_best_38
  refine fx6_ok (P := fun q l1 l2 l3 l4 l5 o => R E (κI E) (2 + n + 1) 74 38 [(0, .ref 42), (1, .int l1), (2, .int l2), (3, .int l3), (4, .int l4), (5, .int l5)] [] q o) (fun _ _ _ _ _ _ => r_no) (fun rec_38 hrec_38 q l1 l2 l3 l4 l5 => ?_) _ _ _ _ _ _ _
  refine r_iload (x := l5) dX6_best_38 rfl ?_
  refine r_iconst (v := (4 : Int32)) dX6_best_40 rfl ?_
  refine r_icmp_ge (t := 89) dX6_best_41 rfl (fun h7 => ?_) (fun h7 => ?_)
  · refine r_iload (x := l4) dX6_best_89 rfl ?_
    exact r_ireturn dX6_best_91 rfl rfl
  · refine r_iconst (v := (0 : Int32)) dX6_best_44 rfl ?_
    refine r_istore (L2 := [(0, .ref 42), (1, .int l1), (2, .int l2), (3, .int l3), (4, .int l4), (5, .int l5), (6, .int (0 : Int32))]) dX6_best_45 rfl rfl ?_
    exact r_sub (L' := [(0, .ref 42), (1, .int l1), (2, .int l2), (3, .int l3), (4, .int l4), (5, .int l5), (6, .int (0 : Int32))]) (sub_c rfl (sub_c rfl (sub_c rfl (sub_c rfl (sub_c rfl (sub_c rfl (sub_c rfl sub_n))))))) (rb_X6_best_47 hE n hr hrec_38 q l1 l2 l3 l4 l5 (0 : Int32))
def fb_X6_best (r : GT_X6_best) (q : SS) (a1 : Int32) (a2 : Int32) : Option (Int32 × SS) :=
  if (q.1 42 7) ≤ a1 then
  (b_X6_best_13 r q a2)
  else
  (if a1 < (3 : Int32) then
  ((r.1 q (a1 + (1 : Int32)) a2).bind fun r1 =>
  nm ((12 : Int32) * r1.1) fun v2 =>
  b_X6_best_38 r r1.2 a1 a2 r1.1 v2 (0 : Int32))
  else
  (b_X6_best_13 r q a2))
theorem eb_X6_best {E : EE} (hE : GE E) {r : GT_X6_best} (n : Nat) (hr : GS_X6_best E n r) (q : SS) (a1 : Int32) (a2 : Int32) : R E (κI E) (2 + n + 1) 74 0 [(0, .ref 42), (1, .int a1), (2, .int a2)] [] q (fb_X6_best r q a1 a2) := by
  unfold fb_X6_best
  refine r_iload_n (x := a1) dX6_best_0 rfl ?_
  refine r_aload_n (x := 42) dX6_best_1 rfl ?_
  refine r_getI dX6_best_2 (ff_6_41_42 hE) (by decide) ?_
  refine r_icmp_ge (t := 13) dX6_best_5 rfl (fun h9 => ?_) (fun h9 => ?_)
  · exact r_sub (L' := [(0, .ref 42), (2, .int a2)]) (sub_c rfl (sub_c rfl sub_n)) (rb_X6_best_13 hE n hr q a2)
  · refine r_iload_n (x := a1) dX6_best_8 rfl ?_
    refine r_iconst (v := (3 : Int32)) dX6_best_9 rfl ?_
    refine r_icmp_lt (t := 20) dX6_best_10 rfl (fun h8 => ?_) (fun h8 => ?_)
    · refine r_aload_n (x := 42) dX6_best_20 rfl ?_
      refine r_iload_n (x := a1) dX6_best_21 rfl ?_
      refine r_iconst (v := (1 : Int32)) dX6_best_22 rfl ?_
      refine r_iadd dX6_best_23 ?_
      refine r_iload_n (x := a2) dX6_best_24 rfl ?_
      refine r_callI (k := 2) (idx := 102) (y := 74) (as := [.ref 42, .int (a1 + (1 : Int32)), .int a2]) (rest := []) (L0 := [(0, .ref 42), (1, .int (a1 + (1 : Int32))), (2, .int a2)]) dX6_best_25 rfl rfl rfl rfl rfl vok_s rfl (hr.1 q (a1 + (1 : Int32)) a2) (fun r1 => ?_)
      refine r_istore_n (L2 := [(0, .ref 42), (1, .int a1), (2, .int a2), (3, .int r1.1)]) dX6_best_28 rfl rfl ?_
      refine r_bipush (v := (12 : Int32)) dX6_best_29 rfl ?_
      refine r_iload_n (x := r1.1) dX6_best_31 rfl ?_
      refine r_imul dX6_best_32 ?_
      refine r_nmI fun v2 _ => ?_
      refine r_istore (L2 := [(0, .ref 42), (1, .int a1), (2, .int a2), (3, .int r1.1), (4, .int v2)]) dX6_best_33 rfl rfl ?_
      refine r_iconst (v := (0 : Int32)) dX6_best_35 rfl ?_
      refine r_istore (L2 := [(0, .ref 42), (1, .int a1), (2, .int a2), (3, .int r1.1), (4, .int v2), (5, .int (0 : Int32))]) dX6_best_36 rfl rfl ?_
      exact r_sub (L' := [(0, .ref 42), (1, .int a1), (2, .int a2), (3, .int r1.1), (4, .int v2), (5, .int (0 : Int32))]) (sub_c rfl (sub_c rfl (sub_c rfl (sub_c rfl (sub_c rfl (sub_c rfl sub_n)))))) (rb_X6_best_38 hE n hr r1.2 a1 a2 r1.1 v2 (0 : Int32))
    · exact r_sub (L' := [(0, .ref 42), (2, .int a2)]) (sub_c rfl (sub_c rfl sub_n)) (rb_X6_best_13 hE n hr q a2)
def fb_X6_tried (r : GT_X6_best) (q : SS) (a1 : Int32) (a2 : Int32) (a3 : Int32) (a4 : Int32) (a5 : Int32) : Option (Int32 × SS) :=
  (f_X6_oddsThen q a1 a3 a4).bind fun r1 =>
  if r1 = 0 then
  (some (((12 : Int32) * a5), q))
  else
  (if vin a3 4 then
  if vin a3 4 then
  nm (sI q 43 a3.toNatClampNeg ((q.1 43 a3.toNatClampNeg) - (1 : Int32))) fun q2 =>
  if vin a4 6 then
  if vin a4 6 then
  nm (sI q2 45 a4.toNatClampNeg ((q2.1 45 a4.toNatClampNeg) + (1 : Int32))) fun q3 =>
  (r.1 q3 (a1 + (1 : Int32)) (a2 + (1 : Int32))).bind fun r4 =>
  if vin a3 4 then
  if vin a3 4 then
  nm (sI r4.2 43 a3.toNatClampNeg ((r4.2.1 43 a3.toNatClampNeg) + (1 : Int32))) fun q5 =>
  if vin a4 6 then
  if vin a4 6 then
  nm (sI q5 45 a4.toNatClampNeg ((q5.1 45 a4.toNatClampNeg) - (1 : Int32))) fun q6 =>
  some (((r1 * r4.1) + (((12 : Int32) - r1) * a5)), q6)
  else none
  else none
  else none
  else none
  else none
  else none
  else none
  else none)
theorem eb_X6_tried {E : EE} (hE : GE E) {r : GT_X6_best} (n : Nat) (hr : GS_X6_best E n r) (q : SS) (a1 : Int32) (a2 : Int32) (a3 : Int32) (a4 : Int32) (a5 : Int32) : R E (κI E) (2 + n + 1) 75 0 [(0, .ref 42), (1, .int a1), (2, .int a2), (3, .int a3), (4, .int a4), (5, .int a5)] [] q (fb_X6_tried r q a1 a2 a3 a4 a5) := by
  unfold fb_X6_tried
  refine r_aload_n (x := 42) dX6_tried_0 rfl ?_
  refine r_iload_n (x := a1) dX6_tried_1 rfl ?_
  refine r_iload_n (x := a3) dX6_tried_2 rfl ?_
  refine r_iload (x := a4) dX6_tried_3 rfl ?_
  refine r_calli (k := 0) (idx := 113) (y := 71) (as := [.ref 42, .int a1, .int a3, .int a4]) (rest := []) (L0 := [(0, .ref 42), (1, .int a1), (2, .int a3), (3, .int a4)]) dX6_tried_5 rfl rfl rfl rfl rfl (vok_v (ob_42 hE) rfl) rfl (r_dep (by omega) (e_X6_oddsThen hE q a1 a3 a4)) (fun r1 => ?_)
  refine r_istore (L2 := [(0, .ref 42), (1, .int a1), (2, .int a2), (3, .int a3), (4, .int a4), (5, .int a5), (6, .int r1)]) dX6_tried_8 rfl rfl ?_
  refine r_iload (x := r1) dX6_tried_10 rfl ?_
  refine r_if_ne (t := 21) dX6_tried_12 rfl (fun h7 => ?_) (fun h7 => ?_)
  · refine r_bipush (v := (12 : Int32)) dX6_tried_15 rfl ?_
    refine r_iload (x := a5) dX6_tried_17 rfl ?_
    refine r_imul dX6_tried_19 ?_
    exact r_ireturn dX6_tried_20 rfl rfl
  · refine r_aload_n (x := 42) dX6_tried_21 rfl ?_
    refine r_getA dX6_tried_22 (fa_6_19_42 hE) ?_
    refine r_iload_n (x := a3) dX6_tried_25 rfl ?_
    refine r_dup2 dX6_tried_26 ⟨rfl, rfl⟩ ?_
    refine r_iaload dX6_tried_27 (ar_43 hE) ?_
    refine r_iconst (v := (1 : Int32)) dX6_tried_28 rfl ?_
    refine r_isub dX6_tried_29 ?_
    refine r_iastore dX6_tried_30 (ar_43 hE) ?_
    refine r_nmS fun q2 _ => ?_
    refine r_aload_n (x := 42) dX6_tried_31 rfl ?_
    refine r_getA dX6_tried_32 (fa_6_26_42 hE) ?_
    refine r_iload (x := a4) dX6_tried_35 rfl ?_
    refine r_dup2 dX6_tried_37 ⟨rfl, rfl⟩ ?_
    refine r_iaload dX6_tried_38 (ar_45 hE) ?_
    refine r_iconst (v := (1 : Int32)) dX6_tried_39 rfl ?_
    refine r_iadd dX6_tried_40 ?_
    refine r_iastore dX6_tried_41 (ar_45 hE) ?_
    refine r_nmS fun q3 _ => ?_
    refine r_aload_n (x := 42) dX6_tried_42 rfl ?_
    refine r_iload_n (x := a1) dX6_tried_43 rfl ?_
    refine r_iconst (v := (1 : Int32)) dX6_tried_44 rfl ?_
    refine r_iadd dX6_tried_45 ?_
    refine r_iload_n (x := a2) dX6_tried_46 rfl ?_
    refine r_iconst (v := (1 : Int32)) dX6_tried_47 rfl ?_
    refine r_iadd dX6_tried_48 ?_
    refine r_callI (k := 2) (idx := 102) (y := 74) (as := [.ref 42, .int (a1 + (1 : Int32)), .int (a2 + (1 : Int32))]) (rest := []) (L0 := [(0, .ref 42), (1, .int (a1 + (1 : Int32))), (2, .int (a2 + (1 : Int32)))]) dX6_tried_49 rfl rfl rfl rfl rfl vok_s rfl (hr.1 q3 (a1 + (1 : Int32)) (a2 + (1 : Int32))) (fun r4 => ?_)
    refine r_istore (L2 := [(0, .ref 42), (1, .int a1), (2, .int a2), (3, .int a3), (4, .int a4), (5, .int a5), (6, .int r1), (7, .int r4.1)]) dX6_tried_52 rfl rfl ?_
    refine r_aload_n (x := 42) dX6_tried_54 rfl ?_
    refine r_getA dX6_tried_55 (fa_6_19_42 hE) ?_
    refine r_iload_n (x := a3) dX6_tried_58 rfl ?_
    refine r_dup2 dX6_tried_59 ⟨rfl, rfl⟩ ?_
    refine r_iaload dX6_tried_60 (ar_43 hE) ?_
    refine r_iconst (v := (1 : Int32)) dX6_tried_61 rfl ?_
    refine r_iadd dX6_tried_62 ?_
    refine r_iastore dX6_tried_63 (ar_43 hE) ?_
    refine r_nmS fun q5 _ => ?_
    refine r_aload_n (x := 42) dX6_tried_64 rfl ?_
    refine r_getA dX6_tried_65 (fa_6_26_42 hE) ?_
    refine r_iload (x := a4) dX6_tried_68 rfl ?_
    refine r_dup2 dX6_tried_70 ⟨rfl, rfl⟩ ?_
    refine r_iaload dX6_tried_71 (ar_45 hE) ?_
    refine r_iconst (v := (1 : Int32)) dX6_tried_72 rfl ?_
    refine r_isub dX6_tried_73 ?_
    refine r_iastore dX6_tried_74 (ar_45 hE) ?_
    refine r_nmS fun q6 _ => ?_
    refine r_iload (x := r1) dX6_tried_75 rfl ?_
    refine r_iload (x := r4.1) dX6_tried_77 rfl ?_
    refine r_imul dX6_tried_79 ?_
    refine r_bipush (v := (12 : Int32)) dX6_tried_80 rfl ?_
    refine r_iload (x := r1) dX6_tried_82 rfl ?_
    refine r_isub dX6_tried_84 ?_
    refine r_iload (x := a5) dX6_tried_85 rfl ?_
    refine r_imul dX6_tried_87 ?_
    refine r_iadd dX6_tried_88 ?_
    exact r_ireturn dX6_tried_89 rfl rfl
def g_X6_best : Nat → GT_X6_best
  | 0 => (fun _ _ _ => none, fun _ _ _ _ _ _ => none)
  | n + 1 => (fb_X6_best (g_X6_best n), fb_X6_tried (g_X6_best n))
theorem gs_X6_best {E : EE} (hE : GE E) : ∀ n, GS_X6_best E n (g_X6_best n)
  | 0 => ⟨fun _ _ _ => r_no, fun _ _ _ _ _ _ => r_no⟩
  | n + 1 => ⟨eb_X6_best hE n (gs_X6_best hE n), eb_X6_tried hE n (gs_X6_best hE n)⟩
def f_X6_best : SS → Int32 → Int32 → Option (Int32 × SS) := (g_X6_best 60).1
theorem e_X6_best {E : EE} (hE : GE E) : ∀ (q : SS) (a1 : Int32) (a2 : Int32), R E (κI E) 62 74 0 [(0, .ref 42), (1, .int a1), (2, .int a2)] [] q (f_X6_best q a1 a2) := (gs_X6_best hE 60).1
def f_X6_tried : SS → Int32 → Int32 → Int32 → Int32 → Int32 → Option (Int32 × SS) := (g_X6_best 60).2
theorem e_X6_tried {E : EE} (hE : GE E) : ∀ (q : SS) (a1 : Int32) (a2 : Int32) (a3 : Int32) (a4 : Int32) (a5 : Int32), R E (κI E) 62 75 0 [(0, .ref 42), (1, .int a1), (2, .int a2), (3, .int a3), (4, .int a4), (5, .int a5)] [] q (f_X6_tried q a1 a2 a3 a4 a5) := (gs_X6_best hE 60).2
def b_X6_firstSlipping_105 (rec_28 : SS → Int32 → Int32 → Int32 → Int32 → Option (Int32 × SS)) (rec_37 : SS → Int32 → Int32 → Int32 → Int32 → Int32 → Option (Int32 × SS)) (q : SS) (l1 : Int32) (l2 : Int32) (l3 : Int32) (l4 : Int32) (l5 : Int32) : Option (Int32 × SS) :=
  rec_37 q l1 l2 l3 l4 (l5 + (1 : Int32))
theorem rb_X6_firstSlipping_105 {E : EE} (hE : GE E) {rec_28 : SS → Int32 → Int32 → Int32 → Int32 → Option (Int32 × SS)} (hrec_28 : ∀ (yq : SS) (yl1 : Int32) (yl2 : Int32) (yl3 : Int32) (yl4 : Int32), R E (κI E) 63 76 28 [(0, .ref 42), (1, .int yl1), (2, .int yl2), (3, .int yl3), (4, .int yl4)] [] yq (rec_28 yq yl1 yl2 yl3 yl4)) {rec_37 : SS → Int32 → Int32 → Int32 → Int32 → Int32 → Option (Int32 × SS)} (hrec_37 : ∀ (yq : SS) (yl1 : Int32) (yl2 : Int32) (yl3 : Int32) (yl4 : Int32) (yl5 : Int32), R E (κI E) 63 76 37 [(0, .ref 42), (1, .int yl1), (2, .int yl2), (3, .int yl3), (4, .int yl4), (5, .int yl5)] [] yq (rec_37 yq yl1 yl2 yl3 yl4 yl5)) (q : SS) (l1 : Int32) (l2 : Int32) (l3 : Int32) (l4 : Int32) (l5 : Int32) : R E (κI E) 63 76 105 [(0, .ref 42), (1, .int l1), (2, .int l2), (3, .int l3), (4, .int l4), (5, .int l5)] [] q (b_X6_firstSlipping_105 rec_28 rec_37 q l1 l2 l3 l4 l5) := by
  unfold b_X6_firstSlipping_105
  refine r_iinc (x := l5) (v := (l5 + (1 : Int32))) (L2 := [(0, .ref 42), (1, .int l1), (2, .int l2), (3, .int l3), (4, .int l4), (5, .int (l5 + (1 : Int32)))]) dX6_firstSlipping_105 rfl rfl rfl rfl ?_
  refine r_goto (t := 37) dX6_firstSlipping_108 rfl ?_
  exact r_sub (L' := [(0, .ref 42), (1, .int l1), (2, .int l2), (3, .int l3), (4, .int l4), (5, .int (l5 + (1 : Int32)))]) (sub_c rfl (sub_c rfl (sub_c rfl (sub_c rfl (sub_c rfl (sub_c rfl sub_n)))))) (hrec_37 q l1 l2 l3 l4 (l5 + (1 : Int32)))
def b_X6_firstSlipping_99 (rec_28 : SS → Int32 → Int32 → Int32 → Int32 → Option (Int32 × SS)) (rec_37 : SS → Int32 → Int32 → Int32 → Int32 → Int32 → Option (Int32 × SS)) (q : SS) (l1 : Int32) (l4 : Int32) (l5 : Int32) (l6 : Int32) (l7 : Int32) : Option (Int32 × SS) :=
  b_X6_firstSlipping_105 rec_28 rec_37 q l1 l6 l7 l4 l5
theorem rb_X6_firstSlipping_99 {E : EE} (hE : GE E) {rec_28 : SS → Int32 → Int32 → Int32 → Int32 → Option (Int32 × SS)} (hrec_28 : ∀ (yq : SS) (yl1 : Int32) (yl2 : Int32) (yl3 : Int32) (yl4 : Int32), R E (κI E) 63 76 28 [(0, .ref 42), (1, .int yl1), (2, .int yl2), (3, .int yl3), (4, .int yl4)] [] yq (rec_28 yq yl1 yl2 yl3 yl4)) {rec_37 : SS → Int32 → Int32 → Int32 → Int32 → Int32 → Option (Int32 × SS)} (hrec_37 : ∀ (yq : SS) (yl1 : Int32) (yl2 : Int32) (yl3 : Int32) (yl4 : Int32) (yl5 : Int32), R E (κI E) 63 76 37 [(0, .ref 42), (1, .int yl1), (2, .int yl2), (3, .int yl3), (4, .int yl4), (5, .int yl5)] [] yq (rec_37 yq yl1 yl2 yl3 yl4 yl5)) (q : SS) (l1 : Int32) (l4 : Int32) (l5 : Int32) (l6 : Int32) (l7 : Int32) : R E (κI E) 63 76 99 [(0, .ref 42), (1, .int l1), (4, .int l4), (5, .int l5), (6, .int l6), (7, .int l7)] [] q (b_X6_firstSlipping_99 rec_28 rec_37 q l1 l4 l5 l6 l7) := by
  unfold b_X6_firstSlipping_99
  refine r_iload (x := l6) dX6_firstSlipping_99 rfl ?_
  refine r_istore_n (L2 := [(0, .ref 42), (1, .int l1), (2, .int l6), (4, .int l4), (5, .int l5), (6, .int l6), (7, .int l7)]) dX6_firstSlipping_101 rfl rfl ?_
  refine r_iload (x := l7) dX6_firstSlipping_102 rfl ?_
  refine r_istore_n (L2 := [(0, .ref 42), (1, .int l1), (2, .int l6), (3, .int l7), (4, .int l4), (5, .int l5), (6, .int l6), (7, .int l7)]) dX6_firstSlipping_104 rfl rfl ?_
  exact r_sub (L' := [(0, .ref 42), (1, .int l1), (2, .int l6), (3, .int l7), (4, .int l4), (5, .int l5)]) (sub_c rfl (sub_c rfl (sub_c rfl (sub_c rfl (sub_c rfl (sub_c rfl sub_n)))))) (rb_X6_firstSlipping_105 hE hrec_28 hrec_37 q l1 l6 l7 l4 l5)
def b_X6_firstSlipping_37 (rec_28 : SS → Int32 → Int32 → Int32 → Int32 → Option (Int32 × SS)) : SS → Int32 → Int32 → Int32 → Int32 → Int32 → Option (Int32 × SS) :=
  fx6 (fun (rec_37 : SS → Int32 → Int32 → Int32 → Int32 → Int32 → Option (Int32 × SS)) (q : SS) (l1 : Int32) (l2 : Int32) (l3 : Int32) (l4 : Int32) (l5 : Int32) =>
  (f_X10_people q).bind fun r3 =>
  if r3 ≤ l5 then
  (rec_28 q l1 l2 l3 (l4 + (1 : Int32)))
  else
  ((f_X6_tried q (0 : Int32) (0 : Int32) l4 l5 l1).bind fun r4 =>
  if vin l4 4 then
  nm (((8 : Int32) * (r4.2.1 44 l4.toNatClampNeg)) + l5) fun v5 =>
  if l2 < r4.1 then
  (b_X6_firstSlipping_99 rec_28 rec_37 r4.2 l1 l4 l5 r4.1 v5)
  else
  (if r4.1 = l2 then
  (if l3 < 0 then
  (b_X6_firstSlipping_105 rec_28 rec_37 r4.2 l1 l2 l3 l4 l5)
  else
  (if l3 ≤ v5 then
  (b_X6_firstSlipping_105 rec_28 rec_37 r4.2 l1 l2 l3 l4 l5)
  else
  (b_X6_firstSlipping_99 rec_28 rec_37 r4.2 l1 l4 l5 r4.1 v5)))
  else
  (b_X6_firstSlipping_105 rec_28 rec_37 r4.2 l1 l2 l3 l4 l5))
  else none)) FU
theorem rb_X6_firstSlipping_37 {E : EE} (hE : GE E) {rec_28 : SS → Int32 → Int32 → Int32 → Int32 → Option (Int32 × SS)} (hrec_28 : ∀ (yq : SS) (yl1 : Int32) (yl2 : Int32) (yl3 : Int32) (yl4 : Int32), R E (κI E) 63 76 28 [(0, .ref 42), (1, .int yl1), (2, .int yl2), (3, .int yl3), (4, .int yl4)] [] yq (rec_28 yq yl1 yl2 yl3 yl4)) (q : SS) (l1 : Int32) (l2 : Int32) (l3 : Int32) (l4 : Int32) (l5 : Int32) : R E (κI E) 63 76 37 [(0, .ref 42), (1, .int l1), (2, .int l2), (3, .int l3), (4, .int l4), (5, .int l5)] [] q (b_X6_firstSlipping_37 rec_28 q l1 l2 l3 l4 l5) := by
  unfold b_X6_firstSlipping_37
  refine fx6_ok (P := fun q l1 l2 l3 l4 l5 o => R E (κI E) 63 76 37 [(0, .ref 42), (1, .int l1), (2, .int l2), (3, .int l3), (4, .int l4), (5, .int l5)] [] q o) (fun _ _ _ _ _ _ => r_no) (fun rec_37 hrec_37 q l1 l2 l3 l4 l5 => ?_) _ _ _ _ _ _ _
  refine r_iload (x := l5) dX6_firstSlipping_37 rfl ?_
  refine r_aload_n (x := 42) dX6_firstSlipping_39 rfl ?_
  refine r_getA dX6_firstSlipping_40 (fa_6_9_42 hE) ?_
  refine r_calli (k := 0) (idx := 88) (y := 125) (as := [.ref 1]) (rest := [.int l5]) (L0 := [(0, .ref 1)]) dX6_firstSlipping_43 rfl rfl rfl rfl rfl (vok_v (ob_1 hE) rfl) rfl (r_dep (by decide) (e_X10_people hE q)) (fun r3 => ?_)
  refine r_icmp_ge (t := 111) dX6_firstSlipping_46 rfl (fun h10 => ?_) (fun h10 => ?_)
  · refine r_iinc (x := l4) (v := (l4 + (1 : Int32))) (L2 := [(0, .ref 42), (1, .int l1), (2, .int l2), (3, .int l3), (4, .int (l4 + (1 : Int32))), (5, .int l5)]) dX6_firstSlipping_111 rfl rfl rfl rfl ?_
    refine r_goto (t := 28) dX6_firstSlipping_114 rfl ?_
    exact r_sub (L' := [(0, .ref 42), (1, .int l1), (2, .int l2), (3, .int l3), (4, .int (l4 + (1 : Int32)))]) (sub_c rfl (sub_c rfl (sub_c rfl (sub_c rfl (sub_c rfl sub_n))))) (hrec_28 q l1 l2 l3 (l4 + (1 : Int32)))
  · refine r_aload_n (x := 42) dX6_firstSlipping_49 rfl ?_
    refine r_iconst (v := (0 : Int32)) dX6_firstSlipping_50 rfl ?_
    refine r_iconst (v := (0 : Int32)) dX6_firstSlipping_51 rfl ?_
    refine r_iload (x := l4) dX6_firstSlipping_52 rfl ?_
    refine r_iload (x := l5) dX6_firstSlipping_54 rfl ?_
    refine r_iload_n (x := l1) dX6_firstSlipping_56 rfl ?_
    refine r_callI (k := 2) (idx := 109) (y := 75) (as := [.ref 42, .int (0 : Int32), .int (0 : Int32), .int l4, .int l5, .int l1]) (rest := []) (L0 := [(0, .ref 42), (1, .int (0 : Int32)), (2, .int (0 : Int32)), (3, .int l4), (4, .int l5), (5, .int l1)]) dX6_firstSlipping_57 rfl rfl rfl rfl rfl vok_s rfl (r_dep (by decide) (e_X6_tried hE q (0 : Int32) (0 : Int32) l4 l5 l1)) (fun r4 => ?_)
    refine r_istore (L2 := [(0, .ref 42), (1, .int l1), (2, .int l2), (3, .int l3), (4, .int l4), (5, .int l5), (6, .int r4.1)]) dX6_firstSlipping_60 rfl rfl ?_
    refine r_bipush (v := (8 : Int32)) dX6_firstSlipping_62 rfl ?_
    refine r_aload_n (x := 42) dX6_firstSlipping_64 rfl ?_
    refine r_getA dX6_firstSlipping_65 (fa_6_23_42 hE) ?_
    refine r_iload (x := l4) dX6_firstSlipping_68 rfl ?_
    refine r_iaload dX6_firstSlipping_70 (ar_44 hE) ?_
    refine r_imul dX6_firstSlipping_71 ?_
    refine r_iload (x := l5) dX6_firstSlipping_72 rfl ?_
    refine r_iadd dX6_firstSlipping_74 ?_
    refine r_nmI fun v5 _ => ?_
    refine r_istore (L2 := [(0, .ref 42), (1, .int l1), (2, .int l2), (3, .int l3), (4, .int l4), (5, .int l5), (6, .int r4.1), (7, .int v5)]) dX6_firstSlipping_75 rfl rfl ?_
    refine r_iload (x := r4.1) dX6_firstSlipping_77 rfl ?_
    refine r_iload_n (x := l2) dX6_firstSlipping_79 rfl ?_
    refine r_icmp_gt (t := 99) dX6_firstSlipping_80 rfl (fun h9 => ?_) (fun h9 => ?_)
    · exact r_sub (L' := [(0, .ref 42), (1, .int l1), (4, .int l4), (5, .int l5), (6, .int r4.1), (7, .int v5)]) (sub_c rfl (sub_c rfl (sub_c rfl (sub_c rfl (sub_c rfl (sub_c rfl sub_n)))))) (rb_X6_firstSlipping_99 hE hrec_28 hrec_37 r4.2 l1 l4 l5 r4.1 v5)
    · refine r_iload (x := r4.1) dX6_firstSlipping_83 rfl ?_
      refine r_iload_n (x := l2) dX6_firstSlipping_85 rfl ?_
      refine r_icmp_ne (t := 105) dX6_firstSlipping_86 rfl (fun h8 => ?_) (fun h8 => ?_)
      · refine r_iload_n (x := l3) dX6_firstSlipping_89 rfl ?_
        refine r_if_lt (t := 105) dX6_firstSlipping_90 rfl (fun h7 => ?_) (fun h7 => ?_)
        · exact r_sub (L' := [(0, .ref 42), (1, .int l1), (2, .int l2), (3, .int l3), (4, .int l4), (5, .int l5)]) (sub_c rfl (sub_c rfl (sub_c rfl (sub_c rfl (sub_c rfl (sub_c rfl sub_n)))))) (rb_X6_firstSlipping_105 hE hrec_28 hrec_37 r4.2 l1 l2 l3 l4 l5)
        · refine r_iload (x := v5) dX6_firstSlipping_93 rfl ?_
          refine r_iload_n (x := l3) dX6_firstSlipping_95 rfl ?_
          refine r_icmp_ge (t := 105) dX6_firstSlipping_96 rfl (fun h6 => ?_) (fun h6 => ?_)
          · exact r_sub (L' := [(0, .ref 42), (1, .int l1), (2, .int l2), (3, .int l3), (4, .int l4), (5, .int l5)]) (sub_c rfl (sub_c rfl (sub_c rfl (sub_c rfl (sub_c rfl (sub_c rfl sub_n)))))) (rb_X6_firstSlipping_105 hE hrec_28 hrec_37 r4.2 l1 l2 l3 l4 l5)
          · exact r_sub (L' := [(0, .ref 42), (1, .int l1), (4, .int l4), (5, .int l5), (6, .int r4.1), (7, .int v5)]) (sub_c rfl (sub_c rfl (sub_c rfl (sub_c rfl (sub_c rfl (sub_c rfl sub_n)))))) (rb_X6_firstSlipping_99 hE hrec_28 hrec_37 r4.2 l1 l4 l5 r4.1 v5)
      · exact r_sub (L' := [(0, .ref 42), (1, .int l1), (2, .int l2), (3, .int l3), (4, .int l4), (5, .int l5)]) (sub_c rfl (sub_c rfl (sub_c rfl (sub_c rfl (sub_c rfl (sub_c rfl sub_n)))))) (rb_X6_firstSlipping_105 hE hrec_28 hrec_37 r4.2 l1 l2 l3 l4 l5)
def b_X6_firstSlipping_28 : SS → Int32 → Int32 → Int32 → Int32 → Option (Int32 × SS) :=
  fx5 (fun (rec_28 : SS → Int32 → Int32 → Int32 → Int32 → Option (Int32 × SS)) (q : SS) (l1 : Int32) (l2 : Int32) (l3 : Int32) (l4 : Int32) =>
  if (4 : Int32) ≤ l4 then
  (some (l3, q))
  else
  (b_X6_firstSlipping_37 rec_28 q l1 l2 l3 l4 (0 : Int32))) FU
theorem rb_X6_firstSlipping_28 {E : EE} (hE : GE E) (q : SS) (l1 : Int32) (l2 : Int32) (l3 : Int32) (l4 : Int32) : R E (κI E) 63 76 28 [(0, .ref 42), (1, .int l1), (2, .int l2), (3, .int l3), (4, .int l4)] [] q (b_X6_firstSlipping_28 q l1 l2 l3 l4) := by
  unfold b_X6_firstSlipping_28
  refine fx5_ok (P := fun q l1 l2 l3 l4 o => R E (κI E) 63 76 28 [(0, .ref 42), (1, .int l1), (2, .int l2), (3, .int l3), (4, .int l4)] [] q o) (fun _ _ _ _ _ => r_no) (fun rec_28 hrec_28 q l1 l2 l3 l4 => ?_) _ _ _ _ _ _
  refine r_iload (x := l4) dX6_firstSlipping_28 rfl ?_
  refine r_iconst (v := (4 : Int32)) dX6_firstSlipping_30 rfl ?_
  refine r_icmp_ge (t := 117) dX6_firstSlipping_31 rfl (fun h11 => ?_) (fun h11 => ?_)
  · refine r_iload_n (x := l3) dX6_firstSlipping_117 rfl ?_
    exact r_ireturn dX6_firstSlipping_118 rfl rfl
  · refine r_iconst (v := (0 : Int32)) dX6_firstSlipping_34 rfl ?_
    refine r_istore (L2 := [(0, .ref 42), (1, .int l1), (2, .int l2), (3, .int l3), (4, .int l4), (5, .int (0 : Int32))]) dX6_firstSlipping_35 rfl rfl ?_
    exact r_sub (L' := [(0, .ref 42), (1, .int l1), (2, .int l2), (3, .int l3), (4, .int l4), (5, .int (0 : Int32))]) (sub_c rfl (sub_c rfl (sub_c rfl (sub_c rfl (sub_c rfl (sub_c rfl sub_n)))))) (rb_X6_firstSlipping_37 hE hrec_28 q l1 l2 l3 l4 (0 : Int32))
def f_X6_firstSlipping (q : SS)  : Option (Int32 × SS) :=
  if (q.1 42 7) = 0 then
  (some ((-2 : Int32), q))
  else
  ((f_X6_best q (1 : Int32) (0 : Int32)).bind fun r1 =>
  nm ((12 : Int32) * r1.1) fun v2 =>
  b_X6_firstSlipping_28 r1.2 r1.1 v2 (-2 : Int32) (0 : Int32))
theorem e_X6_firstSlipping {E : EE} (hE : GE E) (q : SS)  : R E (κI E) 63 76 0 [(0, .ref 42)] [] q (f_X6_firstSlipping q) := by
  unfold f_X6_firstSlipping
  refine r_aload_n (x := 42) dX6_firstSlipping_0 rfl ?_
  refine r_getI dX6_firstSlipping_1 (ff_6_41_42 hE) (by decide) ?_
  refine r_if_ne (t := 10) dX6_firstSlipping_4 rfl (fun h12 => ?_) (fun h12 => ?_)
  · refine r_bipush (v := (-2 : Int32)) dX6_firstSlipping_7 rfl ?_
    exact r_ireturn dX6_firstSlipping_9 rfl rfl
  · refine r_aload_n (x := 42) dX6_firstSlipping_10 rfl ?_
    refine r_iconst (v := (1 : Int32)) dX6_firstSlipping_11 rfl ?_
    refine r_iconst (v := (0 : Int32)) dX6_firstSlipping_12 rfl ?_
    refine r_callI (k := 2) (idx := 102) (y := 74) (as := [.ref 42, .int (1 : Int32), .int (0 : Int32)]) (rest := []) (L0 := [(0, .ref 42), (1, .int (1 : Int32)), (2, .int (0 : Int32))]) dX6_firstSlipping_13 rfl rfl rfl rfl rfl vok_s rfl (r_dep (by decide) (e_X6_best hE q (1 : Int32) (0 : Int32))) (fun r1 => ?_)
    refine r_istore_n (L2 := [(0, .ref 42), (1, .int r1.1)]) dX6_firstSlipping_16 rfl rfl ?_
    refine r_bipush (v := (12 : Int32)) dX6_firstSlipping_17 rfl ?_
    refine r_iload_n (x := r1.1) dX6_firstSlipping_19 rfl ?_
    refine r_imul dX6_firstSlipping_20 ?_
    refine r_nmI fun v2 _ => ?_
    refine r_istore_n (L2 := [(0, .ref 42), (1, .int r1.1), (2, .int v2)]) dX6_firstSlipping_21 rfl rfl ?_
    refine r_bipush (v := (-2 : Int32)) dX6_firstSlipping_22 rfl ?_
    refine r_istore_n (L2 := [(0, .ref 42), (1, .int r1.1), (2, .int v2), (3, .int (-2 : Int32))]) dX6_firstSlipping_24 rfl rfl ?_
    refine r_iconst (v := (0 : Int32)) dX6_firstSlipping_25 rfl ?_
    refine r_istore (L2 := [(0, .ref 42), (1, .int r1.1), (2, .int v2), (3, .int (-2 : Int32)), (4, .int (0 : Int32))]) dX6_firstSlipping_26 rfl rfl ?_
    exact r_sub (L' := [(0, .ref 42), (1, .int r1.1), (2, .int v2), (3, .int (-2 : Int32)), (4, .int (0 : Int32))]) (sub_c rfl (sub_c rfl (sub_c rfl (sub_c rfl (sub_c rfl sub_n))))) (rb_X6_firstSlipping_28 hE r1.2 r1.1 v2 (-2 : Int32) (0 : Int32))

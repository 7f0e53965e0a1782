def b_X12_friend_91 : SS → Int32 → Int32 → Int32 → Int32 → Int32 → Option (Int32 × SS) :=
  fx6 (fun (rec_91 : SS → Int32 → Int32 → Int32 → Int32 → Int32 → Option (Int32 × SS)) (q : SS) (l1 : Int32) (l2 : Int32) (l3 : Int32) (l4 : Int32) (l5 : Int32) =>
  if l4 < l5 then
  (some ((-2 : Int32), q))
  else
  ((f_X12_realOf q l1).bind fun r6 =>
  if ((12 : Int32) * (r6 + l5)) < (l2 * l3) then
  (rec_91 q l1 l2 l3 l4 (l5 + (1 : Int32)))
  else
  (some (l5, q)))) FU
theorem rb_X12_friend_91 {E : EE} (hE : GE E) (q : SS) (l1 : Int32) (l2 : Int32) (l3 : Int32) (l4 : Int32) (l5 : Int32) : R E (κI E) 2 255 91 [(0, .ref 60), (1, .int l1), (2, .int l2), (3, .int l3), (4, .int l4), (5, .int l5)] [] q (b_X12_friend_91 q l1 l2 l3 l4 l5) := by
  unfold b_X12_friend_91
  refine fx6_ok (P := fun q l1 l2 l3 l4 l5 o => R E (κI E) 2 255 91 [(0, .ref 60), (1, .int l1), (2, .int l2), (3, .int l3), (4, .int l4), (5, .int l5)] [] q o) (fun _ _ _ _ _ _ => r_no) (fun rec_91 hrec_91 q l1 l2 l3 l4 l5 => ?_) _ _ _ _ _ _ _
  refine r_iload (x := l5) gX12_friend_59.2.2.2.2.2.2.2.2.2.2.2.2.2.2.2.1 rfl ?_
  refine r_iload (x := l4) gX12_friend_93.1 rfl ?_
  refine r_icmp_gt (t := 124) gX12_friend_93.2.1 rfl (fun h8 => ?_) (fun h8 => ?_)
  · refine r_bipush (v := (-2 : Int32)) gX12_friend_121.2.1 rfl ?_
    exact r_ireturn gX12_friend_121.2.2.1 rfl rfl
  · refine r_bipush (v := (12 : Int32)) gX12_friend_93.2.2.1 rfl ?_
    refine r_aload_n (x := 60) gX12_friend_93.2.2.2.1 rfl ?_
    refine r_iload_n (x := l1) gX12_friend_93.2.2.2.2.1 rfl ?_
    refine r_calli (k := 0) (idx := 175) (y := 228) (as := [.ref 60, .int l1]) (rest := [.int (12 : Int32)]) (L0 := [(0, .ref 60), (1, .int l1)]) gX12_friend_93.2.2.2.2.2.1 rfl rfl rfl rfl rfl (vok_v (ob_60 hE) rfl) rfl (r_dep (by decide) (e_X12_realOf hE q l1)) (fun r6 => ?_)
    refine r_iload (x := l5) gX12_friend_93.2.2.2.2.2.2.1 rfl ?_
    refine r_iadd gX12_friend_93.2.2.2.2.2.2.2.1 ?_
    refine r_imul gX12_friend_93.2.2.2.2.2.2.2.2.1 ?_
    refine r_iload_n (x := l2) gX12_friend_93.2.2.2.2.2.2.2.2.2.1 rfl ?_
    refine r_iload_n (x := l3) gX12_friend_93.2.2.2.2.2.2.2.2.2.2.1 rfl ?_
    refine r_imul gX12_friend_93.2.2.2.2.2.2.2.2.2.2.2.1 ?_
    refine r_icmp_lt (t := 118) gX12_friend_93.2.2.2.2.2.2.2.2.2.2.2.2.1 rfl (fun h7 => ?_) (fun h7 => ?_)
    · refine r_iinc (x := l5) (v := (l5 + (1 : Int32))) (L2 := [(0, .ref 60), (1, .int l1), (2, .int l2), (3, .int l3), (4, .int l4), (5, .int (l5 + (1 : Int32)))]) gX12_friend_93.2.2.2.2.2.2.2.2.2.2.2.2.2.2.2.1 rfl rfl rfl rfl ?_
      refine r_goto (t := 91) gX12_friend_121.1 rfl ?_
      exact r_sub (L' := [(0, .ref 60), (1, .int l1), (2, .int l2), (3, .int l3), (4, .int l4), (5, .int (l5 + (1 : Int32)))]) (sub_c rfl (sub_c rfl (sub_c rfl (sub_c rfl (sub_c rfl (sub_c rfl sub_n)))))) (hrec_91 q l1 l2 l3 l4 (l5 + (1 : Int32)))
    · refine r_iload (x := l5) gX12_friend_93.2.2.2.2.2.2.2.2.2.2.2.2.2.1 rfl ?_
      exact r_ireturn gX12_friend_93.2.2.2.2.2.2.2.2.2.2.2.2.2.2.1 rfl rfl
def b_X12_friend_82 (rec_50 : SS → Int32 → Int32 → Int32 → Int32 → Int32 → Option (Int32 × SS)) (q : SS) (l1 : Int32) (l2 : Int32) (l3 : Int32) (l4 : Int32) (l5 : Int32) : Option (Int32 × SS) :=
  rec_50 q l1 l2 l3 l4 (l5 + (1 : Int32))
theorem rb_X12_friend_82 {E : EE} (hE : GE E) {rec_50 : SS → Int32 → Int32 → Int32 → Int32 → Int32 → Option (Int32 × SS)} (hrec_50 : ∀ (yq : SS) (yl1 : Int32) (yl2 : Int32) (yl3 : Int32) (yl4 : Int32) (yl5 : Int32), R E (κI E) 2 255 50 [(0, .ref 60), (1, .int yl1), (2, .int yl2), (3, .int yl3), (4, .int yl4), (5, .int yl5)] [] yq (rec_50 yq yl1 yl2 yl3 yl4 yl5)) (q : SS) (l1 : Int32) (l2 : Int32) (l3 : Int32) (l4 : Int32) (l5 : Int32) : R E (κI E) 2 255 82 [(0, .ref 60), (1, .int l1), (2, .int l2), (3, .int l3), (4, .int l4), (5, .int l5)] [] q (b_X12_friend_82 rec_50 q l1 l2 l3 l4 l5) := by
  unfold b_X12_friend_82
  refine r_iinc (x := l5) (v := (l5 + (1 : Int32))) (L2 := [(0, .ref 60), (1, .int l1), (2, .int l2), (3, .int l3), (4, .int l4), (5, .int (l5 + (1 : Int32)))]) gX12_friend_59.2.2.2.2.2.2.2.2.2.2.2.1 rfl rfl rfl rfl ?_
  refine r_goto (t := 50) gX12_friend_59.2.2.2.2.2.2.2.2.2.2.2.2.1 rfl ?_
  exact r_sub (L' := [(0, .ref 60), (1, .int l1), (2, .int l2), (3, .int l3), (4, .int l4), (5, .int (l5 + (1 : Int32)))]) (sub_c rfl (sub_c rfl (sub_c rfl (sub_c rfl (sub_c rfl (sub_c rfl sub_n)))))) (hrec_50 q l1 l2 l3 l4 (l5 + (1 : Int32)))
def b_X12_friend_50 : SS → Int32 → Int32 → Int32 → Int32 → Int32 → Option (Int32 × SS) :=
  fx6 (fun (rec_50 : SS → Int32 → Int32 → Int32 → Int32 → Int32 → Option (Int32 × SS)) (q : SS) (l1 : Int32) (l2 : Int32) (l3 : Int32) (l4 : Int32) (l5 : Int32) =>
  if (q.1 60 6) ≤ l5 then
  (b_X12_friend_91 q l1 l2 l3 l4 (0 : Int32))
  else
  (if vin l5 12 then
  if (q.1 66 l5.toNatClampNeg) = 0 then
  ((f_X12_maySlip q l5 l1).bind fun r9 =>
  if r9 = 0 then
  (b_X12_friend_82 rec_50 q l1 l2 l3 l4 l5)
  else
  (b_X12_friend_82 rec_50 q l1 l2 l3 (l4 + (1 : Int32)) l5))
  else
  (b_X12_friend_82 rec_50 q l1 l2 l3 l4 l5)
  else none)) FU
theorem rb_X12_friend_50 {E : EE} (hE : GE E) (q : SS) (l1 : Int32) (l2 : Int32) (l3 : Int32) (l4 : Int32) (l5 : Int32) : R E (κI E) 2 255 50 [(0, .ref 60), (1, .int l1), (2, .int l2), (3, .int l3), (4, .int l4), (5, .int l5)] [] q (b_X12_friend_50 q l1 l2 l3 l4 l5) := by
  unfold b_X12_friend_50
  refine fx6_ok (P := fun q l1 l2 l3 l4 l5 o => R E (κI E) 2 255 50 [(0, .ref 60), (1, .int l1), (2, .int l2), (3, .int l3), (4, .int l4), (5, .int l5)] [] q o) (fun _ _ _ _ _ _ => r_no) (fun rec_50 hrec_50 q l1 l2 l3 l4 l5 => ?_) _ _ _ _ _ _ _
  refine r_iload (x := l5) gX12_friend_29.2.2.2.2.2.2.2.2.2.2.2.2.1 rfl ?_
  refine r_aload_n (x := 60) gX12_friend_29.2.2.2.2.2.2.2.2.2.2.2.2.2.1 rfl ?_
  refine r_getI gX12_friend_29.2.2.2.2.2.2.2.2.2.2.2.2.2.2.1 (ff_12_122_60 hE) (by decide) ?_
  refine r_icmp_ge (t := 88) gX12_friend_29.2.2.2.2.2.2.2.2.2.2.2.2.2.2.2.1 rfl (fun h12 => ?_) (fun h12 => ?_)
  · refine r_iconst (v := (0 : Int32)) gX12_friend_59.2.2.2.2.2.2.2.2.2.2.2.2.2.1 rfl ?_
    refine r_istore (L2 := [(0, .ref 60), (1, .int l1), (2, .int l2), (3, .int l3), (4, .int l4), (5, .int (0 : Int32))]) gX12_friend_59.2.2.2.2.2.2.2.2.2.2.2.2.2.2.1 rfl rfl ?_
    exact r_sub (L' := [(0, .ref 60), (1, .int l1), (2, .int l2), (3, .int l3), (4, .int l4), (5, .int (0 : Int32))]) (sub_c rfl (sub_c rfl (sub_c rfl (sub_c rfl (sub_c rfl (sub_c rfl sub_n)))))) (rb_X12_friend_91 hE q l1 l2 l3 l4 (0 : Int32))
  · refine r_aload_n (x := 60) gX12_friend_59.1 rfl ?_
    refine r_getA gX12_friend_59.2.1 (fa_12_27_60 hE) ?_
    refine r_iload (x := l5) gX12_friend_59.2.2.1 rfl ?_
    refine r_iaload gX12_friend_59.2.2.2.1 (ar_66 hE) ?_
    refine r_if_ne (t := 82) gX12_friend_59.2.2.2.2.1 rfl (fun h11 => ?_) (fun h11 => ?_)
    · refine r_aload_n (x := 60) gX12_friend_59.2.2.2.2.2.1 rfl ?_
      refine r_iload (x := l5) gX12_friend_59.2.2.2.2.2.2.1 rfl ?_
      refine r_iload_n (x := l1) gX12_friend_59.2.2.2.2.2.2.2.1 rfl ?_
      refine r_calli (k := 0) (idx := 251) (y := 230) (as := [.ref 60, .int l5, .int l1]) (rest := []) (L0 := [(0, .ref 60), (1, .int l5), (2, .int l1)]) gX12_friend_59.2.2.2.2.2.2.2.2.1 rfl rfl rfl rfl rfl (vok_v (ob_60 hE) rfl) rfl (r_dep (by decide) (e_X12_maySlip hE q l5 l1)) (fun r9 => ?_)
      refine r_if_eq (t := 82) gX12_friend_59.2.2.2.2.2.2.2.2.2.1 rfl (fun h10 => ?_) (fun h10 => ?_)
      · exact r_sub (L' := [(0, .ref 60), (1, .int l1), (2, .int l2), (3, .int l3), (4, .int l4), (5, .int l5)]) (sub_c rfl (sub_c rfl (sub_c rfl (sub_c rfl (sub_c rfl (sub_c rfl sub_n)))))) (rb_X12_friend_82 hE hrec_50 q l1 l2 l3 l4 l5)
      · refine r_iinc (x := l4) (v := (l4 + (1 : Int32))) (L2 := [(0, .ref 60), (1, .int l1), (2, .int l2), (3, .int l3), (4, .int (l4 + (1 : Int32))), (5, .int l5)]) gX12_friend_59.2.2.2.2.2.2.2.2.2.2.1 rfl rfl rfl rfl ?_
        exact r_sub (L' := [(0, .ref 60), (1, .int l1), (2, .int l2), (3, .int l3), (4, .int (l4 + (1 : Int32))), (5, .int l5)]) (sub_c rfl (sub_c rfl (sub_c rfl (sub_c rfl (sub_c rfl (sub_c rfl sub_n)))))) (rb_X12_friend_82 hE hrec_50 q l1 l2 l3 (l4 + (1 : Int32)) l5)
    · exact r_sub (L' := [(0, .ref 60), (1, .int l1), (2, .int l2), (3, .int l3), (4, .int l4), (5, .int l5)]) (sub_c rfl (sub_c rfl (sub_c rfl (sub_c rfl (sub_c rfl (sub_c rfl sub_n)))))) (rb_X12_friend_82 hE hrec_50 q l1 l2 l3 l4 l5)
def f_X12_friend (q : SS) (a1 : Int32) (a2 : Int32) : Option (Int32 × SS) :=
  (f_X12_isOne q a1).bind fun r1 =>
  if r1 = 0 then
  (some ((-1 : Int32), q))
  else
  ((f_X12_in q a2 (0 : Int32) (12 : Int32)).bind fun r2 =>
  if r2 = 0 then
  (some ((-1 : Int32), q))
  else
  ((f_X12_layNow q).bind fun r3 =>
  (f_X12_allReal r3).bind fun r4 =>
  if r4 = 0 then
  (if a2 = 0 then
  (some ((0 : Int32), r3))
  else
  (some ((-2 : Int32), r3)))
  else
  (b_X12_friend_50 r3 a1 a2 r4 (0 : Int32) (0 : Int32))))
theorem e_X12_friend {E : EE} (hE : GE E) (q : SS) (a1 : Int32) (a2 : Int32) : R E (κI E) 2 255 0 [(0, .ref 60), (1, .int a1), (2, .int a2)] [] q (f_X12_friend q a1 a2) := by
  unfold f_X12_friend
  refine r_aload_n (x := 60) gX12_friend_0.1 rfl ?_
  refine r_iload_n (x := a1) gX12_friend_0.2.1 rfl ?_
  refine r_calli (k := 0) (idx := 125) (y := 191) (as := [.ref 60, .int a1]) (rest := []) (L0 := [(0, .ref 60), (1, .int a1)]) gX12_friend_0.2.2.1 rfl rfl rfl rfl rfl (vok_v (ob_60 hE) rfl) rfl (r_dep (by decide) (e_X12_isOne hE q a1)) (fun r1 => ?_)
  refine r_if_eq (t := 18) gX12_friend_0.2.2.2.1 rfl (fun h15 => ?_) (fun h15 => ?_)
  · refine r_iconst (v := (-1 : Int32)) gX12_friend_0.2.2.2.2.2.2.2.2.2.1 rfl ?_
    exact r_ireturn gX12_friend_0.2.2.2.2.2.2.2.2.2.2.1 rfl rfl
  · refine r_iload_n (x := a2) gX12_friend_0.2.2.2.2.1 rfl ?_
    refine r_iconst (v := (0 : Int32)) gX12_friend_0.2.2.2.2.2.1 rfl ?_
    refine r_bipush (v := (12 : Int32)) gX12_friend_0.2.2.2.2.2.2.1 rfl ?_
    refine r_calli (k := 2) (idx := 118) (y := 189) (as := [.int a2, .int (0 : Int32), .int (12 : Int32)]) (rest := []) (L0 := [(0, .int a2), (1, .int (0 : Int32)), (2, .int (12 : Int32))]) gX12_friend_0.2.2.2.2.2.2.2.1 rfl rfl rfl rfl rfl vok_s rfl (r_dep (by decide) (e_X12_in hE q a2 (0 : Int32) (12 : Int32))) (fun r2 => ?_)
    refine r_if_ne (t := 20) gX12_friend_0.2.2.2.2.2.2.2.2.1 rfl (fun h14 => ?_) (fun h14 => ?_)
    · refine r_iconst (v := (-1 : Int32)) gX12_friend_0.2.2.2.2.2.2.2.2.2.1 rfl ?_
      exact r_ireturn gX12_friend_0.2.2.2.2.2.2.2.2.2.2.1 rfl rfl
    · refine r_aload_n (x := 60) gX12_friend_0.2.2.2.2.2.2.2.2.2.2.2.1 rfl ?_
      refine r_callV (k := 0) (idx := 168) (y := 226) (as := [.ref 60]) (rest := []) (L0 := [(0, .ref 60)]) gX12_friend_0.2.2.2.2.2.2.2.2.2.2.2.2.1 rfl rfl rfl rfl rfl (vok_v (ob_60 hE) rfl) rfl (r_dep (by decide) (e_X12_layNow hE q)) (fun r3 => ?_)
      refine r_aload_n (x := 60) gX12_friend_0.2.2.2.2.2.2.2.2.2.2.2.2.2.1 rfl ?_
      refine r_calli (k := 0) (idx := 292) (y := 229) (as := [.ref 60]) (rest := []) (L0 := [(0, .ref 60)]) gX12_friend_0.2.2.2.2.2.2.2.2.2.2.2.2.2.2.1 rfl rfl rfl rfl rfl (vok_v (ob_60 hE) rfl) rfl (r_dep (by decide) (e_X12_allReal hE r3)) (fun r4 => ?_)
      refine r_istore_n (L2 := [(0, .ref 60), (1, .int a1), (2, .int a2), (3, .int r4)]) gX12_friend_0.2.2.2.2.2.2.2.2.2.2.2.2.2.2.2.1 rfl rfl ?_
      refine r_iload_n (x := r4) gX12_friend_29.1 rfl ?_
      refine r_if_ne (t := 44) gX12_friend_29.2.1 rfl (fun h13 => ?_) (fun h13 => ?_)
      · refine r_iload_n (x := a2) gX12_friend_29.2.2.1 rfl ?_
        refine r_if_ne (t := 41) gX12_friend_29.2.2.2.1 rfl (fun h5 => ?_) (fun h5 => ?_)
        · refine r_iconst (v := (0 : Int32)) gX12_friend_29.2.2.2.2.1 rfl ?_
          refine r_goto (t := 43) gX12_friend_29.2.2.2.2.2.1 rfl ?_
          exact r_ireturn gX12_friend_29.2.2.2.2.2.2.2.1 rfl rfl
        · refine r_bipush (v := (-2 : Int32)) gX12_friend_29.2.2.2.2.2.2.1 rfl ?_
          exact r_ireturn gX12_friend_29.2.2.2.2.2.2.2.1 rfl rfl
      · refine r_iconst (v := (0 : Int32)) gX12_friend_29.2.2.2.2.2.2.2.2.1 rfl ?_
        refine r_istore (L2 := [(0, .ref 60), (1, .int a1), (2, .int a2), (3, .int r4), (4, .int (0 : Int32))]) gX12_friend_29.2.2.2.2.2.2.2.2.2.1 rfl rfl ?_
        refine r_iconst (v := (0 : Int32)) gX12_friend_29.2.2.2.2.2.2.2.2.2.2.1 rfl ?_
        refine r_istore (L2 := [(0, .ref 60), (1, .int a1), (2, .int a2), (3, .int r4), (4, .int (0 : Int32)), (5, .int (0 : Int32))]) gX12_friend_29.2.2.2.2.2.2.2.2.2.2.2.1 rfl rfl ?_
        exact r_sub (L' := [(0, .ref 60), (1, .int a1), (2, .int a2), (3, .int r4), (4, .int (0 : Int32)), (5, .int (0 : Int32))]) (sub_c rfl (sub_c rfl (sub_c rfl (sub_c rfl (sub_c rfl (sub_c rfl sub_n)))))) (rb_X12_friend_50 hE r3 a1 a2 r4 (0 : Int32) (0 : Int32))
def b_X8_looseOf_38 (rec_4 : Int32 → Int32 → Int32 → Option Int32) (q : SS) (l1 : Int32) (l3 : Int32) (s0 : Int32) (s1 : Int32) : Option Int32 :=
  nm (s1 + s0) fun v4 =>
  rec_4 l1 v4 (l3 + (1 : Int32))
theorem rb_X8_looseOf_38 {E : EE} (hE : GE E) {q : SS} {rec_4 : Int32 → Int32 → Int32 → Option Int32} (hrec_4 : ∀ (yl1 : Int32) (yl2 : Int32) (yl3 : Int32), R E (κi E q) 3 103 4 [(0, .ref 24), (1, .int yl1), (2, .int yl2), (3, .int yl3)] [] q (rec_4 yl1 yl2 yl3)) (l1 : Int32) (l3 : Int32) (s0 : Int32) (s1 : Int32) : R E (κi E q) 3 103 38 [(0, .ref 24), (1, .int l1), (3, .int l3)] [.int s0, .int s1] q (b_X8_looseOf_38 rec_4 q l1 l3 s0 s1) := by
  unfold b_X8_looseOf_38
  refine r_iadd gX8_looseOf_26.2.2.2.2.2.2.1 ?_
  refine r_nmI fun v4 _ => ?_
  refine r_istore_n (L2 := [(0, .ref 24), (1, .int l1), (2, .int v4), (3, .int l3)]) gX8_looseOf_26.2.2.2.2.2.2.2.1 rfl rfl ?_
  refine r_iinc (x := l3) (v := (l3 + (1 : Int32))) (L2 := [(0, .ref 24), (1, .int l1), (2, .int v4), (3, .int (l3 + (1 : Int32)))]) gX8_looseOf_26.2.2.2.2.2.2.2.2.1 rfl rfl rfl rfl ?_
  refine r_goto (t := 4) gX8_looseOf_26.2.2.2.2.2.2.2.2.2.1 rfl ?_
  exact r_sub (L' := [(0, .ref 24), (1, .int l1), (2, .int v4), (3, .int (l3 + (1 : Int32)))]) (sub_c rfl (sub_c rfl (sub_c rfl (sub_c rfl sub_n)))) (hrec_4 l1 v4 (l3 + (1 : Int32)))
def b_X8_looseOf_37 (rec_4 : Int32 → Int32 → Int32 → Option Int32) (q : SS) (l1 : Int32) (l3 : Int32) (s0 : Int32) : Option Int32 :=
  b_X8_looseOf_38 rec_4 q l1 l3 (0 : Int32) s0
theorem rb_X8_looseOf_37 {E : EE} (hE : GE E) {q : SS} {rec_4 : Int32 → Int32 → Int32 → Option Int32} (hrec_4 : ∀ (yl1 : Int32) (yl2 : Int32) (yl3 : Int32), R E (κi E q) 3 103 4 [(0, .ref 24), (1, .int yl1), (2, .int yl2), (3, .int yl3)] [] q (rec_4 yl1 yl2 yl3)) (l1 : Int32) (l3 : Int32) (s0 : Int32) : R E (κi E q) 3 103 37 [(0, .ref 24), (1, .int l1), (3, .int l3)] [.int s0] q (b_X8_looseOf_37 rec_4 q l1 l3 s0) := by
  unfold b_X8_looseOf_37
  refine r_iconst (v := (0 : Int32)) gX8_looseOf_26.2.2.2.2.2.1 rfl ?_
  exact r_sub (L' := [(0, .ref 24), (1, .int l1), (3, .int l3)]) (sub_c rfl (sub_c rfl (sub_c rfl sub_n))) (rb_X8_looseOf_38 hE hrec_4 l1 l3 (0 : Int32) s0)
def b_X8_looseOf_4 (q : SS) : Int32 → Int32 → Int32 → Option Int32 :=
  fx3 (fun (rec_4 : Int32 → Int32 → Int32 → Option Int32) (l1 : Int32) (l2 : Int32) (l3 : Int32) =>
  (f_X10_tickets q).bind fun r1 =>
  if r1 ≤ l3 then
  (some l2)
  else
  ((f_X8_holderOf q l3).bind fun r2 =>
  if r2 = l1 then
  ((f_X8_isLoose q l3).bind fun r3 =>
  if r3 = 0 then
  (b_X8_looseOf_37 rec_4 q l1 l3 l2)
  else
  (b_X8_looseOf_38 rec_4 q l1 l3 (1 : Int32) l2))
  else
  (b_X8_looseOf_37 rec_4 q l1 l3 l2))) FU
theorem rb_X8_looseOf_4 {E : EE} (hE : GE E) (q : SS) (l1 : Int32) (l2 : Int32) (l3 : Int32) : R E (κi E q) 3 103 4 [(0, .ref 24), (1, .int l1), (2, .int l2), (3, .int l3)] [] q (b_X8_looseOf_4 q l1 l2 l3) := by
  unfold b_X8_looseOf_4
  refine fx3_ok (P := fun l1 l2 l3 o => R E (κi E q) 3 103 4 [(0, .ref 24), (1, .int l1), (2, .int l2), (3, .int l3)] [] q o) (fun _ _ _ => r_no) (fun rec_4 hrec_4 l1 l2 l3 => ?_) _ _ _ _
  refine r_iload_n (x := l3) gX8_looseOf_0.2.2.2.2.1 rfl ?_
  refine r_aload_n (x := 24) gX8_looseOf_0.2.2.2.2.2.1 rfl ?_
  refine r_getA gX8_looseOf_0.2.2.2.2.2.2.1 (fa_8_9_24 hE) ?_
  refine r_calli (k := 0) (idx := 33) (y := 126) (as := [.ref 1]) (rest := [.int l3]) (L0 := [(0, .ref 1)]) gX8_looseOf_0.2.2.2.2.2.2.2.1 rfl rfl rfl rfl rfl (vok_v (ob_1 hE) rfl) rfl (r_dep (by decide) (e_X10_tickets hE q)) (fun r1 => ?_)
  refine r_icmp_ge (t := 46) gX8_looseOf_0.2.2.2.2.2.2.2.2.1 rfl (fun h7 => ?_) (fun h7 => ?_)
  · refine r_iload_n (x := l2) gX8_looseOf_26.2.2.2.2.2.2.2.2.2.2.1 rfl ?_
    exact r_ireturn gX8_looseOf_26.2.2.2.2.2.2.2.2.2.2.2.1 rfl rfl
  · refine r_iload_n (x := l2) gX8_looseOf_0.2.2.2.2.2.2.2.2.2.1 rfl ?_
    refine r_aload_n (x := 24) gX8_looseOf_0.2.2.2.2.2.2.2.2.2.2.1 rfl ?_
    refine r_iload_n (x := l3) gX8_looseOf_0.2.2.2.2.2.2.2.2.2.2.2.1 rfl ?_
    refine r_calli (k := 0) (idx := 37) (y := 98) (as := [.ref 24, .int l3]) (rest := [.int l2]) (L0 := [(0, .ref 24), (1, .int l3)]) gX8_looseOf_0.2.2.2.2.2.2.2.2.2.2.2.2.1 rfl rfl rfl rfl rfl (vok_v (ob_24 hE) rfl) rfl (r_dep (by decide) (e_X8_holderOf hE q l3)) (fun r2 => ?_)
    refine r_iload_n (x := l1) gX8_looseOf_0.2.2.2.2.2.2.2.2.2.2.2.2.2.1 rfl ?_
    refine r_icmp_ne (t := 37) gX8_looseOf_0.2.2.2.2.2.2.2.2.2.2.2.2.2.2.1 rfl (fun h6 => ?_) (fun h6 => ?_)
    · refine r_aload_n (x := 24) gX8_looseOf_0.2.2.2.2.2.2.2.2.2.2.2.2.2.2.2.1 rfl ?_
      refine r_iload_n (x := l3) gX8_looseOf_26.1 rfl ?_
      refine r_calli (k := 0) (idx := 44) (y := 106) (as := [.ref 24, .int l3]) (rest := [.int l2]) (L0 := [(0, .ref 24), (1, .int l3)]) gX8_looseOf_26.2.1 rfl rfl rfl rfl rfl (vok_v (ob_24 hE) rfl) rfl (r_dep (by decide) (e_X8_isLoose hE q l3)) (fun r3 => ?_)
      refine r_if_eq (t := 37) gX8_looseOf_26.2.2.1 rfl (fun h5 => ?_) (fun h5 => ?_)
      · exact r_sub (L' := [(0, .ref 24), (1, .int l1), (3, .int l3)]) (sub_c rfl (sub_c rfl (sub_c rfl sub_n))) (rb_X8_looseOf_37 hE hrec_4 l1 l3 l2)
      · refine r_iconst (v := (1 : Int32)) gX8_looseOf_26.2.2.2.1 rfl ?_
        refine r_goto (t := 38) gX8_looseOf_26.2.2.2.2.1 rfl ?_
        exact r_sub (L' := [(0, .ref 24), (1, .int l1), (3, .int l3)]) (sub_c rfl (sub_c rfl (sub_c rfl sub_n))) (rb_X8_looseOf_38 hE hrec_4 l1 l3 (1 : Int32) l2)
    · exact r_sub (L' := [(0, .ref 24), (1, .int l1), (3, .int l3)]) (sub_c rfl (sub_c rfl (sub_c rfl sub_n))) (rb_X8_looseOf_37 hE hrec_4 l1 l3 l2)
def f_X8_looseOf (q : SS) (a1 : Int32) : Option Int32 :=
  b_X8_looseOf_4 q a1 (0 : Int32) (0 : Int32)
theorem e_X8_looseOf {E : EE} (hE : GE E) (q : SS) (a1 : Int32) : R E (κi E q) 3 103 0 [(0, .ref 24), (1, .int a1)] [] q (f_X8_looseOf q a1) := by
  unfold f_X8_looseOf
  refine r_iconst (v := (0 : Int32)) gX8_looseOf_0.1 rfl ?_
  refine r_istore_n (L2 := [(0, .ref 24), (1, .int a1), (2, .int (0 : Int32))]) gX8_looseOf_0.2.1 rfl rfl ?_
  refine r_iconst (v := (0 : Int32)) gX8_looseOf_0.2.2.1 rfl ?_
  refine r_istore_n (L2 := [(0, .ref 24), (1, .int a1), (2, .int (0 : Int32)), (3, .int (0 : Int32))]) gX8_looseOf_0.2.2.2.1 rfl rfl ?_
  exact r_sub (L' := [(0, .ref 24), (1, .int a1), (2, .int (0 : Int32)), (3, .int (0 : Int32))]) (sub_c rfl (sub_c rfl (sub_c rfl (sub_c rfl sub_n)))) (rb_X8_looseOf_4 hE q a1 (0 : Int32) (0 : Int32))
def b_X11_takesFor_35 (q : SS) (l2 : Int32) (s0 : Int32) : Option Int32 :=
  if s0 = 0 then
  (some (0 : Int32))
  else
  ((f_X10_get q (3 : Int32) l2).bind fun r1 =>
  some r1)
theorem rb_X11_takesFor_35 {E : EE} (hE : GE E) (q : SS) (l2 : Int32) (s0 : Int32) : R E (κi E q) 2 162 35 [(0, .ref 0), (2, .int l2)] [.int s0] q (b_X11_takesFor_35 q l2 s0) := by
  unfold b_X11_takesFor_35
  refine r_istore (L2 := [(0, .ref 0), (2, .int l2), (4, .int s0)]) gX11_takesFor_30.2.2.2.1 rfl rfl ?_
  refine r_iload (x := s0) gX11_takesFor_30.2.2.2.2.1 rfl ?_
  refine r_if_eq (t := 54) gX11_takesFor_30.2.2.2.2.2.1 rfl (fun h2 => ?_) (fun h2 => ?_)
  · refine r_iconst (v := (0 : Int32)) gX11_takesFor_30.2.2.2.2.2.2.2.2.2.2.2.2.1 rfl ?_
    exact r_ireturn gX11_takesFor_30.2.2.2.2.2.2.2.2.2.2.2.2.2.1 rfl rfl
  · refine r_aload_n (x := 0) gX11_takesFor_30.2.2.2.2.2.2.1 rfl ?_
    refine r_getA gX11_takesFor_30.2.2.2.2.2.2.2.1 (fa_11_10_0 hE) ?_
    refine r_iconst (v := (3 : Int32)) gX11_takesFor_30.2.2.2.2.2.2.2.2.1 rfl ?_
    refine r_iload_n (x := l2) gX11_takesFor_30.2.2.2.2.2.2.2.2.2.1 rfl ?_
    refine r_calli (k := 0) (idx := 129) (y := 134) (as := [.ref 1, .int (3 : Int32), .int l2]) (rest := []) (L0 := [(0, .ref 1), (1, .int (3 : Int32)), (2, .int l2)]) gX11_takesFor_30.2.2.2.2.2.2.2.2.2.2.1 rfl rfl rfl rfl rfl (vok_v (ob_1 hE) rfl) rfl (r_dep (by decide) (e_X10_get hE q (3 : Int32) l2)) (fun r1 => ?_)
    refine r_goto (t := 55) gX11_takesFor_30.2.2.2.2.2.2.2.2.2.2.2.1 rfl ?_
    exact r_ireturn gX11_takesFor_30.2.2.2.2.2.2.2.2.2.2.2.2.2.1 rfl rfl
def b_X11_takesFor_34 (q : SS) (l2 : Int32) : Option Int32 :=
  b_X11_takesFor_35 q l2 (0 : Int32)
theorem rb_X11_takesFor_34 {E : EE} (hE : GE E) (q : SS) (l2 : Int32) : R E (κi E q) 2 162 34 [(0, .ref 0), (2, .int l2)] [] q (b_X11_takesFor_34 q l2) := by
  unfold b_X11_takesFor_34
  refine r_iconst (v := (0 : Int32)) gX11_takesFor_30.2.2.1 rfl ?_
  exact r_sub (L' := [(0, .ref 0), (2, .int l2)]) (sub_c rfl (sub_c rfl sub_n)) (rb_X11_takesFor_35 hE q l2 (0 : Int32))
def f_X11_takesFor (q : SS) (a1 : Int32) (a2 : Int32) (a3 : Int32) : Option Int32 :=
  if a2 = a1 then
  (b_X11_takesFor_34 q a2)
  else
  ((f_X10_get q (1 : Int32) a2).bind fun r3 =>
  if r3 = 0 then
  ((f_X10_get q (2 : Int32) a2).bind fun r4 =>
  if r4 = a3 then
  (b_X11_takesFor_35 q a2 (1 : Int32))
  else
  (b_X11_takesFor_34 q a2))
  else
  (b_X11_takesFor_34 q a2))
theorem e_X11_takesFor {E : EE} (hE : GE E) (q : SS) (a1 : Int32) (a2 : Int32) (a3 : Int32) : R E (κi E q) 2 162 0 [(0, .ref 0), (1, .int a1), (2, .int a2), (3, .int a3)] [] q (f_X11_takesFor q a1 a2 a3) := by
  unfold f_X11_takesFor
  refine r_iload_n (x := a2) gX11_takesFor_0.1 rfl ?_
  refine r_iload_n (x := a1) gX11_takesFor_0.2.1 rfl ?_
  refine r_icmp_eq (t := 34) gX11_takesFor_0.2.2.1 rfl (fun h7 => ?_) (fun h7 => ?_)
  · exact r_sub (L' := [(0, .ref 0), (2, .int a2)]) (sub_c rfl (sub_c rfl sub_n)) (rb_X11_takesFor_34 hE q a2)
  · refine r_aload_n (x := 0) gX11_takesFor_0.2.2.2.1 rfl ?_
    refine r_getA gX11_takesFor_0.2.2.2.2.1 (fa_11_10_0 hE) ?_
    refine r_iconst (v := (1 : Int32)) gX11_takesFor_0.2.2.2.2.2.1 rfl ?_
    refine r_iload_n (x := a2) gX11_takesFor_0.2.2.2.2.2.2.1 rfl ?_
    refine r_calli (k := 0) (idx := 129) (y := 134) (as := [.ref 1, .int (1 : Int32), .int a2]) (rest := []) (L0 := [(0, .ref 1), (1, .int (1 : Int32)), (2, .int a2)]) gX11_takesFor_0.2.2.2.2.2.2.2.1 rfl rfl rfl rfl rfl (vok_v (ob_1 hE) rfl) rfl (r_dep (by decide) (e_X10_get hE q (1 : Int32) a2)) (fun r3 => ?_)
    refine r_if_ne (t := 34) gX11_takesFor_0.2.2.2.2.2.2.2.2.1 rfl (fun h6 => ?_) (fun h6 => ?_)
    · refine r_aload_n (x := 0) gX11_takesFor_0.2.2.2.2.2.2.2.2.2.1 rfl ?_
      refine r_getA gX11_takesFor_0.2.2.2.2.2.2.2.2.2.2.1 (fa_11_10_0 hE) ?_
      refine r_iconst (v := (2 : Int32)) gX11_takesFor_0.2.2.2.2.2.2.2.2.2.2.2.1 rfl ?_
      refine r_iload_n (x := a2) gX11_takesFor_0.2.2.2.2.2.2.2.2.2.2.2.2.1 rfl ?_
      refine r_calli (k := 0) (idx := 129) (y := 134) (as := [.ref 1, .int (2 : Int32), .int a2]) (rest := []) (L0 := [(0, .ref 1), (1, .int (2 : Int32)), (2, .int a2)]) gX11_takesFor_0.2.2.2.2.2.2.2.2.2.2.2.2.2.1 rfl rfl rfl rfl rfl (vok_v (ob_1 hE) rfl) rfl (r_dep (by decide) (e_X10_get hE q (2 : Int32) a2)) (fun r4 => ?_)
      refine r_iload_n (x := a3) gX11_takesFor_0.2.2.2.2.2.2.2.2.2.2.2.2.2.2.1 rfl ?_
      refine r_icmp_ne (t := 34) gX11_takesFor_0.2.2.2.2.2.2.2.2.2.2.2.2.2.2.2.1 rfl (fun h5 => ?_) (fun h5 => ?_)
      · refine r_iconst (v := (1 : Int32)) gX11_takesFor_30.1 rfl ?_
        refine r_goto (t := 35) gX11_takesFor_30.2.1 rfl ?_
        exact r_sub (L' := [(0, .ref 0), (2, .int a2)]) (sub_c rfl (sub_c rfl sub_n)) (rb_X11_takesFor_35 hE q a2 (1 : Int32))
      · exact r_sub (L' := [(0, .ref 0), (2, .int a2)]) (sub_c rfl (sub_c rfl sub_n)) (rb_X11_takesFor_34 hE q a2)
    · exact r_sub (L' := [(0, .ref 0), (2, .int a2)]) (sub_c rfl (sub_c rfl sub_n)) (rb_X11_takesFor_34 hE q a2)
def b_X11_hire_146 (q : SS) (l3 : Int32) (l4 : Int32) (l5 : Int32) (l6 : Int32) : Option (Int32 × SS) :=
  if l4 ≤ 0 then
  (if l3 = 0 then
  (some (l5, q))
  else
  (some (l6, q)))
  else
  (some ((-2 : Int32), q))
theorem rb_X11_hire_146 {E : EE} (hE : GE E) (q : SS) (l3 : Int32) (l4 : Int32) (l5 : Int32) (l6 : Int32) : R E (κI E) 4 161 146 [(3, .int l3), (4, .int l4), (5, .int l5), (6, .int l6)] [] q (b_X11_hire_146 q l3 l4 l5 l6) := by
  unfold b_X11_hire_146
  refine r_iload (x := l4) gX11_hire_126.2.2.2.2.2.2.2.2.2.1 rfl ?_
  refine r_if_le (t := 154) gX11_hire_126.2.2.2.2.2.2.2.2.2.2.1 rfl (fun h5 => ?_) (fun h5 => ?_)
  · refine r_iload_n (x := l3) gX11_hire_126.2.2.2.2.2.2.2.2.2.2.2.2.2.1 rfl ?_
    refine r_if_ne (t := 163) gX11_hire_126.2.2.2.2.2.2.2.2.2.2.2.2.2.2.1 rfl (fun h4 => ?_) (fun h4 => ?_)
    · refine r_iload (x := l5) gX11_hire_126.2.2.2.2.2.2.2.2.2.2.2.2.2.2.2.1 rfl ?_
      refine r_goto (t := 165) gX11_hire_160.1 rfl ?_
      exact r_ireturn gX11_hire_160.2.2.1 rfl rfl
    · refine r_iload (x := l6) gX11_hire_160.2.1 rfl ?_
      exact r_ireturn gX11_hire_160.2.2.1 rfl rfl
  · refine r_bipush (v := (-2 : Int32)) gX11_hire_126.2.2.2.2.2.2.2.2.2.2.2.1 rfl ?_
    exact r_ireturn gX11_hire_126.2.2.2.2.2.2.2.2.2.2.2.2.1 rfl rfl
def b_X11_hire_140 (rec_60 : SS → Int32 → Int32 → Int32 → Int32 → Int32 → Int32 → Option (Int32 × SS)) (q : SS) (l1 : Int32) (l3 : Int32) (l4 : Int32) (l5 : Int32) (l6 : Int32) (l7 : Int32) : Option (Int32 × SS) :=
  rec_60 q l1 l3 l4 l5 l6 (l7 + (1 : Int32))
theorem rb_X11_hire_140 {E : EE} (hE : GE E) {rec_60 : SS → Int32 → Int32 → Int32 → Int32 → Int32 → Int32 → Option (Int32 × SS)} (hrec_60 : ∀ (yq : SS) (yl1 : Int32) (yl3 : Int32) (yl4 : Int32) (yl5 : Int32) (yl6 : Int32) (yl7 : Int32), R E (κI E) 4 161 60 [(0, .ref 0), (1, .int yl1), (3, .int yl3), (4, .int yl4), (5, .int yl5), (6, .int yl6), (7, .int yl7)] [] yq (rec_60 yq yl1 yl3 yl4 yl5 yl6 yl7)) (q : SS) (l1 : Int32) (l3 : Int32) (l4 : Int32) (l5 : Int32) (l6 : Int32) (l7 : Int32) : R E (κI E) 4 161 140 [(0, .ref 0), (1, .int l1), (3, .int l3), (4, .int l4), (5, .int l5), (6, .int l6), (7, .int l7)] [] q (b_X11_hire_140 rec_60 q l1 l3 l4 l5 l6 l7) := by
  unfold b_X11_hire_140
  refine r_iinc (x := l7) (v := (l7 + (1 : Int32))) (L2 := [(0, .ref 0), (1, .int l1), (3, .int l3), (4, .int l4), (5, .int l5), (6, .int l6), (7, .int (l7 + (1 : Int32)))]) gX11_hire_126.2.2.2.2.2.2.2.1 rfl rfl rfl rfl ?_
  refine r_goto (t := 60) gX11_hire_126.2.2.2.2.2.2.2.2.1 rfl ?_
  exact r_sub (L' := [(0, .ref 0), (1, .int l1), (3, .int l3), (4, .int l4), (5, .int l5), (6, .int l6), (7, .int (l7 + (1 : Int32)))]) (sub_c rfl (sub_c rfl (sub_c rfl (sub_c rfl (sub_c rfl (sub_c rfl (sub_c rfl sub_n))))))) (hrec_60 q l1 l3 l4 l5 l6 (l7 + (1 : Int32)))
def b_X11_hire_134 (rec_60 : SS → Int32 → Int32 → Int32 → Int32 → Int32 → Int32 → Option (Int32 × SS)) (rec_75 : SS → Int32 → Int32 → Int32 → Int32 → Int32 → Int32 → Int32 → Option (Int32 × SS)) (q : SS) (l1 : Int32) (l3 : Int32) (l4 : Int32) (l5 : Int32) (l6 : Int32) (l7 : Int32) (l8 : Int32) : Option (Int32 × SS) :=
  rec_75 q l1 l3 l4 l5 l6 l7 (l8 + (1 : Int32))
theorem rb_X11_hire_134 {E : EE} (hE : GE E) {rec_60 : SS → Int32 → Int32 → Int32 → Int32 → Int32 → Int32 → Option (Int32 × SS)} (hrec_60 : ∀ (yq : SS) (yl1 : Int32) (yl3 : Int32) (yl4 : Int32) (yl5 : Int32) (yl6 : Int32) (yl7 : Int32), R E (κI E) 4 161 60 [(0, .ref 0), (1, .int yl1), (3, .int yl3), (4, .int yl4), (5, .int yl5), (6, .int yl6), (7, .int yl7)] [] yq (rec_60 yq yl1 yl3 yl4 yl5 yl6 yl7)) {rec_75 : SS → Int32 → Int32 → Int32 → Int32 → Int32 → Int32 → Int32 → Option (Int32 × SS)} (hrec_75 : ∀ (yq : SS) (yl1 : Int32) (yl3 : Int32) (yl4 : Int32) (yl5 : Int32) (yl6 : Int32) (yl7 : Int32) (yl8 : Int32), R E (κI E) 4 161 75 [(0, .ref 0), (1, .int yl1), (3, .int yl3), (4, .int yl4), (5, .int yl5), (6, .int yl6), (7, .int yl7), (8, .int yl8)] [] yq (rec_75 yq yl1 yl3 yl4 yl5 yl6 yl7 yl8)) (q : SS) (l1 : Int32) (l3 : Int32) (l4 : Int32) (l5 : Int32) (l6 : Int32) (l7 : Int32) (l8 : Int32) : R E (κI E) 4 161 134 [(0, .ref 0), (1, .int l1), (3, .int l3), (4, .int l4), (5, .int l5), (6, .int l6), (7, .int l7), (8, .int l8)] [] q (b_X11_hire_134 rec_60 rec_75 q l1 l3 l4 l5 l6 l7 l8) := by
  unfold b_X11_hire_134
  refine r_iinc (x := l8) (v := (l8 + (1 : Int32))) (L2 := [(0, .ref 0), (1, .int l1), (3, .int l3), (4, .int l4), (5, .int l5), (6, .int l6), (7, .int l7), (8, .int (l8 + (1 : Int32)))]) gX11_hire_126.2.2.2.2.2.1 rfl rfl rfl rfl ?_
  refine r_goto (t := 75) gX11_hire_126.2.2.2.2.2.2.1 rfl ?_
  exact r_sub (L' := [(0, .ref 0), (1, .int l1), (3, .int l3), (4, .int l4), (5, .int l5), (6, .int l6), (7, .int l7), (8, .int (l8 + (1 : Int32)))]) (sub_c rfl (sub_c rfl (sub_c rfl (sub_c rfl (sub_c rfl (sub_c rfl (sub_c rfl (sub_c rfl sub_n)))))))) (hrec_75 q l1 l3 l4 l5 l6 l7 (l8 + (1 : Int32)))
def b_X11_hire_75 (rec_60 : SS → Int32 → Int32 → Int32 → Int32 → Int32 → Int32 → Option (Int32 × SS)) : SS → Int32 → Int32 → Int32 → Int32 → Int32 → Int32 → Int32 → Option (Int32 × SS) :=
  fx8 (fun (rec_75 : SS → Int32 → Int32 → Int32 → Int32 → Int32 → Int32 → Int32 → Option (Int32 × SS)) (q : SS) (l1 : Int32) (l3 : Int32) (l4 : Int32) (l5 : Int32) (l6 : Int32) (l7 : Int32) (l8 : Int32) =>
  (f_X10_people q).bind fun r6 =>
  if r6 ≤ l8 then
  (b_X11_hire_140 rec_60 q l1 l3 l4 l5 l6 l7)
  else
  (if l4 ≤ 0 then
  (b_X11_hire_140 rec_60 q l1 l3 l4 l5 l6 l7)
  else
  ((f_X11_takesFor q l1 l8 l7).bind fun r7 =>
  nm (jmin l4 r7) fun v8 =>
  if v8 ≤ 0 then
  (b_X11_hire_134 rec_60 rec_75 q l1 l3 l4 l5 l6 l7 l8)
  else
  (nm (l4 - v8) fun v9 =>
  nm (l5 + (v8 * l7)) fun v10 =>
  b_X11_hire_134 rec_60 rec_75 q l1 l3 v9 v10 l8 l7 l8)))) FU
theorem rb_X11_hire_75 {E : EE} (hE : GE E) {rec_60 : SS → Int32 → Int32 → Int32 → Int32 → Int32 → Int32 → Option (Int32 × SS)} (hrec_60 : ∀ (yq : SS) (yl1 : Int32) (yl3 : Int32) (yl4 : Int32) (yl5 : Int32) (yl6 : Int32) (yl7 : Int32), R E (κI E) 4 161 60 [(0, .ref 0), (1, .int yl1), (3, .int yl3), (4, .int yl4), (5, .int yl5), (6, .int yl6), (7, .int yl7)] [] yq (rec_60 yq yl1 yl3 yl4 yl5 yl6 yl7)) (q : SS) (l1 : Int32) (l3 : Int32) (l4 : Int32) (l5 : Int32) (l6 : Int32) (l7 : Int32) (l8 : Int32) : R E (κI E) 4 161 75 [(0, .ref 0), (1, .int l1), (3, .int l3), (4, .int l4), (5, .int l5), (6, .int l6), (7, .int l7), (8, .int l8)] [] q (b_X11_hire_75 rec_60 q l1 l3 l4 l5 l6 l7 l8) := by
  unfold b_X11_hire_75
  refine fx8_ok (P := fun q l1 l3 l4 l5 l6 l7 l8 o => R E (κI E) 4 161 75 [(0, .ref 0), (1, .int l1), (3, .int l3), (4, .int l4), (5, .int l5), (6, .int l6), (7, .int l7), (8, .int l8)] [] q o) (fun _ _ _ _ _ _ _ _ => r_no) (fun rec_75 hrec_75 q l1 l3 l4 l5 l6 l7 l8 => ?_) _ _ _ _ _ _ _ _ _
  refine r_iload (x := l8) gX11_hire_58.2.2.2.2.2.2.2.2.1 rfl ?_
  refine r_aload_n (x := 0) gX11_hire_58.2.2.2.2.2.2.2.2.2.1 rfl ?_
  refine r_getA gX11_hire_58.2.2.2.2.2.2.2.2.2.2.1 (fa_11_10_0 hE) ?_
  refine r_calli (k := 0) (idx := 226) (y := 125) (as := [.ref 1]) (rest := [.int l8]) (L0 := [(0, .ref 1)]) gX11_hire_58.2.2.2.2.2.2.2.2.2.2.2.1 rfl rfl rfl rfl rfl (vok_v (ob_1 hE) rfl) rfl (r_dep (by decide) (e_X10_people hE q)) (fun r6 => ?_)
  refine r_icmp_ge (t := 140) gX11_hire_58.2.2.2.2.2.2.2.2.2.2.2.2.1 rfl (fun h13 => ?_) (fun h13 => ?_)
  · exact r_sub (L' := [(0, .ref 0), (1, .int l1), (3, .int l3), (4, .int l4), (5, .int l5), (6, .int l6), (7, .int l7)]) (sub_c rfl (sub_c rfl (sub_c rfl (sub_c rfl (sub_c rfl (sub_c rfl (sub_c rfl sub_n))))))) (rb_X11_hire_140 hE hrec_60 q l1 l3 l4 l5 l6 l7)
  · refine r_iload (x := l4) gX11_hire_58.2.2.2.2.2.2.2.2.2.2.2.2.2.1 rfl ?_
    refine r_if_le (t := 140) gX11_hire_58.2.2.2.2.2.2.2.2.2.2.2.2.2.2.1 rfl (fun h12 => ?_) (fun h12 => ?_)
    · exact r_sub (L' := [(0, .ref 0), (1, .int l1), (3, .int l3), (4, .int l4), (5, .int l5), (6, .int l6), (7, .int l7)]) (sub_c rfl (sub_c rfl (sub_c rfl (sub_c rfl (sub_c rfl (sub_c rfl (sub_c rfl sub_n))))))) (rb_X11_hire_140 hE hrec_60 q l1 l3 l4 l5 l6 l7)
    · refine r_iload (x := l4) gX11_hire_58.2.2.2.2.2.2.2.2.2.2.2.2.2.2.2.1 rfl ?_
      refine r_aload_n (x := 0) gX11_hire_94.1 rfl ?_
      refine r_iload_n (x := l1) gX11_hire_94.2.1 rfl ?_
      refine r_iload (x := l8) gX11_hire_94.2.2.1 rfl ?_
      refine r_iload (x := l7) gX11_hire_94.2.2.2.1 rfl ?_
      refine r_calli (k := 0) (idx := 250) (y := 162) (as := [.ref 0, .int l1, .int l8, .int l7]) (rest := [.int l4]) (L0 := [(0, .ref 0), (1, .int l1), (2, .int l8), (3, .int l7)]) gX11_hire_94.2.2.2.2.1 rfl rfl rfl rfl rfl (vok_v (ob_0 hE) rfl) rfl (r_dep (by decide) (e_X11_takesFor hE q l1 l8 l7)) (fun r7 => ?_)
      refine r_mm (j := 1) (v := (jmin l4 r7)) gX11_hire_94.2.2.2.2.2.1 ⟨rfl, rfl, rfl, rfl⟩ rfl rfl ?_
      refine r_nmI fun v8 _ => ?_
      refine r_istore (L2 := [(0, .ref 0), (1, .int l1), (3, .int l3), (4, .int l4), (5, .int l5), (6, .int l6), (7, .int l7), (8, .int l8), (9, .int v8)]) gX11_hire_94.2.2.2.2.2.2.1 rfl rfl ?_
      refine r_iload (x := v8) gX11_hire_94.2.2.2.2.2.2.2.1 rfl ?_
      refine r_if_le (t := 134) gX11_hire_94.2.2.2.2.2.2.2.2.1 rfl (fun h11 => ?_) (fun h11 => ?_)
      · exact r_sub (L' := [(0, .ref 0), (1, .int l1), (3, .int l3), (4, .int l4), (5, .int l5), (6, .int l6), (7, .int l7), (8, .int l8)]) (sub_c rfl (sub_c rfl (sub_c rfl (sub_c rfl (sub_c rfl (sub_c rfl (sub_c rfl (sub_c rfl sub_n)))))))) (rb_X11_hire_134 hE hrec_60 hrec_75 q l1 l3 l4 l5 l6 l7 l8)
      · refine r_iload (x := l4) gX11_hire_94.2.2.2.2.2.2.2.2.2.1 rfl ?_
        refine r_iload (x := v8) gX11_hire_94.2.2.2.2.2.2.2.2.2.2.1 rfl ?_
        refine r_isub gX11_hire_94.2.2.2.2.2.2.2.2.2.2.2.1 ?_
        refine r_nmI fun v9 _ => ?_
        refine r_istore (L2 := [(0, .ref 0), (1, .int l1), (3, .int l3), (4, .int v9), (5, .int l5), (6, .int l6), (7, .int l7), (8, .int l8), (9, .int v8)]) gX11_hire_94.2.2.2.2.2.2.2.2.2.2.2.2.1 rfl rfl ?_
        refine r_iload (x := l5) gX11_hire_94.2.2.2.2.2.2.2.2.2.2.2.2.2.1 rfl ?_
        refine r_iload (x := v8) gX11_hire_94.2.2.2.2.2.2.2.2.2.2.2.2.2.2.1 rfl ?_
        refine r_iload (x := l7) gX11_hire_94.2.2.2.2.2.2.2.2.2.2.2.2.2.2.2.1 rfl ?_
        refine r_imul gX11_hire_126.1 ?_
        refine r_iadd gX11_hire_126.2.1 ?_
        refine r_nmI fun v10 _ => ?_
        refine r_istore (L2 := [(0, .ref 0), (1, .int l1), (3, .int l3), (4, .int v9), (5, .int v10), (6, .int l6), (7, .int l7), (8, .int l8), (9, .int v8)]) gX11_hire_126.2.2.1 rfl rfl ?_
        refine r_iload (x := l8) gX11_hire_126.2.2.2.1 rfl ?_
        refine r_istore (L2 := [(0, .ref 0), (1, .int l1), (3, .int l3), (4, .int v9), (5, .int v10), (6, .int l8), (7, .int l7), (8, .int l8), (9, .int v8)]) gX11_hire_126.2.2.2.2.1 rfl rfl ?_
        exact r_sub (L' := [(0, .ref 0), (1, .int l1), (3, .int l3), (4, .int v9), (5, .int v10), (6, .int l8), (7, .int l7), (8, .int l8)]) (sub_c rfl (sub_c rfl (sub_c rfl (sub_c rfl (sub_c rfl (sub_c rfl (sub_c rfl (sub_c rfl sub_n)))))))) (rb_X11_hire_134 hE hrec_60 hrec_75 q l1 l3 v9 v10 l8 l7 l8)
def b_X11_hire_60 : SS → Int32 → Int32 → Int32 → Int32 → Int32 → Int32 → Option (Int32 × SS) :=
  fx7 (fun (rec_60 : SS → Int32 → Int32 → Int32 → Int32 → Int32 → Int32 → Option (Int32 × SS)) (q : SS) (l1 : Int32) (l3 : Int32) (l4 : Int32) (l5 : Int32) (l6 : Int32) (l7 : Int32) =>
  if (99 : Int32) < l7 then
  (b_X11_hire_146 q l3 l4 l5 l6)
  else
  (if l4 ≤ 0 then
  (b_X11_hire_146 q l3 l4 l5 l6)
  else
  (b_X11_hire_75 rec_60 q l1 l3 l4 l5 l6 l7 (0 : Int32)))) FU
theorem rb_X11_hire_60 {E : EE} (hE : GE E) (q : SS) (l1 : Int32) (l3 : Int32) (l4 : Int32) (l5 : Int32) (l6 : Int32) (l7 : Int32) : R E (κI E) 4 161 60 [(0, .ref 0), (1, .int l1), (3, .int l3), (4, .int l4), (5, .int l5), (6, .int l6), (7, .int l7)] [] q (b_X11_hire_60 q l1 l3 l4 l5 l6 l7) := by
  unfold b_X11_hire_60
  refine fx7_ok (P := fun q l1 l3 l4 l5 l6 l7 o => R E (κI E) 4 161 60 [(0, .ref 0), (1, .int l1), (3, .int l3), (4, .int l4), (5, .int l5), (6, .int l6), (7, .int l7)] [] q o) (fun _ _ _ _ _ _ _ => r_no) (fun rec_60 hrec_60 q l1 l3 l4 l5 l6 l7 => ?_) _ _ _ _ _ _ _ _
  refine r_iload (x := l7) gX11_hire_58.2.1 rfl ?_
  refine r_bipush (v := (99 : Int32)) gX11_hire_58.2.2.1 rfl ?_
  refine r_icmp_gt (t := 146) gX11_hire_58.2.2.2.1 rfl (fun h15 => ?_) (fun h15 => ?_)
  · exact r_sub (L' := [(3, .int l3), (4, .int l4), (5, .int l5), (6, .int l6)]) (sub_c rfl (sub_c rfl (sub_c rfl (sub_c rfl sub_n)))) (rb_X11_hire_146 hE q l3 l4 l5 l6)
  · refine r_iload (x := l4) gX11_hire_58.2.2.2.2.1 rfl ?_
    refine r_if_le (t := 146) gX11_hire_58.2.2.2.2.2.1 rfl (fun h14 => ?_) (fun h14 => ?_)
    · exact r_sub (L' := [(3, .int l3), (4, .int l4), (5, .int l5), (6, .int l6)]) (sub_c rfl (sub_c rfl (sub_c rfl (sub_c rfl sub_n)))) (rb_X11_hire_146 hE q l3 l4 l5 l6)
    · refine r_iconst (v := (0 : Int32)) gX11_hire_58.2.2.2.2.2.2.1 rfl ?_
      refine r_istore (L2 := [(0, .ref 0), (1, .int l1), (3, .int l3), (4, .int l4), (5, .int l5), (6, .int l6), (7, .int l7), (8, .int (0 : Int32))]) gX11_hire_58.2.2.2.2.2.2.2.1 rfl rfl ?_
      exact r_sub (L' := [(0, .ref 0), (1, .int l1), (3, .int l3), (4, .int l4), (5, .int l5), (6, .int l6), (7, .int l7), (8, .int (0 : Int32))]) (sub_c rfl (sub_c rfl (sub_c rfl (sub_c rfl (sub_c rfl (sub_c rfl (sub_c rfl (sub_c rfl sub_n)))))))) (rb_X11_hire_75 hE hrec_60 q l1 l3 l4 l5 l6 l7 (0 : Int32))
def f_X11_hire (q : SS) (a1 : Int32) (a2 : Int32) (a3 : Int32) : Option (Int32 × SS) :=
  (f_X10_isPerson q a1).bind fun r1 =>
  if r1 = 0 then
  (some ((-1 : Int32), q))
  else
  (if a2 < 0 then
  (some ((-1 : Int32), q))
  else
  (if (12 : Int32) < a2 then
  (some ((-1 : Int32), q))
  else
  (if a3 < 0 then
  (some ((-1 : Int32), q))
  else
  (if a3 ≤ (1 : Int32) then
  ((f_X11_now q).bind fun r2 =>
  (f_X8_looseOf r2 a1).bind fun r3 =>
  if a2 ≤ r3 then
  (b_X11_hire_60 r2 a1 a3 a2 (0 : Int32) (-2 : Int32) (0 : Int32))
  else
  (some ((-2 : Int32), r2)))
  else
  (some ((-1 : Int32), q))))))
theorem e_X11_hire {E : EE} (hE : GE E) (q : SS) (a1 : Int32) (a2 : Int32) (a3 : Int32) : R E (κI E) 4 161 0 [(0, .ref 0), (1, .int a1), (2, .int a2), (3, .int a3)] [] q (f_X11_hire q a1 a2 a3) := by
  unfold f_X11_hire
  refine r_aload_n (x := 0) gX11_hire_0.1 rfl ?_
  refine r_getA gX11_hire_0.2.1 (fa_11_10_0 hE) ?_
  refine r_iload_n (x := a1) gX11_hire_0.2.2.1 rfl ?_
  refine r_calli (k := 0) (idx := 140) (y := 128) (as := [.ref 1, .int a1]) (rest := []) (L0 := [(0, .ref 1), (1, .int a1)]) gX11_hire_0.2.2.2.1 rfl rfl rfl rfl rfl (vok_v (ob_1 hE) rfl) rfl (r_dep (by decide) (e_X10_isPerson hE q a1)) (fun r1 => ?_)
  refine r_if_eq (t := 30) gX11_hire_0.2.2.2.2.1 rfl (fun h21 => ?_) (fun h21 => ?_)
  · refine r_iconst (v := (-1 : Int32)) gX11_hire_0.2.2.2.2.2.2.2.2.2.2.2.2.2.2.2.1 rfl ?_
    exact r_ireturn gX11_hire_31.1 rfl rfl
  · refine r_iload_n (x := a2) gX11_hire_0.2.2.2.2.2.1 rfl ?_
    refine r_if_lt (t := 30) gX11_hire_0.2.2.2.2.2.2.1 rfl (fun h20 => ?_) (fun h20 => ?_)
    · refine r_iconst (v := (-1 : Int32)) gX11_hire_0.2.2.2.2.2.2.2.2.2.2.2.2.2.2.2.1 rfl ?_
      exact r_ireturn gX11_hire_31.1 rfl rfl
    · refine r_iload_n (x := a2) gX11_hire_0.2.2.2.2.2.2.2.1 rfl ?_
      refine r_bipush (v := (12 : Int32)) gX11_hire_0.2.2.2.2.2.2.2.2.1 rfl ?_
      refine r_icmp_gt (t := 30) gX11_hire_0.2.2.2.2.2.2.2.2.2.1 rfl (fun h19 => ?_) (fun h19 => ?_)
      · refine r_iconst (v := (-1 : Int32)) gX11_hire_0.2.2.2.2.2.2.2.2.2.2.2.2.2.2.2.1 rfl ?_
        exact r_ireturn gX11_hire_31.1 rfl rfl
      · refine r_iload_n (x := a3) gX11_hire_0.2.2.2.2.2.2.2.2.2.2.1 rfl ?_
        refine r_if_lt (t := 30) gX11_hire_0.2.2.2.2.2.2.2.2.2.2.2.1 rfl (fun h18 => ?_) (fun h18 => ?_)
        · refine r_iconst (v := (-1 : Int32)) gX11_hire_0.2.2.2.2.2.2.2.2.2.2.2.2.2.2.2.1 rfl ?_
          exact r_ireturn gX11_hire_31.1 rfl rfl
        · refine r_iload_n (x := a3) gX11_hire_0.2.2.2.2.2.2.2.2.2.2.2.2.1 rfl ?_
          refine r_iconst (v := (1 : Int32)) gX11_hire_0.2.2.2.2.2.2.2.2.2.2.2.2.2.1 rfl ?_
          refine r_icmp_le (t := 32) gX11_hire_0.2.2.2.2.2.2.2.2.2.2.2.2.2.2.1 rfl (fun h17 => ?_) (fun h17 => ?_)
          · refine r_aload_n (x := 0) gX11_hire_31.2.1 rfl ?_
            refine r_callA (k := 0) (idx := 143) (y := 148) (as := [.ref 0]) (rest := []) (L0 := [(0, .ref 0)]) gX11_hire_31.2.2.1 rfl rfl rfl rfl rfl (vok_v (ob_0 hE) rfl) rfl (r_dep (by decide) (e_X11_now hE q)) (fun r2 => ?_)
            refine r_iload_n (x := a1) gX11_hire_31.2.2.2.1 rfl ?_
            refine r_calli (k := 0) (idx := 247) (y := 103) (as := [.ref 24, .int a1]) (rest := []) (L0 := [(0, .ref 24), (1, .int a1)]) gX11_hire_31.2.2.2.2.1 rfl rfl rfl rfl rfl (vok_v (ob_24 hE) rfl) rfl (r_dep (by decide) (e_X8_looseOf hE r2 a1)) (fun r3 => ?_)
            refine r_iload_n (x := a2) gX11_hire_31.2.2.2.2.2.1 rfl ?_
            refine r_icmp_ge (t := 47) gX11_hire_31.2.2.2.2.2.2.1 rfl (fun h16 => ?_) (fun h16 => ?_)
            · refine r_iload_n (x := a2) gX11_hire_31.2.2.2.2.2.2.2.2.2.1 rfl ?_
              refine r_istore (L2 := [(0, .ref 0), (1, .int a1), (2, .int a2), (3, .int a3), (4, .int a2)]) gX11_hire_31.2.2.2.2.2.2.2.2.2.2.1 rfl rfl ?_
              refine r_iconst (v := (0 : Int32)) gX11_hire_31.2.2.2.2.2.2.2.2.2.2.2.1 rfl ?_
              refine r_istore (L2 := [(0, .ref 0), (1, .int a1), (2, .int a2), (3, .int a3), (4, .int a2), (5, .int (0 : Int32))]) gX11_hire_31.2.2.2.2.2.2.2.2.2.2.2.2.1 rfl rfl ?_
              refine r_bipush (v := (-2 : Int32)) gX11_hire_31.2.2.2.2.2.2.2.2.2.2.2.2.2.1 rfl ?_
              refine r_istore (L2 := [(0, .ref 0), (1, .int a1), (2, .int a2), (3, .int a3), (4, .int a2), (5, .int (0 : Int32)), (6, .int (-2 : Int32))]) gX11_hire_31.2.2.2.2.2.2.2.2.2.2.2.2.2.2.1 rfl rfl ?_
              refine r_iconst (v := (0 : Int32)) gX11_hire_31.2.2.2.2.2.2.2.2.2.2.2.2.2.2.2.1 rfl ?_
              refine r_istore (L2 := [(0, .ref 0), (1, .int a1), (2, .int a2), (3, .int a3), (4, .int a2), (5, .int (0 : Int32)), (6, .int (-2 : Int32)), (7, .int (0 : Int32))]) gX11_hire_58.1 rfl rfl ?_
              exact r_sub (L' := [(0, .ref 0), (1, .int a1), (3, .int a3), (4, .int a2), (5, .int (0 : Int32)), (6, .int (-2 : Int32)), (7, .int (0 : Int32))]) (sub_c rfl (sub_c rfl (sub_c rfl (sub_c rfl (sub_c rfl (sub_c rfl (sub_c rfl sub_n))))))) (rb_X11_hire_60 hE r2 a1 a3 a2 (0 : Int32) (-2 : Int32) (0 : Int32))
            · refine r_bipush (v := (-2 : Int32)) gX11_hire_31.2.2.2.2.2.2.2.1 rfl ?_
              exact r_ireturn gX11_hire_31.2.2.2.2.2.2.2.2.1 rfl rfl
          · refine r_iconst (v := (-1 : Int32)) gX11_hire_0.2.2.2.2.2.2.2.2.2.2.2.2.2.2.2.1 rfl ?_
            exact r_ireturn gX11_hire_31.1 rfl rfl
def b_X12_hire_205 (rec_147 : SS → Int32 → Int32 → Int32 → Int32 → Int32 → Option (Int32 × SS)) (rec_160 : SS → Int32 → Int32 → Int32 → Int32 → Int32 → Int32 → Option (Int32 × SS)) (q : SS) (l2 : Int32) (l3 : Int32) (l5 : Int32) (l7 : Int32) (l8 : Int32) (l9 : Int32) : Option (Int32 × SS) :=
  rec_160 q l2 l3 l5 l7 l8 (l9 + (1 : Int32))
theorem rb_X12_hire_205 {E : EE} (hE : GE E) {rec_147 : SS → Int32 → Int32 → Int32 → Int32 → Int32 → Option (Int32 × SS)} (hrec_147 : ∀ (yq : SS) (yl2 : Int32) (yl3 : Int32) (yl5 : Int32) (yl6 : Int32) (yl7 : Int32), R E (κI E) 2 254 147 [(0, .ref 60), (2, .int yl2), (3, .int yl3), (5, .int yl5), (6, .int yl6), (7, .int yl7)] [] yq (rec_147 yq yl2 yl3 yl5 yl6 yl7)) {rec_160 : SS → Int32 → Int32 → Int32 → Int32 → Int32 → Int32 → Option (Int32 × SS)} (hrec_160 : ∀ (yq : SS) (yl2 : Int32) (yl3 : Int32) (yl5 : Int32) (yl7 : Int32) (yl8 : Int32) (yl9 : Int32), R E (κI E) 2 254 160 [(0, .ref 60), (2, .int yl2), (3, .int yl3), (5, .int yl5), (7, .int yl7), (8, .int yl8), (9, .int yl9)] [] yq (rec_160 yq yl2 yl3 yl5 yl7 yl8 yl9)) (q : SS) (l2 : Int32) (l3 : Int32) (l5 : Int32) (l7 : Int32) (l8 : Int32) (l9 : Int32) : R E (κI E) 2 254 205 [(0, .ref 60), (2, .int l2), (3, .int l3), (5, .int l5), (7, .int l7), (8, .int l8), (9, .int l9)] [] q (b_X12_hire_205 rec_147 rec_160 q l2 l3 l5 l7 l8 l9) := by
  unfold b_X12_hire_205
  refine r_iinc (x := l9) (v := (l9 + (1 : Int32))) (L2 := [(0, .ref 60), (2, .int l2), (3, .int l3), (5, .int l5), (7, .int l7), (8, .int l8), (9, .int (l9 + (1 : Int32)))]) gX12_hire_185.2.2.2.2.2.2.2.2.2.2.1 rfl rfl rfl rfl ?_
  refine r_goto (t := 160) gX12_hire_185.2.2.2.2.2.2.2.2.2.2.2.1 rfl ?_
  exact r_sub (L' := [(0, .ref 60), (2, .int l2), (3, .int l3), (5, .int l5), (7, .int l7), (8, .int l8), (9, .int (l9 + (1 : Int32)))]) (sub_c rfl (sub_c rfl (sub_c rfl (sub_c rfl (sub_c rfl (sub_c rfl (sub_c rfl sub_n))))))) (hrec_160 q l2 l3 l5 l7 l8 (l9 + (1 : Int32)))
def b_X12_hire_201 (rec_147 : SS → Int32 → Int32 → Int32 → Int32 → Int32 → Option (Int32 × SS)) (rec_160 : SS → Int32 → Int32 → Int32 → Int32 → Int32 → Int32 → Option (Int32 × SS)) (q : SS) (l2 : Int32) (l3 : Int32) (l5 : Int32) (l7 : Int32) (l9 : Int32) : Option (Int32 × SS) :=
  b_X12_hire_205 rec_147 rec_160 q l2 l3 l5 l7 l9 l9
theorem rb_X12_hire_201 {E : EE} (hE : GE E) {rec_147 : SS → Int32 → Int32 → Int32 → Int32 → Int32 → Option (Int32 × SS)} (hrec_147 : ∀ (yq : SS) (yl2 : Int32) (yl3 : Int32) (yl5 : Int32) (yl6 : Int32) (yl7 : Int32), R E (κI E) 2 254 147 [(0, .ref 60), (2, .int yl2), (3, .int yl3), (5, .int yl5), (6, .int yl6), (7, .int yl7)] [] yq (rec_147 yq yl2 yl3 yl5 yl6 yl7)) {rec_160 : SS → Int32 → Int32 → Int32 → Int32 → Int32 → Int32 → Option (Int32 × SS)} (hrec_160 : ∀ (yq : SS) (yl2 : Int32) (yl3 : Int32) (yl5 : Int32) (yl7 : Int32) (yl8 : Int32) (yl9 : Int32), R E (κI E) 2 254 160 [(0, .ref 60), (2, .int yl2), (3, .int yl3), (5, .int yl5), (7, .int yl7), (8, .int yl8), (9, .int yl9)] [] yq (rec_160 yq yl2 yl3 yl5 yl7 yl8 yl9)) (q : SS) (l2 : Int32) (l3 : Int32) (l5 : Int32) (l7 : Int32) (l9 : Int32) : R E (κI E) 2 254 201 [(0, .ref 60), (2, .int l2), (3, .int l3), (5, .int l5), (7, .int l7), (9, .int l9)] [] q (b_X12_hire_201 rec_147 rec_160 q l2 l3 l5 l7 l9) := by
  unfold b_X12_hire_201
  refine r_iload (x := l9) gX12_hire_185.2.2.2.2.2.2.2.2.1 rfl ?_
  refine r_istore (L2 := [(0, .ref 60), (2, .int l2), (3, .int l3), (5, .int l5), (7, .int l7), (8, .int l9), (9, .int l9)]) gX12_hire_185.2.2.2.2.2.2.2.2.2.1 rfl rfl ?_
  exact r_sub (L' := [(0, .ref 60), (2, .int l2), (3, .int l3), (5, .int l5), (7, .int l7), (8, .int l9), (9, .int l9)]) (sub_c rfl (sub_c rfl (sub_c rfl (sub_c rfl (sub_c rfl (sub_c rfl (sub_c rfl sub_n))))))) (rb_X12_hire_205 hE hrec_147 hrec_160 q l2 l3 l5 l7 l9 l9)
def b_X12_hire_160 (rec_147 : SS → Int32 → Int32 → Int32 → Int32 → Int32 → Option (Int32 × SS)) : SS → Int32 → Int32 → Int32 → Int32 → Int32 → Int32 → Option (Int32 × SS) :=
  fx7 (fun (rec_160 : SS → Int32 → Int32 → Int32 → Int32 → Int32 → Int32 → Option (Int32 × SS)) (q : SS) (l2 : Int32) (l3 : Int32) (l5 : Int32) (l7 : Int32) (l8 : Int32) (l9 : Int32) =>
  if (q.1 60 1) ≤ l9 then
  (if 0 ≤ l8 then
  (if vin l8 6 then
  if vin l8 6 then
  nm (sI q 82 l8.toNatClampNeg ((q.1 82 l8.toNatClampNeg) - (1 : Int32))) fun q5 =>
  if vin l8 6 then
  nm (l5 + (q5.1 63 l8.toNatClampNeg)) fun v6 =>
  rec_147 q5 l2 l3 v6 l8 (l7 + (1 : Int32))
  else none
  else none
  else none)
  else
  (some ((-2 : Int32), q)))
  else
  (if vin l9 6 then
  if (q.1 82 l9.toNatClampNeg) ≤ 0 then
  (b_X12_hire_205 rec_147 rec_160 q l2 l3 l5 l7 l8 l9)
  else
  (if l8 < 0 then
  (b_X12_hire_201 rec_147 rec_160 q l2 l3 l5 l7 l9)
  else
  (if vin l9 6 then
  if vin l8 6 then
  if (q.1 63 l8.toNatClampNeg) ≤ (q.1 63 l9.toNatClampNeg) then
  (b_X12_hire_205 rec_147 rec_160 q l2 l3 l5 l7 l8 l9)
  else
  (b_X12_hire_201 rec_147 rec_160 q l2 l3 l5 l7 l9)
  else none
  else none))
  else none)) FU
theorem rb_X12_hire_160 {E : EE} (hE : GE E) {rec_147 : SS → Int32 → Int32 → Int32 → Int32 → Int32 → Option (Int32 × SS)} (hrec_147 : ∀ (yq : SS) (yl2 : Int32) (yl3 : Int32) (yl5 : Int32) (yl6 : Int32) (yl7 : Int32), R E (κI E) 2 254 147 [(0, .ref 60), (2, .int yl2), (3, .int yl3), (5, .int yl5), (6, .int yl6), (7, .int yl7)] [] yq (rec_147 yq yl2 yl3 yl5 yl6 yl7)) (q : SS) (l2 : Int32) (l3 : Int32) (l5 : Int32) (l7 : Int32) (l8 : Int32) (l9 : Int32) : R E (κI E) 2 254 160 [(0, .ref 60), (2, .int l2), (3, .int l3), (5, .int l5), (7, .int l7), (8, .int l8), (9, .int l9)] [] q (b_X12_hire_160 rec_147 q l2 l3 l5 l7 l8 l9) := by
  unfold b_X12_hire_160
  refine fx7_ok (P := fun q l2 l3 l5 l7 l8 l9 o => R E (κI E) 2 254 160 [(0, .ref 60), (2, .int l2), (3, .int l3), (5, .int l5), (7, .int l7), (8, .int l8), (9, .int l9)] [] q o) (fun _ _ _ _ _ _ _ => r_no) (fun rec_160 hrec_160 q l2 l3 l5 l7 l8 l9 => ?_) _ _ _ _ _ _ _ _
  refine r_iload (x := l9) gX12_hire_153.2.2.2.2.1 rfl ?_
  refine r_aload_n (x := 60) gX12_hire_153.2.2.2.2.2.1 rfl ?_
  refine r_getI gX12_hire_153.2.2.2.2.2.2.1 (ff_12_115_60 hE) (by decide) ?_
  refine r_icmp_ge (t := 211) gX12_hire_153.2.2.2.2.2.2.2.1 rfl (fun h11 => ?_) (fun h11 => ?_)
  · refine r_iload (x := l8) gX12_hire_185.2.2.2.2.2.2.2.2.2.2.2.2.1 rfl ?_
    refine r_if_ge (t := 219) gX12_hire_185.2.2.2.2.2.2.2.2.2.2.2.2.2.1 rfl (fun h7 => ?_) (fun h7 => ?_)
    · refine r_aload_n (x := 60) gX12_hire_219.1 rfl ?_
      refine r_getA gX12_hire_219.2.1 (fa_12_77_60 hE) ?_
      refine r_iload (x := l8) gX12_hire_219.2.2.1 rfl ?_
      refine r_dup2 gX12_hire_219.2.2.2.1 ⟨rfl, rfl⟩ ?_
      refine r_iaload gX12_hire_219.2.2.2.2.1 (ar_82 hE) ?_
      refine r_iconst (v := (1 : Int32)) gX12_hire_219.2.2.2.2.2.1 rfl ?_
      refine r_isub gX12_hire_219.2.2.2.2.2.2.1 ?_
      refine r_iastore gX12_hire_219.2.2.2.2.2.2.2.1 (ar_82 hE) ?_
      refine r_nmS fun q5 _ => ?_
      refine r_iload (x := l5) gX12_hire_219.2.2.2.2.2.2.2.2.1 rfl ?_
      refine r_aload_n (x := 60) gX12_hire_219.2.2.2.2.2.2.2.2.2.1 rfl ?_
      refine r_getA gX12_hire_219.2.2.2.2.2.2.2.2.2.2.1 (fa_12_18_60 hE) ?_
      refine r_iload (x := l8) gX12_hire_219.2.2.2.2.2.2.2.2.2.2.2.1 rfl ?_
      refine r_iaload gX12_hire_219.2.2.2.2.2.2.2.2.2.2.2.2.1 (ar_63 hE) ?_
      refine r_iadd gX12_hire_219.2.2.2.2.2.2.2.2.2.2.2.2.2.1 ?_
      refine r_nmI fun v6 _ => ?_
      refine r_istore (L2 := [(0, .ref 60), (2, .int l2), (3, .int l3), (5, .int v6), (7, .int l7), (8, .int l8), (9, .int l9)]) gX12_hire_219.2.2.2.2.2.2.2.2.2.2.2.2.2.2.1 rfl rfl ?_
      refine r_iload (x := l8) gX12_hire_219.2.2.2.2.2.2.2.2.2.2.2.2.2.2.2.1 rfl ?_
      refine r_istore (L2 := [(0, .ref 60), (2, .int l2), (3, .int l3), (5, .int v6), (6, .int l8), (7, .int l7), (8, .int l8), (9, .int l9)]) gX12_hire_244.1 rfl rfl ?_
      refine r_iinc (x := l7) (v := (l7 + (1 : Int32))) (L2 := [(0, .ref 60), (2, .int l2), (3, .int l3), (5, .int v6), (6, .int l8), (7, .int (l7 + (1 : Int32))), (8, .int l8), (9, .int l9)]) gX12_hire_244.2.1 rfl rfl rfl rfl ?_
      refine r_goto (t := 147) gX12_hire_244.2.2.1 rfl ?_
      exact r_sub (L' := [(0, .ref 60), (2, .int l2), (3, .int l3), (5, .int v6), (6, .int l8), (7, .int (l7 + (1 : Int32)))]) (sub_c rfl (sub_c rfl (sub_c rfl (sub_c rfl (sub_c rfl (sub_c rfl sub_n)))))) (hrec_147 q5 l2 l3 v6 l8 (l7 + (1 : Int32)))
    · refine r_bipush (v := (-2 : Int32)) gX12_hire_185.2.2.2.2.2.2.2.2.2.2.2.2.2.2.1 rfl ?_
      exact r_ireturn gX12_hire_185.2.2.2.2.2.2.2.2.2.2.2.2.2.2.2.1 rfl rfl
  · refine r_aload_n (x := 60) gX12_hire_153.2.2.2.2.2.2.2.2.1 rfl ?_
    refine r_getA gX12_hire_153.2.2.2.2.2.2.2.2.2.1 (fa_12_77_60 hE) ?_
    refine r_iload (x := l9) gX12_hire_153.2.2.2.2.2.2.2.2.2.2.1 rfl ?_
    refine r_iaload gX12_hire_153.2.2.2.2.2.2.2.2.2.2.2.1 (ar_82 hE) ?_
    refine r_if_le (t := 205) gX12_hire_153.2.2.2.2.2.2.2.2.2.2.2.2.1 rfl (fun h10 => ?_) (fun h10 => ?_)
    · exact r_sub (L' := [(0, .ref 60), (2, .int l2), (3, .int l3), (5, .int l5), (7, .int l7), (8, .int l8), (9, .int l9)]) (sub_c rfl (sub_c rfl (sub_c rfl (sub_c rfl (sub_c rfl (sub_c rfl (sub_c rfl sub_n))))))) (rb_X12_hire_205 hE hrec_147 hrec_160 q l2 l3 l5 l7 l8 l9)
    · refine r_iload (x := l8) gX12_hire_153.2.2.2.2.2.2.2.2.2.2.2.2.2.1 rfl ?_
      refine r_if_lt (t := 201) gX12_hire_153.2.2.2.2.2.2.2.2.2.2.2.2.2.2.1 rfl (fun h9 => ?_) (fun h9 => ?_)
      · exact r_sub (L' := [(0, .ref 60), (2, .int l2), (3, .int l3), (5, .int l5), (7, .int l7), (9, .int l9)]) (sub_c rfl (sub_c rfl (sub_c rfl (sub_c rfl (sub_c rfl (sub_c rfl sub_n)))))) (rb_X12_hire_201 hE hrec_147 hrec_160 q l2 l3 l5 l7 l9)
      · refine r_aload_n (x := 60) gX12_hire_153.2.2.2.2.2.2.2.2.2.2.2.2.2.2.2.1 rfl ?_
        refine r_getA gX12_hire_185.1 (fa_12_18_60 hE) ?_
        refine r_iload (x := l9) gX12_hire_185.2.1 rfl ?_
        refine r_iaload gX12_hire_185.2.2.1 (ar_63 hE) ?_
        refine r_aload_n (x := 60) gX12_hire_185.2.2.2.1 rfl ?_
        refine r_getA gX12_hire_185.2.2.2.2.1 (fa_12_18_60 hE) ?_
        refine r_iload (x := l8) gX12_hire_185.2.2.2.2.2.1 rfl ?_
        refine r_iaload gX12_hire_185.2.2.2.2.2.2.1 (ar_63 hE) ?_
        refine r_icmp_ge (t := 205) gX12_hire_185.2.2.2.2.2.2.2.1 rfl (fun h8 => ?_) (fun h8 => ?_)
        · exact r_sub (L' := [(0, .ref 60), (2, .int l2), (3, .int l3), (5, .int l5), (7, .int l7), (8, .int l8), (9, .int l9)]) (sub_c rfl (sub_c rfl (sub_c rfl (sub_c rfl (sub_c rfl (sub_c rfl (sub_c rfl sub_n))))))) (rb_X12_hire_205 hE hrec_147 hrec_160 q l2 l3 l5 l7 l8 l9)
        · exact r_sub (L' := [(0, .ref 60), (2, .int l2), (3, .int l3), (5, .int l5), (7, .int l7), (9, .int l9)]) (sub_c rfl (sub_c rfl (sub_c rfl (sub_c rfl (sub_c rfl (sub_c rfl sub_n)))))) (rb_X12_hire_201 hE hrec_147 hrec_160 q l2 l3 l5 l7 l9)
def b_X12_hire_147 : SS → Int32 → Int32 → Int32 → Int32 → Int32 → Option (Int32 × SS) :=
  fx6 (fun (rec_147 : SS → Int32 → Int32 → Int32 → Int32 → Int32 → Option (Int32 × SS)) (q : SS) (l2 : Int32) (l3 : Int32) (l5 : Int32) (l6 : Int32) (l7 : Int32) =>
  if l2 ≤ l7 then
  (if l3 = 0 then
  (some (l5, q))
  else
  (some (l6, q)))
  else
  (b_X12_hire_160 rec_147 q l2 l3 l5 l7 (-2 : Int32) (0 : Int32))) FU
theorem rb_X12_hire_147 {E : EE} (hE : GE E) (q : SS) (l2 : Int32) (l3 : Int32) (l5 : Int32) (l6 : Int32) (l7 : Int32) : R E (κI E) 2 254 147 [(0, .ref 60), (2, .int l2), (3, .int l3), (5, .int l5), (6, .int l6), (7, .int l7)] [] q (b_X12_hire_147 q l2 l3 l5 l6 l7) := by
  unfold b_X12_hire_147
  refine fx6_ok (P := fun q l2 l3 l5 l6 l7 o => R E (κI E) 2 254 147 [(0, .ref 60), (2, .int l2), (3, .int l3), (5, .int l5), (6, .int l6), (7, .int l7)] [] q o) (fun _ _ _ _ _ _ => r_no) (fun rec_147 hrec_147 q l2 l3 l5 l6 l7 => ?_) _ _ _ _ _ _ _
  refine r_iload (x := l7) gX12_hire_123.2.2.2.2.2.2.2.2.2.2.2.2.2.1 rfl ?_
  refine r_iload_n (x := l2) gX12_hire_123.2.2.2.2.2.2.2.2.2.2.2.2.2.2.1 rfl ?_
  refine r_icmp_ge (t := 252) gX12_hire_123.2.2.2.2.2.2.2.2.2.2.2.2.2.2.2.1 rfl (fun h12 => ?_) (fun h12 => ?_)
  · refine r_iload_n (x := l3) gX12_hire_244.2.2.2.1 rfl ?_
    refine r_if_ne (t := 261) gX12_hire_244.2.2.2.2.1 rfl (fun h4 => ?_) (fun h4 => ?_)
    · refine r_iload (x := l5) gX12_hire_244.2.2.2.2.2.1 rfl ?_
      refine r_goto (t := 263) gX12_hire_244.2.2.2.2.2.2.1 rfl ?_
      exact r_ireturn gX12_hire_244.2.2.2.2.2.2.2.2.1 rfl rfl
    · refine r_iload (x := l6) gX12_hire_244.2.2.2.2.2.2.2.1 rfl ?_
      exact r_ireturn gX12_hire_244.2.2.2.2.2.2.2.2.1 rfl rfl
  · refine r_bipush (v := (-2 : Int32)) gX12_hire_153.1 rfl ?_
    refine r_istore (L2 := [(0, .ref 60), (2, .int l2), (3, .int l3), (5, .int l5), (6, .int l6), (7, .int l7), (8, .int (-2 : Int32))]) gX12_hire_153.2.1 rfl rfl ?_
    refine r_iconst (v := (0 : Int32)) gX12_hire_153.2.2.1 rfl ?_
    refine r_istore (L2 := [(0, .ref 60), (2, .int l2), (3, .int l3), (5, .int l5), (6, .int l6), (7, .int l7), (8, .int (-2 : Int32)), (9, .int (0 : Int32))]) gX12_hire_153.2.2.2.1 rfl rfl ?_
    exact r_sub (L' := [(0, .ref 60), (2, .int l2), (3, .int l3), (5, .int l5), (7, .int l7), (8, .int (-2 : Int32)), (9, .int (0 : Int32))]) (sub_c rfl (sub_c rfl (sub_c rfl (sub_c rfl (sub_c rfl (sub_c rfl (sub_c rfl sub_n))))))) (rb_X12_hire_160 hE hrec_147 q l2 l3 l5 l7 (-2 : Int32) (0 : Int32))
def b_X12_hire_130 (rec_87 : SS → Int32 → Int32 → Int32 → Int32 → Option (Int32 × SS)) (q : SS) (l1 : Int32) (l2 : Int32) (l3 : Int32) (l5 : Int32) (s0 : Int32) (s1 : Int32) : Option (Int32 × SS) :=
  if vin s1 6 then
  nm (sI q 82 s1.toNatClampNeg s0) fun q13 =>
  rec_87 q13 l1 l2 l3 (l5 + (1 : Int32))
  else none
theorem rb_X12_hire_130 {E : EE} (hE : GE E) {rec_87 : SS → Int32 → Int32 → Int32 → Int32 → Option (Int32 × SS)} (hrec_87 : ∀ (yq : SS) (yl1 : Int32) (yl2 : Int32) (yl3 : Int32) (yl5 : Int32), R E (κI E) 2 254 87 [(0, .ref 60), (1, .int yl1), (2, .int yl2), (3, .int yl3), (5, .int yl5)] [] yq (rec_87 yq yl1 yl2 yl3 yl5)) (q : SS) (l1 : Int32) (l2 : Int32) (l3 : Int32) (l5 : Int32) (s0 : Int32) (s1 : Int32) : R E (κI E) 2 254 130 [(0, .ref 60), (1, .int l1), (2, .int l2), (3, .int l3), (5, .int l5)] [.int s0, .int s1, .ref 82] q (b_X12_hire_130 rec_87 q l1 l2 l3 l5 s0 s1) := by
  unfold b_X12_hire_130
  refine r_iastore gX12_hire_123.2.2.2.2.1 (ar_82 hE) ?_
  refine r_nmS fun q13 _ => ?_
  refine r_iinc (x := l5) (v := (l5 + (1 : Int32))) (L2 := [(0, .ref 60), (1, .int l1), (2, .int l2), (3, .int l3), (5, .int (l5 + (1 : Int32)))]) gX12_hire_123.2.2.2.2.2.1 rfl rfl rfl rfl ?_
  refine r_goto (t := 87) gX12_hire_123.2.2.2.2.2.2.1 rfl ?_
  exact r_sub (L' := [(0, .ref 60), (1, .int l1), (2, .int l2), (3, .int l3), (5, .int (l5 + (1 : Int32)))]) (sub_c rfl (sub_c rfl (sub_c rfl (sub_c rfl (sub_c rfl sub_n))))) (hrec_87 q13 l1 l2 l3 (l5 + (1 : Int32)))
def b_X12_hire_119 (rec_87 : SS → Int32 → Int32 → Int32 → Int32 → Option (Int32 × SS)) (q : SS) (l1 : Int32) (l2 : Int32) (l3 : Int32) (l5 : Int32) (s0 : Int32) : Option (Int32 × SS) :=
  b_X12_hire_130 rec_87 q l1 l2 l3 l5 (0 : Int32) s0
theorem rb_X12_hire_119 {E : EE} (hE : GE E) {rec_87 : SS → Int32 → Int32 → Int32 → Int32 → Option (Int32 × SS)} (hrec_87 : ∀ (yq : SS) (yl1 : Int32) (yl2 : Int32) (yl3 : Int32) (yl5 : Int32), R E (κI E) 2 254 87 [(0, .ref 60), (1, .int yl1), (2, .int yl2), (3, .int yl3), (5, .int yl5)] [] yq (rec_87 yq yl1 yl2 yl3 yl5)) (q : SS) (l1 : Int32) (l2 : Int32) (l3 : Int32) (l5 : Int32) (s0 : Int32) : R E (κI E) 2 254 119 [(0, .ref 60), (1, .int l1), (2, .int l2), (3, .int l3), (5, .int l5)] [.int s0, .ref 82] q (b_X12_hire_119 rec_87 q l1 l2 l3 l5 s0) := by
  unfold b_X12_hire_119
  refine r_iconst (v := (0 : Int32)) gX12_hire_90.2.2.2.2.2.2.2.2.2.2.2.2.2.2.1 rfl ?_
  refine r_goto (t := 130) gX12_hire_90.2.2.2.2.2.2.2.2.2.2.2.2.2.2.2.1 rfl ?_
  exact r_sub (L' := [(0, .ref 60), (1, .int l1), (2, .int l2), (3, .int l3), (5, .int l5)]) (sub_c rfl (sub_c rfl (sub_c rfl (sub_c rfl (sub_c rfl sub_n))))) (rb_X12_hire_130 hE hrec_87 q l1 l2 l3 l5 (0 : Int32) s0)
def b_X12_hire_87 : SS → Int32 → Int32 → Int32 → Int32 → Option (Int32 × SS) :=
  fx5 (fun (rec_87 : SS → Int32 → Int32 → Int32 → Int32 → Option (Int32 × SS)) (q : SS) (l1 : Int32) (l2 : Int32) (l3 : Int32) (l5 : Int32) =>
  if (q.1 60 1) ≤ l5 then
  (b_X12_hire_147 q l2 l3 (0 : Int32) (-2 : Int32) (0 : Int32))
  else
  (if l5 = l1 then
  (b_X12_hire_119 rec_87 q l1 l2 l3 l5 l5)
  else
  (if vin l5 6 then
  if (q.1 62 l5.toNatClampNeg) = (1 : Int32) then
  (b_X12_hire_119 rec_87 q l1 l2 l3 l5 l5)
  else
  (if vin l5 6 then
  b_X12_hire_130 rec_87 q l1 l2 l3 l5 (q.1 64 l5.toNatClampNeg) l5
  else none)
  else none))) FU
theorem rb_X12_hire_87 {E : EE} (hE : GE E) (q : SS) (l1 : Int32) (l2 : Int32) (l3 : Int32) (l5 : Int32) : R E (κI E) 2 254 87 [(0, .ref 60), (1, .int l1), (2, .int l2), (3, .int l3), (5, .int l5)] [] q (b_X12_hire_87 q l1 l2 l3 l5) := by
  unfold b_X12_hire_87
  refine fx5_ok (P := fun q l1 l2 l3 l5 o => R E (κI E) 2 254 87 [(0, .ref 60), (1, .int l1), (2, .int l2), (3, .int l3), (5, .int l5)] [] q o) (fun _ _ _ _ _ => r_no) (fun rec_87 hrec_87 q l1 l2 l3 l5 => ?_) _ _ _ _ _ _
  refine r_iload (x := l5) gX12_hire_59.2.2.2.2.2.2.2.2.2.2.2.2.2.2.1 rfl ?_
  refine r_aload_n (x := 60) gX12_hire_59.2.2.2.2.2.2.2.2.2.2.2.2.2.2.2.1 rfl ?_
  refine r_getI gX12_hire_90.1 (ff_12_115_60 hE) (by decide) ?_
  refine r_icmp_ge (t := 137) gX12_hire_90.2.1 rfl (fun h16 => ?_) (fun h16 => ?_)
  · refine r_iconst (v := (0 : Int32)) gX12_hire_123.2.2.2.2.2.2.2.1 rfl ?_
    refine r_istore (L2 := [(0, .ref 60), (1, .int l1), (2, .int l2), (3, .int l3), (5, .int (0 : Int32))]) gX12_hire_123.2.2.2.2.2.2.2.2.1 rfl rfl ?_
    refine r_bipush (v := (-2 : Int32)) gX12_hire_123.2.2.2.2.2.2.2.2.2.1 rfl ?_
    refine r_istore (L2 := [(0, .ref 60), (1, .int l1), (2, .int l2), (3, .int l3), (5, .int (0 : Int32)), (6, .int (-2 : Int32))]) gX12_hire_123.2.2.2.2.2.2.2.2.2.2.1 rfl rfl ?_
    refine r_iconst (v := (0 : Int32)) gX12_hire_123.2.2.2.2.2.2.2.2.2.2.2.1 rfl ?_
    refine r_istore (L2 := [(0, .ref 60), (1, .int l1), (2, .int l2), (3, .int l3), (5, .int (0 : Int32)), (6, .int (-2 : Int32)), (7, .int (0 : Int32))]) gX12_hire_123.2.2.2.2.2.2.2.2.2.2.2.2.1 rfl rfl ?_
    exact r_sub (L' := [(0, .ref 60), (2, .int l2), (3, .int l3), (5, .int (0 : Int32)), (6, .int (-2 : Int32)), (7, .int (0 : Int32))]) (sub_c rfl (sub_c rfl (sub_c rfl (sub_c rfl (sub_c rfl (sub_c rfl sub_n)))))) (rb_X12_hire_147 hE q l2 l3 (0 : Int32) (-2 : Int32) (0 : Int32))
  · refine r_aload_n (x := 60) gX12_hire_90.2.2.1 rfl ?_
    refine r_getA gX12_hire_90.2.2.2.1 (fa_12_77_60 hE) ?_
    refine r_iload (x := l5) gX12_hire_90.2.2.2.2.1 rfl ?_
    refine r_iload (x := l5) gX12_hire_90.2.2.2.2.2.1 rfl ?_
    refine r_iload_n (x := l1) gX12_hire_90.2.2.2.2.2.2.1 rfl ?_
    refine r_icmp_eq (t := 119) gX12_hire_90.2.2.2.2.2.2.2.1 rfl (fun h15 => ?_) (fun h15 => ?_)
    · exact r_sub (L' := [(0, .ref 60), (1, .int l1), (2, .int l2), (3, .int l3), (5, .int l5)]) (sub_c rfl (sub_c rfl (sub_c rfl (sub_c rfl (sub_c rfl sub_n))))) (rb_X12_hire_119 hE hrec_87 q l1 l2 l3 l5 l5)
    · refine r_aload_n (x := 60) gX12_hire_90.2.2.2.2.2.2.2.2.1 rfl ?_
      refine r_getA gX12_hire_90.2.2.2.2.2.2.2.2.2.1 (fa_12_15_60 hE) ?_
      refine r_iload (x := l5) gX12_hire_90.2.2.2.2.2.2.2.2.2.2.1 rfl ?_
      refine r_iaload gX12_hire_90.2.2.2.2.2.2.2.2.2.2.2.1 (ar_62 hE) ?_
      refine r_iconst (v := (1 : Int32)) gX12_hire_90.2.2.2.2.2.2.2.2.2.2.2.2.1 rfl ?_
      refine r_icmp_ne (t := 123) gX12_hire_90.2.2.2.2.2.2.2.2.2.2.2.2.2.1 rfl (fun h14 => ?_) (fun h14 => ?_)
      · exact r_sub (L' := [(0, .ref 60), (1, .int l1), (2, .int l2), (3, .int l3), (5, .int l5)]) (sub_c rfl (sub_c rfl (sub_c rfl (sub_c rfl (sub_c rfl sub_n))))) (rb_X12_hire_119 hE hrec_87 q l1 l2 l3 l5 l5)
      · refine r_aload_n (x := 60) gX12_hire_123.1 rfl ?_
        refine r_getA gX12_hire_123.2.1 (fa_12_21_60 hE) ?_
        refine r_iload (x := l5) gX12_hire_123.2.2.1 rfl ?_
        refine r_iaload gX12_hire_123.2.2.2.1 (ar_64 hE) ?_
        exact r_sub (L' := [(0, .ref 60), (1, .int l1), (2, .int l2), (3, .int l3), (5, .int l5)]) (sub_c rfl (sub_c rfl (sub_c rfl (sub_c rfl (sub_c rfl sub_n))))) (rb_X12_hire_130 hE hrec_87 q l1 l2 l3 l5 (q.1 64 l5.toNatClampNeg) l5)
def b_X12_hire_69 (rec_35 : SS → Int32 → Int32 → Int32 → Int32 → Int32 → Option (Int32 × SS)) (q : SS) (l1 : Int32) (l2 : Int32) (l3 : Int32) (l4 : Int32) (l5 : Int32) : Option (Int32 × SS) :=
  rec_35 q l1 l2 l3 l4 (l5 + (1 : Int32))
theorem rb_X12_hire_69 {E : EE} (hE : GE E) {rec_35 : SS → Int32 → Int32 → Int32 → Int32 → Int32 → Option (Int32 × SS)} (hrec_35 : ∀ (yq : SS) (yl1 : Int32) (yl2 : Int32) (yl3 : Int32) (yl4 : Int32) (yl5 : Int32), R E (κI E) 2 254 35 [(0, .ref 60), (1, .int yl1), (2, .int yl2), (3, .int yl3), (4, .int yl4), (5, .int yl5)] [] yq (rec_35 yq yl1 yl2 yl3 yl4 yl5)) (q : SS) (l1 : Int32) (l2 : Int32) (l3 : Int32) (l4 : Int32) (l5 : Int32) : R E (κI E) 2 254 69 [(0, .ref 60), (1, .int l1), (2, .int l2), (3, .int l3), (4, .int l4), (5, .int l5)] [] q (b_X12_hire_69 rec_35 q l1 l2 l3 l4 l5) := by
  unfold b_X12_hire_69
  refine r_iinc (x := l5) (v := (l5 + (1 : Int32))) (L2 := [(0, .ref 60), (1, .int l1), (2, .int l2), (3, .int l3), (4, .int l4), (5, .int (l5 + (1 : Int32)))]) gX12_hire_59.2.2.2.2.2.1 rfl rfl rfl rfl ?_
  refine r_goto (t := 35) gX12_hire_59.2.2.2.2.2.2.1 rfl ?_
  exact r_sub (L' := [(0, .ref 60), (1, .int l1), (2, .int l2), (3, .int l3), (4, .int l4), (5, .int (l5 + (1 : Int32)))]) (sub_c rfl (sub_c rfl (sub_c rfl (sub_c rfl (sub_c rfl (sub_c rfl sub_n)))))) (hrec_35 q l1 l2 l3 l4 (l5 + (1 : Int32)))
def b_X12_hire_35 : SS → Int32 → Int32 → Int32 → Int32 → Int32 → Option (Int32 × SS) :=
  fx6 (fun (rec_35 : SS → Int32 → Int32 → Int32 → Int32 → Int32 → Option (Int32 × SS)) (q : SS) (l1 : Int32) (l2 : Int32) (l3 : Int32) (l4 : Int32) (l5 : Int32) =>
  if (q.1 60 6) ≤ l5 then
  (if l2 ≤ l4 then
  (b_X12_hire_87 q l1 l2 l3 (0 : Int32))
  else
  (some ((-2 : Int32), q)))
  else
  (if vin l5 12 then
  if (q.1 65 l5.toNatClampNeg) = l1 then
  (if vin l5 12 then
  if (q.1 67 l5.toNatClampNeg) = (4 : Int32) then
  (b_X12_hire_69 rec_35 q l1 l2 l3 l4 l5)
  else
  (b_X12_hire_69 rec_35 q l1 l2 l3 (l4 + (1 : Int32)) l5)
  else none)
  else
  (b_X12_hire_69 rec_35 q l1 l2 l3 l4 l5)
  else none)) FU
theorem rb_X12_hire_35 {E : EE} (hE : GE E) (q : SS) (l1 : Int32) (l2 : Int32) (l3 : Int32) (l4 : Int32) (l5 : Int32) : R E (κI E) 2 254 35 [(0, .ref 60), (1, .int l1), (2, .int l2), (3, .int l3), (4, .int l4), (5, .int l5)] [] q (b_X12_hire_35 q l1 l2 l3 l4 l5) := by
  unfold b_X12_hire_35
  refine fx6_ok (P := fun q l1 l2 l3 l4 l5 o => R E (κI E) 2 254 35 [(0, .ref 60), (1, .int l1), (2, .int l2), (3, .int l3), (4, .int l4), (5, .int l5)] [] q o) (fun _ _ _ _ _ _ => r_no) (fun rec_35 hrec_35 q l1 l2 l3 l4 l5 => ?_) _ _ _ _ _ _ _
  refine r_iload (x := l5) gX12_hire_29.2.2.2.2.1 rfl ?_
  refine r_aload_n (x := 60) gX12_hire_29.2.2.2.2.2.1 rfl ?_
  refine r_getI gX12_hire_29.2.2.2.2.2.2.1 (ff_12_122_60 hE) (by decide) ?_
  refine r_icmp_ge (t := 75) gX12_hire_29.2.2.2.2.2.2.2.1 rfl (fun h20 => ?_) (fun h20 => ?_)
  · refine r_iload_n (x := l2) gX12_hire_59.2.2.2.2.2.2.2.1 rfl ?_
    refine r_iload (x := l4) gX12_hire_59.2.2.2.2.2.2.2.2.1 rfl ?_
    refine r_icmp_le (t := 84) gX12_hire_59.2.2.2.2.2.2.2.2.2.1 rfl (fun h17 => ?_) (fun h17 => ?_)
    · refine r_iconst (v := (0 : Int32)) gX12_hire_59.2.2.2.2.2.2.2.2.2.2.2.2.1 rfl ?_
      refine r_istore (L2 := [(0, .ref 60), (1, .int l1), (2, .int l2), (3, .int l3), (4, .int l4), (5, .int (0 : Int32))]) gX12_hire_59.2.2.2.2.2.2.2.2.2.2.2.2.2.1 rfl rfl ?_
      exact r_sub (L' := [(0, .ref 60), (1, .int l1), (2, .int l2), (3, .int l3), (5, .int (0 : Int32))]) (sub_c rfl (sub_c rfl (sub_c rfl (sub_c rfl (sub_c rfl sub_n))))) (rb_X12_hire_87 hE q l1 l2 l3 (0 : Int32))
    · refine r_bipush (v := (-2 : Int32)) gX12_hire_59.2.2.2.2.2.2.2.2.2.2.1 rfl ?_
      exact r_ireturn gX12_hire_59.2.2.2.2.2.2.2.2.2.2.2.1 rfl rfl
  · refine r_aload_n (x := 60) gX12_hire_29.2.2.2.2.2.2.2.2.1 rfl ?_
    refine r_getA gX12_hire_29.2.2.2.2.2.2.2.2.2.1 (fa_12_24_60 hE) ?_
    refine r_iload (x := l5) gX12_hire_29.2.2.2.2.2.2.2.2.2.2.1 rfl ?_
    refine r_iaload gX12_hire_29.2.2.2.2.2.2.2.2.2.2.2.1 (ar_65 hE) ?_
    refine r_iload_n (x := l1) gX12_hire_29.2.2.2.2.2.2.2.2.2.2.2.2.1 rfl ?_
    refine r_icmp_ne (t := 69) gX12_hire_29.2.2.2.2.2.2.2.2.2.2.2.2.2.1 rfl (fun h19 => ?_) (fun h19 => ?_)
    · refine r_aload_n (x := 60) gX12_hire_29.2.2.2.2.2.2.2.2.2.2.2.2.2.2.1 rfl ?_
      refine r_getA gX12_hire_29.2.2.2.2.2.2.2.2.2.2.2.2.2.2.2.1 (fa_12_30_60 hE) ?_
      refine r_iload (x := l5) gX12_hire_59.1 rfl ?_
      refine r_iaload gX12_hire_59.2.1 (ar_67 hE) ?_
      refine r_iconst (v := (4 : Int32)) gX12_hire_59.2.2.1 rfl ?_
      refine r_icmp_eq (t := 69) gX12_hire_59.2.2.2.1 rfl (fun h18 => ?_) (fun h18 => ?_)
      · exact r_sub (L' := [(0, .ref 60), (1, .int l1), (2, .int l2), (3, .int l3), (4, .int l4), (5, .int l5)]) (sub_c rfl (sub_c rfl (sub_c rfl (sub_c rfl (sub_c rfl (sub_c rfl sub_n)))))) (rb_X12_hire_69 hE hrec_35 q l1 l2 l3 l4 l5)
      · refine r_iinc (x := l4) (v := (l4 + (1 : Int32))) (L2 := [(0, .ref 60), (1, .int l1), (2, .int l2), (3, .int l3), (4, .int (l4 + (1 : Int32))), (5, .int l5)]) gX12_hire_59.2.2.2.2.1 rfl rfl rfl rfl ?_
        exact r_sub (L' := [(0, .ref 60), (1, .int l1), (2, .int l2), (3, .int l3), (4, .int (l4 + (1 : Int32))), (5, .int l5)]) (sub_c rfl (sub_c rfl (sub_c rfl (sub_c rfl (sub_c rfl (sub_c rfl sub_n)))))) (rb_X12_hire_69 hE hrec_35 q l1 l2 l3 (l4 + (1 : Int32)) l5)
    · exact r_sub (L' := [(0, .ref 60), (1, .int l1), (2, .int l2), (3, .int l3), (4, .int l4), (5, .int l5)]) (sub_c rfl (sub_c rfl (sub_c rfl (sub_c rfl (sub_c rfl (sub_c rfl sub_n)))))) (rb_X12_hire_69 hE hrec_35 q l1 l2 l3 l4 l5)
def f_X12_hire (q : SS) (a1 : Int32) (a2 : Int32) (a3 : Int32) : Option (Int32 × SS) :=
  (f_X12_isOne q a1).bind fun r1 =>
  if r1 = 0 then
  (some ((-1 : Int32), q))
  else
  ((f_X12_in q a2 (0 : Int32) (12 : Int32)).bind fun r2 =>
  if r2 = 0 then
  (some ((-1 : Int32), q))
  else
  ((f_X12_in q a3 (0 : Int32) (1 : Int32)).bind fun r3 =>
  if r3 = 0 then
  (some ((-1 : Int32), q))
  else
  (b_X12_hire_35 q a1 a2 a3 (0 : Int32) (0 : Int32))))
theorem e_X12_hire {E : EE} (hE : GE E) (q : SS) (a1 : Int32) (a2 : Int32) (a3 : Int32) : R E (κI E) 2 254 0 [(0, .ref 60), (1, .int a1), (2, .int a2), (3, .int a3)] [] q (f_X12_hire q a1 a2 a3) := by
  unfold f_X12_hire
  refine r_aload_n (x := 60) gX12_hire_0.1 rfl ?_
  refine r_iload_n (x := a1) gX12_hire_0.2.1 rfl ?_
  refine r_calli (k := 0) (idx := 125) (y := 191) (as := [.ref 60, .int a1]) (rest := []) (L0 := [(0, .ref 60), (1, .int a1)]) gX12_hire_0.2.2.1 rfl rfl rfl rfl rfl (vok_v (ob_60 hE) rfl) rfl (r_dep (by decide) (e_X12_isOne hE q a1)) (fun r1 => ?_)
  refine r_if_eq (t := 27) gX12_hire_0.2.2.2.1 rfl (fun h23 => ?_) (fun h23 => ?_)
  · refine r_iconst (v := (-1 : Int32)) gX12_hire_0.2.2.2.2.2.2.2.2.2.2.2.2.2.2.1 rfl ?_
    exact r_ireturn gX12_hire_0.2.2.2.2.2.2.2.2.2.2.2.2.2.2.2.1 rfl rfl
  · refine r_iload_n (x := a2) gX12_hire_0.2.2.2.2.1 rfl ?_
    refine r_iconst (v := (0 : Int32)) gX12_hire_0.2.2.2.2.2.1 rfl ?_
    refine r_bipush (v := (12 : Int32)) gX12_hire_0.2.2.2.2.2.2.1 rfl ?_
    refine r_calli (k := 2) (idx := 118) (y := 189) (as := [.int a2, .int (0 : Int32), .int (12 : Int32)]) (rest := []) (L0 := [(0, .int a2), (1, .int (0 : Int32)), (2, .int (12 : Int32))]) gX12_hire_0.2.2.2.2.2.2.2.1 rfl rfl rfl rfl rfl vok_s rfl (r_dep (by decide) (e_X12_in hE q a2 (0 : Int32) (12 : Int32))) (fun r2 => ?_)
    refine r_if_eq (t := 27) gX12_hire_0.2.2.2.2.2.2.2.2.1 rfl (fun h22 => ?_) (fun h22 => ?_)
    · refine r_iconst (v := (-1 : Int32)) gX12_hire_0.2.2.2.2.2.2.2.2.2.2.2.2.2.2.1 rfl ?_
      exact r_ireturn gX12_hire_0.2.2.2.2.2.2.2.2.2.2.2.2.2.2.2.1 rfl rfl
    · refine r_iload_n (x := a3) gX12_hire_0.2.2.2.2.2.2.2.2.2.1 rfl ?_
      refine r_iconst (v := (0 : Int32)) gX12_hire_0.2.2.2.2.2.2.2.2.2.2.1 rfl ?_
      refine r_iconst (v := (1 : Int32)) gX12_hire_0.2.2.2.2.2.2.2.2.2.2.2.1 rfl ?_
      refine r_calli (k := 2) (idx := 118) (y := 189) (as := [.int a3, .int (0 : Int32), .int (1 : Int32)]) (rest := []) (L0 := [(0, .int a3), (1, .int (0 : Int32)), (2, .int (1 : Int32))]) gX12_hire_0.2.2.2.2.2.2.2.2.2.2.2.2.1 rfl rfl rfl rfl rfl vok_s rfl (r_dep (by decide) (e_X12_in hE q a3 (0 : Int32) (1 : Int32))) (fun r3 => ?_)
      refine r_if_ne (t := 29) gX12_hire_0.2.2.2.2.2.2.2.2.2.2.2.2.2.1 rfl (fun h21 => ?_) (fun h21 => ?_)
      · refine r_iconst (v := (-1 : Int32)) gX12_hire_0.2.2.2.2.2.2.2.2.2.2.2.2.2.2.1 rfl ?_
        exact r_ireturn gX12_hire_0.2.2.2.2.2.2.2.2.2.2.2.2.2.2.2.1 rfl rfl
      · refine r_iconst (v := (0 : Int32)) gX12_hire_29.1 rfl ?_
        refine r_istore (L2 := [(0, .ref 60), (1, .int a1), (2, .int a2), (3, .int a3), (4, .int (0 : Int32))]) gX12_hire_29.2.1 rfl rfl ?_
        refine r_iconst (v := (0 : Int32)) gX12_hire_29.2.2.1 rfl ?_
        refine r_istore (L2 := [(0, .ref 60), (1, .int a1), (2, .int a2), (3, .int a3), (4, .int (0 : Int32)), (5, .int (0 : Int32))]) gX12_hire_29.2.2.2.1 rfl rfl ?_
        exact r_sub (L' := [(0, .ref 60), (1, .int a1), (2, .int a2), (3, .int a3), (4, .int (0 : Int32)), (5, .int (0 : Int32))]) (sub_c rfl (sub_c rfl (sub_c rfl (sub_c rfl (sub_c rfl (sub_c rfl sub_n)))))) (rb_X12_hire_35 hE q a1 a2 a3 (0 : Int32) (0 : Int32))
def b_X6_sortTickets_101 (rec_38 : SS → Int32 → Option SS) (q : SS) (l1 : Int32) : Option SS :=
  rec_38 q (l1 + (-1 : Int32))
theorem rb_X6_sortTickets_101 {E : EE} (hE : GE E) {rec_38 : SS → Int32 → Option SS} (hrec_38 : ∀ (yq : SS) (yl1 : Int32), R E (κV E) 3 68 38 [(0, .ref 42), (1, .int yl1)] [] yq (rec_38 yq yl1)) (q : SS) (l1 : Int32) : R E (κV E) 3 68 101 [(0, .ref 42), (1, .int l1)] [] q (b_X6_sortTickets_101 rec_38 q l1) := by
  unfold b_X6_sortTickets_101
  refine r_iinc (x := l1) (v := (l1 + (-1 : Int32))) (L2 := [(0, .ref 42), (1, .int (l1 + (-1 : Int32)))]) gX6_sortTickets_88.2.2.2.2.2.2.2.2.2.2.2.1 rfl rfl rfl rfl ?_
  refine r_goto (t := 38) gX6_sortTickets_88.2.2.2.2.2.2.2.2.2.2.2.2.1 rfl ?_
  exact r_sub (L' := [(0, .ref 42), (1, .int (l1 + (-1 : Int32)))]) (sub_c rfl (sub_c rfl sub_n)) (hrec_38 q (l1 + (-1 : Int32)))
def b_X6_sortTickets_38 : SS → Int32 → Option SS :=
  fx2 (fun (rec_38 : SS → Int32 → Option SS) (q : SS) (l1 : Int32) =>
  if l1 < 0 then
  (some q)
  else
  ((f_X10_get q (6 : Int32) l1).bind fun r3 =>
  if (4 : Int32) ≤ r3 then
  (b_X6_sortTickets_101 rec_38 q l1)
  else
  ((f_X10_isReal q l1).bind fun r4 =>
  if r4 = 0 then
  (b_X6_sortTickets_101 rec_38 q l1)
  else
  ((f_X8_holderOf q l1).bind fun r5 =>
  if r5 = (q.1 42 6) then
  (if vin r3 4 then
  if vin r3 4 then
  nm (sI q 43 r3.toNatClampNeg ((q.1 43 r3.toNatClampNeg) + (1 : Int32))) fun q6 =>
  if vin r3 4 then
  nm (sI q6 44 r3.toNatClampNeg l1) fun q7 =>
  b_X6_sortTickets_101 rec_38 q7 l1
  else none
  else none
  else none)
  else
  (b_X6_sortTickets_101 rec_38 q l1))))) FU
theorem rb_X6_sortTickets_38 {E : EE} (hE : GE E) (q : SS) (l1 : Int32) : R E (κV E) 3 68 38 [(0, .ref 42), (1, .int l1)] [] q (b_X6_sortTickets_38 q l1) := by
  unfold b_X6_sortTickets_38
  refine fx2_ok (P := fun q l1 o => R E (κV E) 3 68 38 [(0, .ref 42), (1, .int l1)] [] q o) (fun _ _ => r_no) (fun rec_38 hrec_38 q l1 => ?_) _ _ _
  refine r_iload_n (x := l1) gX6_sortTickets_25.2.2.2.2.2.2.2.1 rfl ?_
  refine r_if_lt (t := 107) gX6_sortTickets_25.2.2.2.2.2.2.2.2.1 rfl (fun h11 => ?_) (fun h11 => ?_)
  · exact r_return gX6_sortTickets_88.2.2.2.2.2.2.2.2.2.2.2.2.2.1 rfl rfl
  · refine r_aload_n (x := 42) gX6_sortTickets_25.2.2.2.2.2.2.2.2.2.1 rfl ?_
    refine r_getA gX6_sortTickets_25.2.2.2.2.2.2.2.2.2.2.1 (fa_6_9_42 hE) ?_
    refine r_bipush (v := (6 : Int32)) gX6_sortTickets_25.2.2.2.2.2.2.2.2.2.2.2.1 rfl ?_
    refine r_iload_n (x := l1) gX6_sortTickets_25.2.2.2.2.2.2.2.2.2.2.2.2.1 rfl ?_
    refine r_calli (k := 0) (idx := 69) (y := 134) (as := [.ref 1, .int (6 : Int32), .int l1]) (rest := []) (L0 := [(0, .ref 1), (1, .int (6 : Int32)), (2, .int l1)]) gX6_sortTickets_25.2.2.2.2.2.2.2.2.2.2.2.2.2.1 rfl rfl rfl rfl rfl (vok_v (ob_1 hE) rfl) rfl (r_dep (by decide) (e_X10_get hE q (6 : Int32) l1)) (fun r3 => ?_)
    refine r_istore_n (L2 := [(0, .ref 42), (1, .int l1), (2, .int r3)]) gX6_sortTickets_25.2.2.2.2.2.2.2.2.2.2.2.2.2.2.1 rfl rfl ?_
    refine r_iload_n (x := r3) gX6_sortTickets_25.2.2.2.2.2.2.2.2.2.2.2.2.2.2.2.1 rfl ?_
    refine r_iconst (v := (4 : Int32)) gX6_sortTickets_54.1 rfl ?_
    refine r_icmp_ge (t := 101) gX6_sortTickets_54.2.1 rfl (fun h10 => ?_) (fun h10 => ?_)
    · exact r_sub (L' := [(0, .ref 42), (1, .int l1)]) (sub_c rfl (sub_c rfl sub_n)) (rb_X6_sortTickets_101 hE hrec_38 q l1)
    · refine r_aload_n (x := 42) gX6_sortTickets_54.2.2.1 rfl ?_
      refine r_getA gX6_sortTickets_54.2.2.2.1 (fa_6_9_42 hE) ?_
      refine r_iload_n (x := l1) gX6_sortTickets_54.2.2.2.2.1 rfl ?_
      refine r_calli (k := 0) (idx := 73) (y := 131) (as := [.ref 1, .int l1]) (rest := []) (L0 := [(0, .ref 1), (1, .int l1)]) gX6_sortTickets_54.2.2.2.2.2.1 rfl rfl rfl rfl rfl (vok_v (ob_1 hE) rfl) rfl (r_dep (by decide) (e_X10_isReal hE q l1)) (fun r4 => ?_)
      refine r_if_eq (t := 101) gX6_sortTickets_54.2.2.2.2.2.2.1 rfl (fun h9 => ?_) (fun h9 => ?_)
      · exact r_sub (L' := [(0, .ref 42), (1, .int l1)]) (sub_c rfl (sub_c rfl sub_n)) (rb_X6_sortTickets_101 hE hrec_38 q l1)
      · refine r_aload_n (x := 42) gX6_sortTickets_54.2.2.2.2.2.2.2.1 rfl ?_
        refine r_getA gX6_sortTickets_54.2.2.2.2.2.2.2.2.1 (fa_6_15_42 hE) ?_
        refine r_iload_n (x := l1) gX6_sortTickets_54.2.2.2.2.2.2.2.2.2.1 rfl ?_
        refine r_calli (k := 0) (idx := 77) (y := 98) (as := [.ref 24, .int l1]) (rest := []) (L0 := [(0, .ref 24), (1, .int l1)]) gX6_sortTickets_54.2.2.2.2.2.2.2.2.2.2.1 rfl rfl rfl rfl rfl (vok_v (ob_24 hE) rfl) rfl (r_dep (by decide) (e_X8_holderOf hE q l1)) (fun r5 => ?_)
        refine r_aload_n (x := 42) gX6_sortTickets_54.2.2.2.2.2.2.2.2.2.2.2.1 rfl ?_
        refine r_getI gX6_sortTickets_54.2.2.2.2.2.2.2.2.2.2.2.2.1 (ff_6_37_42 hE) (by decide) ?_
        refine r_icmp_ne (t := 101) gX6_sortTickets_54.2.2.2.2.2.2.2.2.2.2.2.2.2.1 rfl (fun h8 => ?_) (fun h8 => ?_)
        · refine r_aload_n (x := 42) gX6_sortTickets_54.2.2.2.2.2.2.2.2.2.2.2.2.2.2.1 rfl ?_
          refine r_getA gX6_sortTickets_54.2.2.2.2.2.2.2.2.2.2.2.2.2.2.2.1 (fa_6_19_42 hE) ?_
          refine r_iload_n (x := r3) gX6_sortTickets_88.1 rfl ?_
          refine r_dup2 gX6_sortTickets_88.2.1 ⟨rfl, rfl⟩ ?_
          refine r_iaload gX6_sortTickets_88.2.2.1 (ar_43 hE) ?_
          refine r_iconst (v := (1 : Int32)) gX6_sortTickets_88.2.2.2.1 rfl ?_
          refine r_iadd gX6_sortTickets_88.2.2.2.2.1 ?_
          refine r_iastore gX6_sortTickets_88.2.2.2.2.2.1 (ar_43 hE) ?_
          refine r_nmS fun q6 _ => ?_
          refine r_aload_n (x := 42) gX6_sortTickets_88.2.2.2.2.2.2.1 rfl ?_
          refine r_getA gX6_sortTickets_88.2.2.2.2.2.2.2.1 (fa_6_23_42 hE) ?_
          refine r_iload_n (x := r3) gX6_sortTickets_88.2.2.2.2.2.2.2.2.1 rfl ?_
          refine r_iload_n (x := l1) gX6_sortTickets_88.2.2.2.2.2.2.2.2.2.1 rfl ?_
          refine r_iastore gX6_sortTickets_88.2.2.2.2.2.2.2.2.2.2.1 (ar_44 hE) ?_
          refine r_nmS fun q7 _ => ?_
          exact r_sub (L' := [(0, .ref 42), (1, .int l1)]) (sub_c rfl (sub_c rfl sub_n)) (rb_X6_sortTickets_101 hE hrec_38 q7 l1)
        · exact r_sub (L' := [(0, .ref 42), (1, .int l1)]) (sub_c rfl (sub_c rfl sub_n)) (rb_X6_sortTickets_101 hE hrec_38 q l1)
def b_X6_sortTickets_2 : SS → Int32 → Option SS :=
  fx2 (fun (rec_2 : SS → Int32 → Option SS) (q : SS) (l1 : Int32) =>
  if (4 : Int32) ≤ l1 then
  ((f_X10_tickets q).bind fun r1 =>
  nm (r1 - (1 : Int32)) fun v2 =>
  b_X6_sortTickets_38 q v2)
  else
  (if vin l1 4 then
  nm (sI q 43 l1.toNatClampNeg (0 : Int32)) fun q12 =>
  if vin l1 4 then
  nm (sI q12 44 l1.toNatClampNeg (-2 : Int32)) fun q13 =>
  rec_2 q13 (l1 + (1 : Int32))
  else none
  else none)) FU
theorem rb_X6_sortTickets_2 {E : EE} (hE : GE E) (q : SS) (l1 : Int32) : R E (κV E) 3 68 2 [(0, .ref 42), (1, .int l1)] [] q (b_X6_sortTickets_2 q l1) := by
  unfold b_X6_sortTickets_2
  refine fx2_ok (P := fun q l1 o => R E (κV E) 3 68 2 [(0, .ref 42), (1, .int l1)] [] q o) (fun _ _ => r_no) (fun rec_2 hrec_2 q l1 => ?_) _ _ _
  refine r_iload_n (x := l1) gX6_sortTickets_0.2.2.1 rfl ?_
  refine r_iconst (v := (4 : Int32)) gX6_sortTickets_0.2.2.2.1 rfl ?_
  refine r_icmp_ge (t := 28) gX6_sortTickets_0.2.2.2.2.1 rfl (fun h14 => ?_) (fun h14 => ?_)
  · refine r_aload_n (x := 42) gX6_sortTickets_25.2.1 rfl ?_
    refine r_getA gX6_sortTickets_25.2.2.1 (fa_6_9_42 hE) ?_
    refine r_calli (k := 0) (idx := 64) (y := 126) (as := [.ref 1]) (rest := []) (L0 := [(0, .ref 1)]) gX6_sortTickets_25.2.2.2.1 rfl rfl rfl rfl rfl (vok_v (ob_1 hE) rfl) rfl (r_dep (by decide) (e_X10_tickets hE q)) (fun r1 => ?_)
    refine r_iconst (v := (1 : Int32)) gX6_sortTickets_25.2.2.2.2.1 rfl ?_
    refine r_isub gX6_sortTickets_25.2.2.2.2.2.1 ?_
    refine r_nmI fun v2 _ => ?_
    refine r_istore_n (L2 := [(0, .ref 42), (1, .int v2)]) gX6_sortTickets_25.2.2.2.2.2.2.1 rfl rfl ?_
    exact r_sub (L' := [(0, .ref 42), (1, .int v2)]) (sub_c rfl (sub_c rfl sub_n)) (rb_X6_sortTickets_38 hE q v2)
  · refine r_aload_n (x := 42) gX6_sortTickets_0.2.2.2.2.2.1 rfl ?_
    refine r_getA gX6_sortTickets_0.2.2.2.2.2.2.1 (fa_6_19_42 hE) ?_
    refine r_iload_n (x := l1) gX6_sortTickets_0.2.2.2.2.2.2.2.1 rfl ?_
    refine r_iconst (v := (0 : Int32)) gX6_sortTickets_0.2.2.2.2.2.2.2.2.1 rfl ?_
    refine r_iastore gX6_sortTickets_0.2.2.2.2.2.2.2.2.2.1 (ar_43 hE) ?_
    refine r_nmS fun q12 _ => ?_
    refine r_aload_n (x := 42) gX6_sortTickets_0.2.2.2.2.2.2.2.2.2.2.1 rfl ?_
    refine r_getA gX6_sortTickets_0.2.2.2.2.2.2.2.2.2.2.2.1 (fa_6_23_42 hE) ?_
    refine r_iload_n (x := l1) gX6_sortTickets_0.2.2.2.2.2.2.2.2.2.2.2.2.1 rfl ?_
    refine r_bipush (v := (-2 : Int32)) gX6_sortTickets_0.2.2.2.2.2.2.2.2.2.2.2.2.2.1 rfl ?_
    refine r_iastore gX6_sortTickets_0.2.2.2.2.2.2.2.2.2.2.2.2.2.2.1 (ar_44 hE) ?_
    refine r_nmS fun q13 _ => ?_
    refine r_iinc (x := l1) (v := (l1 + (1 : Int32))) (L2 := [(0, .ref 42), (1, .int (l1 + (1 : Int32)))]) gX6_sortTickets_0.2.2.2.2.2.2.2.2.2.2.2.2.2.2.2.1 rfl rfl rfl rfl ?_
    refine r_goto (t := 2) gX6_sortTickets_25.1 rfl ?_
    exact r_sub (L' := [(0, .ref 42), (1, .int (l1 + (1 : Int32)))]) (sub_c rfl (sub_c rfl sub_n)) (hrec_2 q13 (l1 + (1 : Int32)))
def f_X6_sortTickets (q : SS)  : Option SS :=
  b_X6_sortTickets_2 q (0 : Int32)
theorem e_X6_sortTickets {E : EE} (hE : GE E) (q : SS)  : R E (κV E) 3 68 0 [(0, .ref 42)] [] q (f_X6_sortTickets q) := by
  unfold f_X6_sortTickets
  refine r_iconst (v := (0 : Int32)) gX6_sortTickets_0.1 rfl ?_
  refine r_istore_n (L2 := [(0, .ref 42), (1, .int (0 : Int32))]) gX6_sortTickets_0.2.1 rfl rfl ?_
  exact r_sub (L' := [(0, .ref 42), (1, .int (0 : Int32))]) (sub_c rfl (sub_c rfl sub_n)) (rb_X6_sortTickets_2 hE q (0 : Int32))
def f_X6_placeOf (q : SS) (a0 : Int32) (a1 : Int32) (a2 : Int32) (a3 : Int32) : Option Int32 :=
  some ((((((a0 * (6 : Int32)) + a1) * (3 : Int32)) + a2) * (4 : Int32)) + a3)
theorem e_X6_placeOf {E : EE} (hE : GE E) (q : SS) (a0 : Int32) (a1 : Int32) (a2 : Int32) (a3 : Int32) : R E (κi E q) 0 70 0 [(0, .int a0), (1, .int a1), (2, .int a2), (3, .int a3)] [] q (f_X6_placeOf q a0 a1 a2 a3) := by
  unfold f_X6_placeOf
  refine r_iload_n (x := a0) gX6_placeOf_0.1 rfl ?_
  refine r_bipush (v := (6 : Int32)) gX6_placeOf_0.2.1 rfl ?_
  refine r_imul gX6_placeOf_0.2.2.1 ?_
  refine r_iload_n (x := a1) gX6_placeOf_0.2.2.2.1 rfl ?_
  refine r_iadd gX6_placeOf_0.2.2.2.2.1 ?_
  refine r_iconst (v := (3 : Int32)) gX6_placeOf_0.2.2.2.2.2.1 rfl ?_
  refine r_imul gX6_placeOf_0.2.2.2.2.2.2.1 ?_
  refine r_iload_n (x := a2) gX6_placeOf_0.2.2.2.2.2.2.2.1 rfl ?_
  refine r_iadd gX6_placeOf_0.2.2.2.2.2.2.2.2.1 ?_
  refine r_iconst (v := (4 : Int32)) gX6_placeOf_0.2.2.2.2.2.2.2.2.2.1 rfl ?_
  refine r_imul gX6_placeOf_0.2.2.2.2.2.2.2.2.2.2.1 ?_
  refine r_iload_n (x := a3) gX6_placeOf_0.2.2.2.2.2.2.2.2.2.2.2.1 rfl ?_
  refine r_iadd gX6_placeOf_0.2.2.2.2.2.2.2.2.2.2.2.2.1 ?_
  exact r_ireturn gX6_placeOf_0.2.2.2.2.2.2.2.2.2.2.2.2.2.1 rfl rfl
def b_X6_workOutHour_114 (rec_17 : SS → Int32 → Int32 → Int32 → Option SS) (rec_41 : SS → Int32 → Int32 → Int32 → Int32 → Int32 → Option SS) (rec_50 : SS → Int32 → Int32 → Int32 → Int32 → Int32 → Int32 → Option SS) (q : SS) (l1 : Int32) (l2 : Int32) (l3 : Int32) (l4 : Int32) (l5 : Int32) (l6 : Int32) : Option SS :=
  rec_50 q l1 l2 l3 l4 l5 (l6 + (1 : Int32))
theorem rb_X6_workOutHour_114 {E : EE} (hE : GE E) {rec_17 : SS → Int32 → Int32 → Int32 → Option SS} (hrec_17 : ∀ (yq : SS) (yl1 : Int32) (yl2 : Int32) (yl3 : Int32), R E (κV E) 4 69 17 [(0, .ref 42), (1, .int yl1), (2, .int yl2), (3, .int yl3)] [] yq (rec_17 yq yl1 yl2 yl3)) {rec_41 : SS → Int32 → Int32 → Int32 → Int32 → Int32 → Option SS} (hrec_41 : ∀ (yq : SS) (yl1 : Int32) (yl2 : Int32) (yl3 : Int32) (yl4 : Int32) (yl5 : Int32), R E (κV E) 4 69 41 [(0, .ref 42), (1, .int yl1), (2, .int yl2), (3, .int yl3), (4, .int yl4), (5, .int yl5)] [] yq (rec_41 yq yl1 yl2 yl3 yl4 yl5)) {rec_50 : SS → Int32 → Int32 → Int32 → Int32 → Int32 → Int32 → Option SS} (hrec_50 : ∀ (yq : SS) (yl1 : Int32) (yl2 : Int32) (yl3 : Int32) (yl4 : Int32) (yl5 : Int32) (yl6 : Int32), R E (κV E) 4 69 50 [(0, .ref 42), (1, .int yl1), (2, .int yl2), (3, .int yl3), (4, .int yl4), (5, .int yl5), (6, .int yl6)] [] yq (rec_50 yq yl1 yl2 yl3 yl4 yl5 yl6)) (q : SS) (l1 : Int32) (l2 : Int32) (l3 : Int32) (l4 : Int32) (l5 : Int32) (l6 : Int32) : R E (κV E) 4 69 114 [(0, .ref 42), (1, .int l1), (2, .int l2), (3, .int l3), (4, .int l4), (5, .int l5), (6, .int l6)] [] q (b_X6_workOutHour_114 rec_17 rec_41 rec_50 q l1 l2 l3 l4 l5 l6) := by
  unfold b_X6_workOutHour_114
  refine r_iinc (x := l6) (v := (l6 + (1 : Int32))) (L2 := [(0, .ref 42), (1, .int l1), (2, .int l2), (3, .int l3), (4, .int l4), (5, .int l5), (6, .int (l6 + (1 : Int32)))]) gX6_workOutHour_91.2.2.2.2.2.2.2.2.2.2.2.2.2.1 rfl rfl rfl rfl ?_
  refine r_goto (t := 50) gX6_workOutHour_91.2.2.2.2.2.2.2.2.2.2.2.2.2.2.1 rfl ?_
  exact r_sub (L' := [(0, .ref 42), (1, .int l1), (2, .int l2), (3, .int l3), (4, .int l4), (5, .int l5), (6, .int (l6 + (1 : Int32)))]) (sub_c rfl (sub_c rfl (sub_c rfl (sub_c rfl (sub_c rfl (sub_c rfl (sub_c rfl sub_n))))))) (hrec_50 q l1 l2 l3 l4 l5 (l6 + (1 : Int32)))
def b_X6_workOutHour_50 (rec_17 : SS → Int32 → Int32 → Int32 → Option SS) (rec_41 : SS → Int32 → Int32 → Int32 → Int32 → Int32 → Option SS) : SS → Int32 → Int32 → Int32 → Int32 → Int32 → Int32 → Option SS :=
  fx7 (fun (rec_50 : SS → Int32 → Int32 → Int32 → Int32 → Int32 → Int32 → Option SS) (q : SS) (l1 : Int32) (l2 : Int32) (l3 : Int32) (l4 : Int32) (l5 : Int32) (l6 : Int32) =>
  if (4 : Int32) ≤ l6 then
  (rec_41 q l1 l2 l3 l4 (l5 + (1 : Int32)))
  else
  ((f_X6_placeOf q l1 l3 l5 l6).bind fun r5 =>
  if (216 : Int32) ≤ r5 then
  (b_X6_workOutHour_114 rec_17 rec_41 rec_50 q l1 l2 l3 l4 l5 l6)
  else
  (if vin l6 4 then
  if (q.1 43 l6.toNatClampNeg) ≤ 0 then
  (b_X6_workOutHour_114 rec_17 rec_41 rec_50 q l1 l2 l3 l4 l5 l6)
  else
  ((f_X8_oddsBy q (q.1 42 6) l3 (l4 + l5) l6 l2).bind fun r6 =>
  if vin r5 216 then
  nm (sI r6.2 46 r5.toNatClampNeg r6.1) fun q7 =>
  b_X6_workOutHour_114 rec_17 rec_41 rec_50 q7 l1 l2 l3 l4 l5 l6
  else none)
  else none))) FU
theorem rb_X6_workOutHour_50 {E : EE} (hE : GE E) {rec_17 : SS → Int32 → Int32 → Int32 → Option SS} (hrec_17 : ∀ (yq : SS) (yl1 : Int32) (yl2 : Int32) (yl3 : Int32), R E (κV E) 4 69 17 [(0, .ref 42), (1, .int yl1), (2, .int yl2), (3, .int yl3)] [] yq (rec_17 yq yl1 yl2 yl3)) {rec_41 : SS → Int32 → Int32 → Int32 → Int32 → Int32 → Option SS} (hrec_41 : ∀ (yq : SS) (yl1 : Int32) (yl2 : Int32) (yl3 : Int32) (yl4 : Int32) (yl5 : Int32), R E (κV E) 4 69 41 [(0, .ref 42), (1, .int yl1), (2, .int yl2), (3, .int yl3), (4, .int yl4), (5, .int yl5)] [] yq (rec_41 yq yl1 yl2 yl3 yl4 yl5)) (q : SS) (l1 : Int32) (l2 : Int32) (l3 : Int32) (l4 : Int32) (l5 : Int32) (l6 : Int32) : R E (κV E) 4 69 50 [(0, .ref 42), (1, .int l1), (2, .int l2), (3, .int l3), (4, .int l4), (5, .int l5), (6, .int l6)] [] q (b_X6_workOutHour_50 rec_17 rec_41 q l1 l2 l3 l4 l5 l6) := by
  unfold b_X6_workOutHour_50
  refine fx7_ok (P := fun q l1 l2 l3 l4 l5 l6 o => R E (κV E) 4 69 50 [(0, .ref 42), (1, .int l1), (2, .int l2), (3, .int l3), (4, .int l4), (5, .int l5), (6, .int l6)] [] q o) (fun _ _ _ _ _ _ _ => r_no) (fun rec_50 hrec_50 q l1 l2 l3 l4 l5 l6 => ?_) _ _ _ _ _ _ _ _
  refine r_iload (x := l6) gX6_workOutHour_29.2.2.2.2.2.2.2.2.2.2.2.1 rfl ?_
  refine r_iconst (v := (4 : Int32)) gX6_workOutHour_29.2.2.2.2.2.2.2.2.2.2.2.2.1 rfl ?_
  refine r_icmp_ge (t := 120) gX6_workOutHour_29.2.2.2.2.2.2.2.2.2.2.2.2.2.1 rfl (fun h10 => ?_) (fun h10 => ?_)
  · refine r_iinc (x := l5) (v := (l5 + (1 : Int32))) (L2 := [(0, .ref 42), (1, .int l1), (2, .int l2), (3, .int l3), (4, .int l4), (5, .int (l5 + (1 : Int32))), (6, .int l6)]) gX6_workOutHour_91.2.2.2.2.2.2.2.2.2.2.2.2.2.2.2.1 rfl rfl rfl rfl ?_
    refine r_goto (t := 41) gX6_workOutHour_123.1 rfl ?_
    exact r_sub (L' := [(0, .ref 42), (1, .int l1), (2, .int l2), (3, .int l3), (4, .int l4), (5, .int (l5 + (1 : Int32)))]) (sub_c rfl (sub_c rfl (sub_c rfl (sub_c rfl (sub_c rfl (sub_c rfl sub_n)))))) (hrec_41 q l1 l2 l3 l4 (l5 + (1 : Int32)))
  · refine r_iload_n (x := l1) gX6_workOutHour_29.2.2.2.2.2.2.2.2.2.2.2.2.2.2.1 rfl ?_
    refine r_iload_n (x := l3) gX6_workOutHour_29.2.2.2.2.2.2.2.2.2.2.2.2.2.2.2.1 rfl ?_
    refine r_iload (x := l5) gX6_workOutHour_58.1 rfl ?_
    refine r_iload (x := l6) gX6_workOutHour_58.2.1 rfl ?_
    refine r_calli (k := 2) (idx := 94) (y := 70) (as := [.int l1, .int l3, .int l5, .int l6]) (rest := []) (L0 := [(0, .int l1), (1, .int l3), (2, .int l5), (3, .int l6)]) gX6_workOutHour_58.2.2.1 rfl rfl rfl rfl rfl vok_s rfl (r_dep (by decide) (e_X6_placeOf hE q l1 l3 l5 l6)) (fun r5 => ?_)
    refine r_istore (L2 := [(0, .ref 42), (1, .int l1), (2, .int l2), (3, .int l3), (4, .int l4), (5, .int l5), (6, .int l6), (7, .int r5)]) gX6_workOutHour_58.2.2.2.1 rfl rfl ?_
    refine r_iload (x := r5) gX6_workOutHour_58.2.2.2.2.1 rfl ?_
    refine r_aload_n (x := 42) gX6_workOutHour_58.2.2.2.2.2.1 rfl ?_
    refine r_getA gX6_workOutHour_58.2.2.2.2.2.2.1 (fa_6_29_42 hE) ?_
    refine r_len (v := (216 : Int32)) gX6_workOutHour_58.2.2.2.2.2.2.2.1 (ar_46 hE) (by decide) rfl ?_
    refine r_icmp_ge (t := 114) gX6_workOutHour_58.2.2.2.2.2.2.2.2.1 rfl (fun h9 => ?_) (fun h9 => ?_)
    · exact r_sub (L' := [(0, .ref 42), (1, .int l1), (2, .int l2), (3, .int l3), (4, .int l4), (5, .int l5), (6, .int l6)]) (sub_c rfl (sub_c rfl (sub_c rfl (sub_c rfl (sub_c rfl (sub_c rfl (sub_c rfl sub_n))))))) (rb_X6_workOutHour_114 hE hrec_17 hrec_41 hrec_50 q l1 l2 l3 l4 l5 l6)
    · refine r_aload_n (x := 42) gX6_workOutHour_58.2.2.2.2.2.2.2.2.2.1 rfl ?_
      refine r_getA gX6_workOutHour_58.2.2.2.2.2.2.2.2.2.2.1 (fa_6_19_42 hE) ?_
      refine r_iload (x := l6) gX6_workOutHour_58.2.2.2.2.2.2.2.2.2.2.2.1 rfl ?_
      refine r_iaload gX6_workOutHour_58.2.2.2.2.2.2.2.2.2.2.2.2.1 (ar_43 hE) ?_
      refine r_if_le (t := 114) gX6_workOutHour_58.2.2.2.2.2.2.2.2.2.2.2.2.2.1 rfl (fun h8 => ?_) (fun h8 => ?_)
      · exact r_sub (L' := [(0, .ref 42), (1, .int l1), (2, .int l2), (3, .int l3), (4, .int l4), (5, .int l5), (6, .int l6)]) (sub_c rfl (sub_c rfl (sub_c rfl (sub_c rfl (sub_c rfl (sub_c rfl (sub_c rfl sub_n))))))) (rb_X6_workOutHour_114 hE hrec_17 hrec_41 hrec_50 q l1 l2 l3 l4 l5 l6)
      · refine r_aload_n (x := 42) gX6_workOutHour_58.2.2.2.2.2.2.2.2.2.2.2.2.2.2.1 rfl ?_
        refine r_getA gX6_workOutHour_58.2.2.2.2.2.2.2.2.2.2.2.2.2.2.2.1 (fa_6_29_42 hE) ?_
        refine r_iload (x := r5) gX6_workOutHour_91.1 rfl ?_
        refine r_aload_n (x := 42) gX6_workOutHour_91.2.1 rfl ?_
        refine r_getA gX6_workOutHour_91.2.2.1 (fa_6_15_42 hE) ?_
        refine r_aload_n (x := 42) gX6_workOutHour_91.2.2.2.1 rfl ?_
        refine r_getI gX6_workOutHour_91.2.2.2.2.1 (ff_6_37_42 hE) (by decide) ?_
        refine r_iload_n (x := l3) gX6_workOutHour_91.2.2.2.2.2.1 rfl ?_
        refine r_iload (x := l4) gX6_workOutHour_91.2.2.2.2.2.2.1 rfl ?_
        refine r_iload (x := l5) gX6_workOutHour_91.2.2.2.2.2.2.2.1 rfl ?_
        refine r_iadd gX6_workOutHour_91.2.2.2.2.2.2.2.2.1 ?_
        refine r_iload (x := l6) gX6_workOutHour_91.2.2.2.2.2.2.2.2.2.1 rfl ?_
        refine r_iload_n (x := l2) gX6_workOutHour_91.2.2.2.2.2.2.2.2.2.2.1 rfl ?_
        refine r_callI (k := 0) (idx := 98) (y := 110) (as := [.ref 24, .int (q.1 42 6), .int l3, .int (l4 + l5), .int l6, .int l2]) (rest := [.int r5, .ref 46]) (L0 := [(0, .ref 24), (1, .int (q.1 42 6)), (2, .int l3), (3, .int (l4 + l5)), (4, .int l6), (5, .int l2)]) gX6_workOutHour_91.2.2.2.2.2.2.2.2.2.2.2.1 rfl rfl rfl rfl rfl (vok_v (ob_24 hE) rfl) rfl (r_dep (by decide) (e_X8_oddsBy hE q (q.1 42 6) l3 (l4 + l5) l6 l2)) (fun r6 => ?_)
        refine r_iastore gX6_workOutHour_91.2.2.2.2.2.2.2.2.2.2.2.2.1 (ar_46 hE) ?_
        refine r_nmS fun q7 _ => ?_
        exact r_sub (L' := [(0, .ref 42), (1, .int l1), (2, .int l2), (3, .int l3), (4, .int l4), (5, .int l5), (6, .int l6)]) (sub_c rfl (sub_c rfl (sub_c rfl (sub_c rfl (sub_c rfl (sub_c rfl (sub_c rfl sub_n))))))) (rb_X6_workOutHour_114 hE hrec_17 hrec_41 hrec_50 q7 l1 l2 l3 l4 l5 l6)
def b_X6_workOutHour_41 (rec_17 : SS → Int32 → Int32 → Int32 → Option SS) : SS → Int32 → Int32 → Int32 → Int32 → Int32 → Option SS :=
  fx6 (fun (rec_41 : SS → Int32 → Int32 → Int32 → Int32 → Int32 → Option SS) (q : SS) (l1 : Int32) (l2 : Int32) (l3 : Int32) (l4 : Int32) (l5 : Int32) =>
  if l1 < l5 then
  (rec_17 q l1 l2 (l3 + (1 : Int32)))
  else
  (b_X6_workOutHour_50 rec_17 rec_41 q l1 l2 l3 l4 l5 (0 : Int32))) FU
theorem rb_X6_workOutHour_41 {E : EE} (hE : GE E) {rec_17 : SS → Int32 → Int32 → Int32 → Option SS} (hrec_17 : ∀ (yq : SS) (yl1 : Int32) (yl2 : Int32) (yl3 : Int32), R E (κV E) 4 69 17 [(0, .ref 42), (1, .int yl1), (2, .int yl2), (3, .int yl3)] [] yq (rec_17 yq yl1 yl2 yl3)) (q : SS) (l1 : Int32) (l2 : Int32) (l3 : Int32) (l4 : Int32) (l5 : Int32) : R E (κV E) 4 69 41 [(0, .ref 42), (1, .int l1), (2, .int l2), (3, .int l3), (4, .int l4), (5, .int l5)] [] q (b_X6_workOutHour_41 rec_17 q l1 l2 l3 l4 l5) := by
  unfold b_X6_workOutHour_41
  refine fx6_ok (P := fun q l1 l2 l3 l4 l5 o => R E (κV E) 4 69 41 [(0, .ref 42), (1, .int l1), (2, .int l2), (3, .int l3), (4, .int l4), (5, .int l5)] [] q o) (fun _ _ _ _ _ _ => r_no) (fun rec_41 hrec_41 q l1 l2 l3 l4 l5 => ?_) _ _ _ _ _ _ _
  refine r_iload (x := l5) gX6_workOutHour_29.2.2.2.2.2.2.1 rfl ?_
  refine r_iload_n (x := l1) gX6_workOutHour_29.2.2.2.2.2.2.2.1 rfl ?_
  refine r_icmp_gt (t := 126) gX6_workOutHour_29.2.2.2.2.2.2.2.2.1 rfl (fun h11 => ?_) (fun h11 => ?_)
  · refine r_iinc (x := l3) (v := (l3 + (1 : Int32))) (L2 := [(0, .ref 42), (1, .int l1), (2, .int l2), (3, .int (l3 + (1 : Int32))), (4, .int l4), (5, .int l5)]) gX6_workOutHour_123.2.1 rfl rfl rfl rfl ?_
    refine r_goto (t := 17) gX6_workOutHour_123.2.2.1 rfl ?_
    exact r_sub (L' := [(0, .ref 42), (1, .int l1), (2, .int l2), (3, .int (l3 + (1 : Int32)))]) (sub_c rfl (sub_c rfl (sub_c rfl (sub_c rfl sub_n)))) (hrec_17 q l1 l2 (l3 + (1 : Int32)))
  · refine r_iconst (v := (0 : Int32)) gX6_workOutHour_29.2.2.2.2.2.2.2.2.2.1 rfl ?_
    refine r_istore (L2 := [(0, .ref 42), (1, .int l1), (2, .int l2), (3, .int l3), (4, .int l4), (5, .int l5), (6, .int (0 : Int32))]) gX6_workOutHour_29.2.2.2.2.2.2.2.2.2.2.1 rfl rfl ?_
    exact r_sub (L' := [(0, .ref 42), (1, .int l1), (2, .int l2), (3, .int l3), (4, .int l4), (5, .int l5), (6, .int (0 : Int32))]) (sub_c rfl (sub_c rfl (sub_c rfl (sub_c rfl (sub_c rfl (sub_c rfl (sub_c rfl sub_n))))))) (rb_X6_workOutHour_50 hE hrec_17 hrec_41 q l1 l2 l3 l4 l5 (0 : Int32))
def b_X6_workOutHour_17 : SS → Int32 → Int32 → Int32 → Option SS :=
  fx4 (fun (rec_17 : SS → Int32 → Int32 → Int32 → Option SS) (q : SS) (l1 : Int32) (l2 : Int32) (l3 : Int32) =>
  (f_X10_people q).bind fun r3 =>
  if r3 ≤ l3 then
  (some q)
  else
  ((f_X8_heldBy q l3).bind fun r4 =>
  b_X6_workOutHour_41 rec_17 q l1 l2 l3 r4 (0 : Int32))) FU
theorem rb_X6_workOutHour_17 {E : EE} (hE : GE E) (q : SS) (l1 : Int32) (l2 : Int32) (l3 : Int32) : R E (κV E) 4 69 17 [(0, .ref 42), (1, .int l1), (2, .int l2), (3, .int l3)] [] q (b_X6_workOutHour_17 q l1 l2 l3) := by
  unfold b_X6_workOutHour_17
  refine fx4_ok (P := fun q l1 l2 l3 o => R E (κV E) 4 69 17 [(0, .ref 42), (1, .int l1), (2, .int l2), (3, .int l3)] [] q o) (fun _ _ _ _ => r_no) (fun rec_17 hrec_17 q l1 l2 l3 => ?_) _ _ _ _ _
  refine r_iload_n (x := l3) gX6_workOutHour_0.2.2.2.2.2.2.2.2.2.2.1 rfl ?_
  refine r_aload_n (x := 42) gX6_workOutHour_0.2.2.2.2.2.2.2.2.2.2.2.1 rfl ?_
  refine r_getA gX6_workOutHour_0.2.2.2.2.2.2.2.2.2.2.2.2.1 (fa_6_9_42 hE) ?_
  refine r_calli (k := 0) (idx := 88) (y := 125) (as := [.ref 1]) (rest := [.int l3]) (L0 := [(0, .ref 1)]) gX6_workOutHour_0.2.2.2.2.2.2.2.2.2.2.2.2.2.1 rfl rfl rfl rfl rfl (vok_v (ob_1 hE) rfl) rfl (r_dep (by decide) (e_X10_people hE q)) (fun r3 => ?_)
  refine r_icmp_ge (t := 132) gX6_workOutHour_0.2.2.2.2.2.2.2.2.2.2.2.2.2.2.1 rfl (fun h12 => ?_) (fun h12 => ?_)
  · exact r_return gX6_workOutHour_123.2.2.2.1 rfl rfl
  · refine r_aload_n (x := 42) gX6_workOutHour_0.2.2.2.2.2.2.2.2.2.2.2.2.2.2.2.1 rfl ?_
    refine r_getA gX6_workOutHour_29.1 (fa_6_15_42 hE) ?_
    refine r_iload_n (x := l3) gX6_workOutHour_29.2.1 rfl ?_
    refine r_calli (k := 0) (idx := 91) (y := 100) (as := [.ref 24, .int l3]) (rest := []) (L0 := [(0, .ref 24), (1, .int l3)]) gX6_workOutHour_29.2.2.1 rfl rfl rfl rfl rfl (vok_v (ob_24 hE) rfl) rfl (r_dep (by decide) (e_X8_heldBy hE q l3)) (fun r4 => ?_)
    refine r_istore (L2 := [(0, .ref 42), (1, .int l1), (2, .int l2), (3, .int l3), (4, .int r4)]) gX6_workOutHour_29.2.2.2.1 rfl rfl ?_
    refine r_iconst (v := (0 : Int32)) gX6_workOutHour_29.2.2.2.2.1 rfl ?_
    refine r_istore (L2 := [(0, .ref 42), (1, .int l1), (2, .int l2), (3, .int l3), (4, .int r4), (5, .int (0 : Int32))]) gX6_workOutHour_29.2.2.2.2.2.1 rfl rfl ?_
    exact r_sub (L' := [(0, .ref 42), (1, .int l1), (2, .int l2), (3, .int l3), (4, .int r4), (5, .int (0 : Int32))]) (sub_c rfl (sub_c rfl (sub_c rfl (sub_c rfl (sub_c rfl (sub_c rfl sub_n)))))) (rb_X6_workOutHour_41 hE hrec_17 q l1 l2 l3 r4 (0 : Int32))
def f_X6_workOutHour (q : SS) (a1 : Int32) : Option SS :=
  (f_X10_hourNow q).bind fun r1 =>
  nm (jmin (11 : Int32) (r1 + a1)) fun v2 =>
  b_X6_workOutHour_17 q a1 v2 (0 : Int32)
theorem e_X6_workOutHour {E : EE} (hE : GE E) (q : SS) (a1 : Int32) : R E (κV E) 4 69 0 [(0, .ref 42), (1, .int a1)] [] q (f_X6_workOutHour q a1) := by
  unfold f_X6_workOutHour
  refine r_bipush (v := (11 : Int32)) gX6_workOutHour_0.1 rfl ?_
  refine r_aload_n (x := 42) gX6_workOutHour_0.2.1 rfl ?_
  refine r_getA gX6_workOutHour_0.2.2.1 (fa_6_9_42 hE) ?_
  refine r_calli (k := 0) (idx := 80) (y := 127) (as := [.ref 1]) (rest := [.int (11 : Int32)]) (L0 := [(0, .ref 1)]) gX6_workOutHour_0.2.2.2.1 rfl rfl rfl rfl rfl (vok_v (ob_1 hE) rfl) rfl (r_dep (by decide) (e_X10_hourNow hE q)) (fun r1 => ?_)
  refine r_iload_n (x := a1) gX6_workOutHour_0.2.2.2.2.1 rfl ?_
  refine r_iadd gX6_workOutHour_0.2.2.2.2.2.1 ?_
  refine r_mm (j := 1) (v := (jmin (11 : Int32) (r1 + a1))) gX6_workOutHour_0.2.2.2.2.2.2.1 ⟨rfl, rfl, rfl, rfl⟩ rfl rfl ?_
  refine r_nmI fun v2 _ => ?_
  refine r_istore_n (L2 := [(0, .ref 42), (1, .int a1), (2, .int v2)]) gX6_workOutHour_0.2.2.2.2.2.2.2.1 rfl rfl ?_
  refine r_iconst (v := (0 : Int32)) gX6_workOutHour_0.2.2.2.2.2.2.2.2.1 rfl ?_
  refine r_istore_n (L2 := [(0, .ref 42), (1, .int a1), (2, .int v2), (3, .int (0 : Int32))]) gX6_workOutHour_0.2.2.2.2.2.2.2.2.2.1 rfl rfl ?_
  exact r_sub (L' := [(0, .ref 42), (1, .int a1), (2, .int v2), (3, .int (0 : Int32))]) (sub_c rfl (sub_c rfl (sub_c rfl (sub_c rfl sub_n)))) (rb_X6_workOutHour_17 hE q a1 v2 (0 : Int32))
def b_X6_begin_72 : SS → Int32 → Option SS :=
  fx2 (fun (rec_72 : SS → Int32 → Option SS) (q : SS) (l3 : Int32) =>
  if (q.1 42 7) ≤ l3 then
  (some q)
  else
  ((f_X6_workOutHour q l3).bind fun r9 =>
  rec_72 r9 (l3 + (1 : Int32)))) FU
theorem rb_X6_begin_72 {E : EE} (hE : GE E) (q : SS) (l3 : Int32) : R E (κV E) 5 67 72 [(0, .ref 42), (3, .int l3)] [] q (b_X6_begin_72 q l3) := by
  unfold b_X6_begin_72
  refine fx2_ok (P := fun q l3 o => R E (κV E) 5 67 72 [(0, .ref 42), (3, .int l3)] [] q o) (fun _ _ => r_no) (fun rec_72 hrec_72 q l3 => ?_) _ _ _
  refine r_iload_n (x := l3) gX6_begin_59.2.2.2.2.2.2.2.1 rfl ?_
  refine r_aload_n (x := 42) gX6_begin_59.2.2.2.2.2.2.2.2.1 rfl ?_
  refine r_getI gX6_begin_59.2.2.2.2.2.2.2.2.2.1 (ff_6_41_42 hE) (by decide) ?_
  refine r_icmp_ge (t := 91) gX6_begin_59.2.2.2.2.2.2.2.2.2.2.1 rfl (fun h10 => ?_) (fun h10 => ?_)
  · exact r_return gX6_begin_91.1 rfl rfl
  · refine r_aload_n (x := 42) gX6_begin_59.2.2.2.2.2.2.2.2.2.2.2.1 rfl ?_
    refine r_iload_n (x := l3) gX6_begin_59.2.2.2.2.2.2.2.2.2.2.2.2.1 rfl ?_
    refine r_callV (k := 0) (idx := 60) (y := 69) (as := [.ref 42, .int l3]) (rest := []) (L0 := [(0, .ref 42), (1, .int l3)]) gX6_begin_59.2.2.2.2.2.2.2.2.2.2.2.2.2.1 rfl rfl rfl rfl rfl (vok_v (ob_42 hE) rfl) rfl (r_dep (by decide) (e_X6_workOutHour hE q l3)) (fun r9 => ?_)
    refine r_iinc (x := l3) (v := (l3 + (1 : Int32))) (L2 := [(0, .ref 42), (3, .int (l3 + (1 : Int32)))]) gX6_begin_59.2.2.2.2.2.2.2.2.2.2.2.2.2.2.1 rfl rfl rfl rfl ?_
    refine r_goto (t := 72) gX6_begin_59.2.2.2.2.2.2.2.2.2.2.2.2.2.2.2.1 rfl ?_
    exact r_sub (L' := [(0, .ref 42), (3, .int (l3 + (1 : Int32)))]) (sub_c rfl (sub_c rfl sub_n)) (hrec_72 r9 (l3 + (1 : Int32)))
def b_X6_begin_47 : SS → Int32 → Option SS :=
  fx2 (fun (rec_47 : SS → Int32 → Option SS) (q : SS) (l3 : Int32) =>
  if (6 : Int32) ≤ l3 then
  ((f_X6_sortTickets q).bind fun r8 =>
  b_X6_begin_72 r8 (0 : Int32))
  else
  (if vin l3 6 then
  nm (sI q 45 l3.toNatClampNeg (0 : Int32)) fun q11 =>
  rec_47 q11 (l3 + (1 : Int32))
  else none)) FU
theorem rb_X6_begin_47 {E : EE} (hE : GE E) (q : SS) (l3 : Int32) : R E (κV E) 5 67 47 [(0, .ref 42), (3, .int l3)] [] q (b_X6_begin_47 q l3) := by
  unfold b_X6_begin_47
  refine fx2_ok (P := fun q l3 o => R E (κV E) 5 67 47 [(0, .ref 42), (3, .int l3)] [] q o) (fun _ _ => r_no) (fun rec_47 hrec_47 q l3 => ?_) _ _ _
  refine r_iload_n (x := l3) gX6_begin_30.2.2.2.2.2.2.2.2.2.1 rfl ?_
  refine r_bipush (v := (6 : Int32)) gX6_begin_30.2.2.2.2.2.2.2.2.2.2.1 rfl ?_
  refine r_icmp_ge (t := 66) gX6_begin_30.2.2.2.2.2.2.2.2.2.2.2.1 rfl (fun h12 => ?_) (fun h12 => ?_)
  · refine r_aload_n (x := 42) gX6_begin_59.2.2.2.1 rfl ?_
    refine r_callV (k := 0) (idx := 57) (y := 68) (as := [.ref 42]) (rest := []) (L0 := [(0, .ref 42)]) gX6_begin_59.2.2.2.2.1 rfl rfl rfl rfl rfl (vok_v (ob_42 hE) rfl) rfl (r_dep (by decide) (e_X6_sortTickets hE q)) (fun r8 => ?_)
    refine r_iconst (v := (0 : Int32)) gX6_begin_59.2.2.2.2.2.1 rfl ?_
    refine r_istore_n (L2 := [(0, .ref 42), (3, .int (0 : Int32))]) gX6_begin_59.2.2.2.2.2.2.1 rfl rfl ?_
    exact r_sub (L' := [(0, .ref 42), (3, .int (0 : Int32))]) (sub_c rfl (sub_c rfl sub_n)) (rb_X6_begin_72 hE r8 (0 : Int32))
  · refine r_aload_n (x := 42) gX6_begin_30.2.2.2.2.2.2.2.2.2.2.2.2.1 rfl ?_
    refine r_getA gX6_begin_30.2.2.2.2.2.2.2.2.2.2.2.2.2.1 (fa_6_26_42 hE) ?_
    refine r_iload_n (x := l3) gX6_begin_30.2.2.2.2.2.2.2.2.2.2.2.2.2.2.1 rfl ?_
    refine r_iconst (v := (0 : Int32)) gX6_begin_30.2.2.2.2.2.2.2.2.2.2.2.2.2.2.2.1 rfl ?_
    refine r_iastore gX6_begin_59.1 (ar_45 hE) ?_
    refine r_nmS fun q11 _ => ?_
    refine r_iinc (x := l3) (v := (l3 + (1 : Int32))) (L2 := [(0, .ref 42), (3, .int (l3 + (1 : Int32)))]) gX6_begin_59.2.1 rfl rfl rfl rfl ?_
    refine r_goto (t := 47) gX6_begin_59.2.2.1 rfl ?_
    exact r_sub (L' := [(0, .ref 42), (3, .int (l3 + (1 : Int32)))]) (sub_c rfl (sub_c rfl sub_n)) (hrec_47 q11 (l3 + (1 : Int32)))
def f_X6_begin (q : SS) (a1 : Int32) (a2 : Int32) : Option SS :=
  (f_X8_begin q).bind fun r1 =>
  nm (sI r1 42 6 a1) fun q2 =>
  nm (sI q2 42 7 a2) fun q3 =>
  (f_X8_reals q3).bind fun r4 =>
  nm (sI q3 42 8 r4) fun q5 =>
  (f_X8_realsOf q5 a1).bind fun r6 =>
  nm (sI q5 42 9 ((q5.1 42 8) - r6)) fun q7 =>
  b_X6_begin_47 q7 (0 : Int32)
theorem e_X6_begin {E : EE} (hE : GE E) (q : SS) (a1 : Int32) (a2 : Int32) : R E (κV E) 5 67 0 [(0, .ref 42), (1, .int a1), (2, .int a2)] [] q (f_X6_begin q a1 a2) := by
  unfold f_X6_begin
  refine r_aload_n (x := 42) gX6_begin_0.1 rfl ?_
  refine r_getA gX6_begin_0.2.1 (fa_6_15_42 hE) ?_
  refine r_callV (k := 0) (idx := 32) (y := 97) (as := [.ref 24]) (rest := []) (L0 := [(0, .ref 24)]) gX6_begin_0.2.2.1 rfl rfl rfl rfl rfl (vok_v (ob_24 hE) rfl) rfl (r_dep (by decide) (e_X8_begin hE q)) (fun r1 => ?_)
  refine r_aload_n (x := 42) gX6_begin_0.2.2.2.1 rfl ?_
  refine r_iload_n (x := a1) gX6_begin_0.2.2.2.2.1 rfl ?_
  refine r_putI gX6_begin_0.2.2.2.2.2.1 (ff_6_37_42 hE) ?_
  refine r_nmS fun q2 _ => ?_
  refine r_aload_n (x := 42) gX6_begin_0.2.2.2.2.2.2.1 rfl ?_
  refine r_iload_n (x := a2) gX6_begin_0.2.2.2.2.2.2.2.1 rfl ?_
  refine r_putI gX6_begin_0.2.2.2.2.2.2.2.2.1 (ff_6_41_42 hE) ?_
  refine r_nmS fun q3 _ => ?_
  refine r_aload_n (x := 42) gX6_begin_0.2.2.2.2.2.2.2.2.2.1 rfl ?_
  refine r_aload_n (x := 42) gX6_begin_0.2.2.2.2.2.2.2.2.2.2.1 rfl ?_
  refine r_getA gX6_begin_0.2.2.2.2.2.2.2.2.2.2.2.1 (fa_6_15_42 hE) ?_
  refine r_calli (k := 0) (idx := 44) (y := 102) (as := [.ref 24]) (rest := [.ref 42]) (L0 := [(0, .ref 24)]) gX6_begin_0.2.2.2.2.2.2.2.2.2.2.2.2.1 rfl rfl rfl rfl rfl (vok_v (ob_24 hE) rfl) rfl (r_dep (by decide) (e_X8_reals hE q3)) (fun r4 => ?_)
  refine r_putI gX6_begin_0.2.2.2.2.2.2.2.2.2.2.2.2.2.1 (ff_6_48_42 hE) ?_
  refine r_nmS fun q5 _ => ?_
  refine r_aload_n (x := 42) gX6_begin_0.2.2.2.2.2.2.2.2.2.2.2.2.2.2.1 rfl ?_
  refine r_aload_n (x := 42) gX6_begin_0.2.2.2.2.2.2.2.2.2.2.2.2.2.2.2.1 rfl ?_
  refine r_getI gX6_begin_30.1 (ff_6_48_42 hE) (by decide) ?_
  refine r_aload_n (x := 42) gX6_begin_30.2.1 rfl ?_
  refine r_getA gX6_begin_30.2.2.1 (fa_6_15_42 hE) ?_
  refine r_iload_n (x := a1) gX6_begin_30.2.2.2.1 rfl ?_
  refine r_calli (k := 0) (idx := 50) (y := 101) (as := [.ref 24, .int a1]) (rest := [.int (q5.1 42 8), .ref 42]) (L0 := [(0, .ref 24), (1, .int a1)]) gX6_begin_30.2.2.2.2.1 rfl rfl rfl rfl rfl (vok_v (ob_24 hE) rfl) rfl (r_dep (by decide) (e_X8_realsOf hE q5 a1)) (fun r6 => ?_)
  refine r_isub gX6_begin_30.2.2.2.2.2.1 ?_
  refine r_putI gX6_begin_30.2.2.2.2.2.2.1 (ff_6_54_42 hE) ?_
  refine r_nmS fun q7 _ => ?_
  refine r_iconst (v := (0 : Int32)) gX6_begin_30.2.2.2.2.2.2.2.1 rfl ?_
  refine r_istore_n (L2 := [(0, .ref 42), (1, .int a1), (2, .int a2), (3, .int (0 : Int32))]) gX6_begin_30.2.2.2.2.2.2.2.2.1 rfl rfl ?_
  exact r_sub (L' := [(0, .ref 42), (3, .int (0 : Int32))]) (sub_c rfl (sub_c rfl sub_n)) (rb_X6_begin_47 hE q7 (0 : Int32))
def f_X6_oddsThen (q : SS) (a1 : Int32) (a2 : Int32) (a3 : Int32) : Option Int32 :=
  if vin a3 6 then
  (f_X6_placeOf q a1 a3 (q.1 45 a3.toNatClampNeg) a2).bind fun r1 =>
  if vin a2 4 then
  if (q.1 43 a2.toNatClampNeg) ≤ 0 then
  (some (0 : Int32))
  else
  (if r1 < 0 then
  (some (0 : Int32))
  else
  (if (216 : Int32) ≤ r1 then
  (some (0 : Int32))
  else
  (if vin r1 216 then
  some (q.1 46 r1.toNatClampNeg)
  else none)))
  else none
  else none
theorem e_X6_oddsThen {E : EE} (hE : GE E) (q : SS) (a1 : Int32) (a2 : Int32) (a3 : Int32) : R E (κi E q) 1 71 0 [(0, .ref 42), (1, .int a1), (2, .int a2), (3, .int a3)] [] q (f_X6_oddsThen q a1 a2 a3) := by
  unfold f_X6_oddsThen
  refine r_iload_n (x := a1) gX6_oddsThen_0.1 rfl ?_
  refine r_iload_n (x := a3) gX6_oddsThen_0.2.1 rfl ?_
  refine r_aload_n (x := 42) gX6_oddsThen_0.2.2.1 rfl ?_
  refine r_getA gX6_oddsThen_0.2.2.2.1 (fa_6_26_42 hE) ?_
  refine r_iload_n (x := a3) gX6_oddsThen_0.2.2.2.2.1 rfl ?_
  refine r_iaload gX6_oddsThen_0.2.2.2.2.2.1 (ar_45 hE) ?_
  refine r_iload_n (x := a2) gX6_oddsThen_0.2.2.2.2.2.2.1 rfl ?_
  refine r_calli (k := 2) (idx := 94) (y := 70) (as := [.int a1, .int a3, .int (q.1 45 a3.toNatClampNeg), .int a2]) (rest := []) (L0 := [(0, .int a1), (1, .int a3), (2, .int (q.1 45 a3.toNatClampNeg)), (3, .int a2)]) gX6_oddsThen_0.2.2.2.2.2.2.2.1 rfl rfl rfl rfl rfl vok_s rfl (r_dep (by decide) (e_X6_placeOf hE q a1 a3 (q.1 45 a3.toNatClampNeg) a2)) (fun r1 => ?_)
  refine r_istore (L2 := [(0, .ref 42), (1, .int a1), (2, .int a2), (3, .int a3), (4, .int r1)]) gX6_oddsThen_0.2.2.2.2.2.2.2.2.1 rfl rfl ?_
  refine r_aload_n (x := 42) gX6_oddsThen_0.2.2.2.2.2.2.2.2.2.1 rfl ?_
  refine r_getA gX6_oddsThen_0.2.2.2.2.2.2.2.2.2.2.1 (fa_6_19_42 hE) ?_
  refine r_iload_n (x := a2) gX6_oddsThen_0.2.2.2.2.2.2.2.2.2.2.2.1 rfl ?_
  refine r_iaload gX6_oddsThen_0.2.2.2.2.2.2.2.2.2.2.2.2.1 (ar_43 hE) ?_
  refine r_if_le (t := 48) gX6_oddsThen_0.2.2.2.2.2.2.2.2.2.2.2.2.2.1 rfl (fun h4 => ?_) (fun h4 => ?_)
  · refine r_iconst (v := (0 : Int32)) gX6_oddsThen_28.2.2.2.2.2.2.2.2.2.2.1 rfl ?_
    exact r_ireturn gX6_oddsThen_28.2.2.2.2.2.2.2.2.2.2.2.1 rfl rfl
  · refine r_iload (x := r1) gX6_oddsThen_0.2.2.2.2.2.2.2.2.2.2.2.2.2.2.1 rfl ?_
    refine r_if_lt (t := 48) gX6_oddsThen_0.2.2.2.2.2.2.2.2.2.2.2.2.2.2.2.1 rfl (fun h3 => ?_) (fun h3 => ?_)
    · refine r_iconst (v := (0 : Int32)) gX6_oddsThen_28.2.2.2.2.2.2.2.2.2.2.1 rfl ?_
      exact r_ireturn gX6_oddsThen_28.2.2.2.2.2.2.2.2.2.2.2.1 rfl rfl
    · refine r_iload (x := r1) gX6_oddsThen_28.1 rfl ?_
      refine r_aload_n (x := 42) gX6_oddsThen_28.2.1 rfl ?_
      refine r_getA gX6_oddsThen_28.2.2.1 (fa_6_29_42 hE) ?_
      refine r_len (v := (216 : Int32)) gX6_oddsThen_28.2.2.2.1 (ar_46 hE) (by decide) rfl ?_
      refine r_icmp_ge (t := 48) gX6_oddsThen_28.2.2.2.2.1 rfl (fun h2 => ?_) (fun h2 => ?_)
      · refine r_iconst (v := (0 : Int32)) gX6_oddsThen_28.2.2.2.2.2.2.2.2.2.2.1 rfl ?_
        exact r_ireturn gX6_oddsThen_28.2.2.2.2.2.2.2.2.2.2.2.1 rfl rfl
      · refine r_aload_n (x := 42) gX6_oddsThen_28.2.2.2.2.2.1 rfl ?_
        refine r_getA gX6_oddsThen_28.2.2.2.2.2.2.1 (fa_6_29_42 hE) ?_
        refine r_iload (x := r1) gX6_oddsThen_28.2.2.2.2.2.2.2.1 rfl ?_
        refine r_iaload gX6_oddsThen_28.2.2.2.2.2.2.2.2.1 (ar_46 hE) ?_
        refine r_goto (t := 49) gX6_oddsThen_28.2.2.2.2.2.2.2.2.2.1 rfl ?_
        exact r_ireturn gX6_oddsThen_28.2.2.2.2.2.2.2.2.2.2.2.1 rfl rfl
abbrev GT_X6_best : Type := (SS → Int32 → Int32 → Option (Int32 × SS)) × (SS → Int32 → Int32 → Int32 → Int32 → Int32 → Option (Int32 × SS))
def GS_X6_best (E : EE) (n : Nat) (r : GT_X6_best) : Prop := (∀ (q : SS) (a1 : Int32) (a2 : Int32), R E (κI E) (2 + n) 74 0 [(0, .ref 42), (1, .int a1), (2, .int a2)] [] q (r.1 q a1 a2)) ∧ (∀ (q : SS) (a1 : Int32) (a2 : Int32) (a3 : Int32) (a4 : Int32) (a5 : Int32), R E (κI E) (2 + n) 75 0 [(0, .ref 42), (1, .int a1), (2, .int a2), (3, .int a3), (4, .int a4), (5, .int a5)] [] q (r.2 q a1 a2 a3 a4 a5))
def b_X6_best_13 (r : GT_X6_best) (q : SS) (l2 : Int32) : Option (Int32 × SS) :=
  some (((q.1 42 9) + l2), q)
theorem rb_X6_best_13 {E : EE} (hE : GE E) {r : GT_X6_best} (n : Nat) (hr : GS_X6_best E n r) (q : SS) (l2 : Int32) : R E (κI E) (2 + n + 1) 74 13 [(0, .ref 42), (2, .int l2)] [] q (b_X6_best_13 r q l2) := by
  unfold b_X6_best_13
  refine r_aload_n (x := 42) gX6_best_0.2.2.2.2.2.2.2.1 rfl ?_
  refine r_getI gX6_best_0.2.2.2.2.2.2.2.2.1 (ff_6_54_42 hE) (by decide) ?_
  refine r_iload_n (x := l2) gX6_best_0.2.2.2.2.2.2.2.2.2.1 rfl ?_
  refine r_iadd gX6_best_0.2.2.2.2.2.2.2.2.2.2.1 ?_
  exact r_ireturn gX6_best_0.2.2.2.2.2.2.2.2.2.2.2.1 rfl rfl
def b_X6_best_47 (r : GT_X6_best) (rec_38 : SS → Int32 → Int32 → Int32 → Int32 → Int32 → Option (Int32 × SS)) : SS → Int32 → Int32 → Int32 → Int32 → Int32 → Int32 → Option (Int32 × SS) :=
  fx7 (fun (rec_47 : SS → Int32 → Int32 → Int32 → Int32 → Int32 → Int32 → Option (Int32 × SS)) (q : SS) (l1 : Int32) (l2 : Int32) (l3 : Int32) (l4 : Int32) (l5 : Int32) (l6 : Int32) =>
  (f_X10_people q).bind fun r3 =>
  if r3 ≤ l6 then
  (rec_38 q l1 l2 l3 l4 (l5 + (1 : Int32)))
  else
  ((r.2 q l1 l2 l5 l6 l3).bind fun r4 =>
  nm (jmax l4 r4.1) fun v5 =>
  rec_47 r4.2 l1 l2 l3 v5 l5 (l6 + (1 : Int32)))) FU
theorem rb_X6_best_47 {E : EE} (hE : GE E) {r : GT_X6_best} (n : Nat) (hr : GS_X6_best E n r) {rec_38 : SS → Int32 → Int32 → Int32 → Int32 → Int32 → Option (Int32 × SS)} (hrec_38 : ∀ (yq : SS) (yl1 : Int32) (yl2 : Int32) (yl3 : Int32) (yl4 : Int32) (yl5 : Int32), R E (κI E) (2 + n + 1) 74 38 [(0, .ref 42), (1, .int yl1), (2, .int yl2), (3, .int yl3), (4, .int yl4), (5, .int yl5)] [] yq (rec_38 yq yl1 yl2 yl3 yl4 yl5)) (q : SS) (l1 : Int32) (l2 : Int32) (l3 : Int32) (l4 : Int32) (l5 : Int32) (l6 : Int32) : R E (κI E) (2 + n + 1) 74 47 [(0, .ref 42), (1, .int l1), (2, .int l2), (3, .int l3), (4, .int l4), (5, .int l5), (6, .int l6)] [] q (b_X6_best_47 r rec_38 q l1 l2 l3 l4 l5 l6) := by
  unfold b_X6_best_47
  refine fx7_ok (P := fun q l1 l2 l3 l4 l5 l6 o => R E (κI E) (2 + n + 1) 74 47 [(0, .ref 42), (1, .int l1), (2, .int l2), (3, .int l3), (4, .int l4), (5, .int l5), (6, .int l6)] [] q o) (fun _ _ _ _ _ _ _ => r_no) (fun rec_47 hrec_47 q l1 l2 l3 l4 l5 l6 => ?_) _ _ _ _ _ _ _ _
  refine r_iload (x := l6) gX6_best_24.2.2.2.2.2.2.2.2.2.2.2.2.2.2.1 rfl ?_
  refine r_aload_n (x := 42) gX6_best_24.2.2.2.2.2.2.2.2.2.2.2.2.2.2.2.1 rfl ?_
  refine r_getA gX6_best_50.1 (fa_6_9_42 hE) ?_
  refine r_calli (k := 0) (idx := 88) (y := 125) (as := [.ref 1]) (rest := [.int l6]) (L0 := [(0, .ref 1)]) gX6_best_50.2.1 rfl rfl rfl rfl rfl (vok_v (ob_1 hE) rfl) rfl (r_dep (by omega) (e_X10_people hE q)) (fun r3 => ?_)
  refine r_icmp_ge (t := 83) gX6_best_50.2.2.1 rfl (fun h6 => ?_) (fun h6 => ?_)
  · refine r_iinc (x := l5) (v := (l5 + (1 : Int32))) (L2 := [(0, .ref 42), (1, .int l1), (2, .int l2), (3, .int l3), (4, .int l4), (5, .int (l5 + (1 : Int32))), (6, .int l6)]) gX6_best_50.2.2.2.2.2.2.2.2.2.2.2.2.2.2.2.1 rfl rfl rfl rfl ?_
    refine r_goto (t := 38) gX6_best_86.1 rfl ?_
    exact r_sub (L' := [(0, .ref 42), (1, .int l1), (2, .int l2), (3, .int l3), (4, .int l4), (5, .int (l5 + (1 : Int32)))]) (sub_c rfl (sub_c rfl (sub_c rfl (sub_c rfl (sub_c rfl (sub_c rfl sub_n)))))) (hrec_38 q l1 l2 l3 l4 (l5 + (1 : Int32)))
  · refine r_iload (x := l4) gX6_best_50.2.2.2.1 rfl ?_
    refine r_aload_n (x := 42) gX6_best_50.2.2.2.2.1 rfl ?_
    refine r_iload_n (x := l1) gX6_best_50.2.2.2.2.2.1 rfl ?_
    refine r_iload_n (x := l2) gX6_best_50.2.2.2.2.2.2.1 rfl ?_
    refine r_iload (x := l5) gX6_best_50.2.2.2.2.2.2.2.1 rfl ?_
    refine r_iload (x := l6) gX6_best_50.2.2.2.2.2.2.2.2.1 rfl ?_
    refine r_iload_n (x := l3) gX6_best_50.2.2.2.2.2.2.2.2.2.1 rfl ?_
    refine r_callI (k := 2) (idx := 109) (y := 75) (as := [.ref 42, .int l1, .int l2, .int l5, .int l6, .int l3]) (rest := [.int l4]) (L0 := [(0, .ref 42), (1, .int l1), (2, .int l2), (3, .int l5), (4, .int l6), (5, .int l3)]) gX6_best_50.2.2.2.2.2.2.2.2.2.2.1 rfl rfl rfl rfl rfl vok_s rfl (hr.2 q l1 l2 l5 l6 l3) (fun r4 => ?_)
    refine r_mm (j := 0) (v := (jmax l4 r4.1)) gX6_best_50.2.2.2.2.2.2.2.2.2.2.2.1 ⟨rfl, rfl, rfl, rfl⟩ rfl rfl ?_
    refine r_nmI fun v5 _ => ?_
    refine r_istore (L2 := [(0, .ref 42), (1, .int l1), (2, .int l2), (3, .int l3), (4, .int v5), (5, .int l5), (6, .int l6)]) gX6_best_50.2.2.2.2.2.2.2.2.2.2.2.2.1 rfl rfl ?_
    refine r_iinc (x := l6) (v := (l6 + (1 : Int32))) (L2 := [(0, .ref 42), (1, .int l1), (2, .int l2), (3, .int l3), (4, .int v5), (5, .int l5), (6, .int (l6 + (1 : Int32)))]) gX6_best_50.2.2.2.2.2.2.2.2.2.2.2.2.2.1 rfl rfl rfl rfl ?_
    refine r_goto (t := 47) gX6_best_50.2.2.2.2.2.2.2.2.2.2.2.2.2.2.1 rfl ?_
    exact r_sub (L' := [(0, .ref 42), (1, .int l1), (2, .int l2), (3, .int l3), (4, .int v5), (5, .int l5), (6, .int (l6 + (1 : Int32)))]) (sub_c rfl (sub_c rfl (sub_c rfl (sub_c rfl (sub_c rfl (sub_c rfl (sub_c rfl sub_n))))))) (hrec_47 r4.2 l1 l2 l3 v5 l5 (l6 + (1 : Int32)))
def b_X6_best_38 (r : GT_X6_best) : SS → Int32 → Int32 → Int32 → Int32 → Int32 → Option (Int32 × SS) :=
  fx6 (fun (rec_38 : SS → Int32 → Int32 → Int32 → Int32 → Int32 → Option (Int32 × SS)) (q : SS) (l1 : Int32) (l2 : Int32) (l3 : Int32) (l4 : Int32) (l5 : Int32) =>
  if (4 : Int32) ≤ l5 then
  (some (l4, q))
  else
  (b_X6_best_47 r rec_38 q l1 l2 l3 l4 l5 (0 : Int32))) FU
theorem rb_X6_best_38 {E : EE} (hE : GE E) {r : GT_X6_best} (n : Nat) (hr : GS_X6_best E n r) (q : SS) (l1 : Int32) (l2 : Int32) (l3 : Int32) (l4 : Int32) (l5 : Int32) : R E (κI E) (2 + n + 1) 74 38 [(0, .ref 42), (1, .int l1), (2, .int l2), (3, .int l3), (4, .int l4), (5, .int l5)] [] q (b_X6_best_38 r q l1 l2 l3 l4 l5) := by
  unfold b_X6_best_38
  refine fx6_ok (P := fun q l1 l2 l3 l4 l5 o => R E (κI E) (2 + n + 1) 74 38 [(0, .ref 42), (1, .int l1), (2, .int l2), (3, .int l3), (4, .int l4), (5, .int l5)] [] q o) (fun _ _ _ _ _ _ => r_no) (fun rec_38 hrec_38 q l1 l2 l3 l4 l5 => ?_) _ _ _ _ _ _ _
  refine r_iload (x := l5) gX6_best_24.2.2.2.2.2.2.2.2.2.1 rfl ?_
  refine r_iconst (v := (4 : Int32)) gX6_best_24.2.2.2.2.2.2.2.2.2.2.1 rfl ?_
  refine r_icmp_ge (t := 89) gX6_best_24.2.2.2.2.2.2.2.2.2.2.2.1 rfl (fun h7 => ?_) (fun h7 => ?_)
  · refine r_iload (x := l4) gX6_best_86.2.1 rfl ?_
    exact r_ireturn gX6_best_86.2.2.1 rfl rfl
  · refine r_iconst (v := (0 : Int32)) gX6_best_24.2.2.2.2.2.2.2.2.2.2.2.2.1 rfl ?_
    refine r_istore (L2 := [(0, .ref 42), (1, .int l1), (2, .int l2), (3, .int l3), (4, .int l4), (5, .int l5), (6, .int (0 : Int32))]) gX6_best_24.2.2.2.2.2.2.2.2.2.2.2.2.2.1 rfl rfl ?_
    exact r_sub (L' := [(0, .ref 42), (1, .int l1), (2, .int l2), (3, .int l3), (4, .int l4), (5, .int l5), (6, .int (0 : Int32))]) (sub_c rfl (sub_c rfl (sub_c rfl (sub_c rfl (sub_c rfl (sub_c rfl (sub_c rfl sub_n))))))) (rb_X6_best_47 hE n hr hrec_38 q l1 l2 l3 l4 l5 (0 : Int32))
def fb_X6_best (r : GT_X6_best) (q : SS) (a1 : Int32) (a2 : Int32) : Option (Int32 × SS) :=
  if (q.1 42 7) ≤ a1 then
  (b_X6_best_13 r q a2)
  else
  (if a1 < (3 : Int32) then
  ((r.1 q (a1 + (1 : Int32)) a2).bind fun r1 =>
  nm ((12 : Int32) * r1.1) fun v2 =>
  b_X6_best_38 r r1.2 a1 a2 r1.1 v2 (0 : Int32))
  else
  (b_X6_best_13 r q a2))
theorem eb_X6_best {E : EE} (hE : GE E) {r : GT_X6_best} (n : Nat) (hr : GS_X6_best E n r) (q : SS) (a1 : Int32) (a2 : Int32) : R E (κI E) (2 + n + 1) 74 0 [(0, .ref 42), (1, .int a1), (2, .int a2)] [] q (fb_X6_best r q a1 a2) := by
  unfold fb_X6_best
  refine r_iload_n (x := a1) gX6_best_0.1 rfl ?_
  refine r_aload_n (x := 42) gX6_best_0.2.1 rfl ?_
  refine r_getI gX6_best_0.2.2.1 (ff_6_41_42 hE) (by decide) ?_
  refine r_icmp_ge (t := 13) gX6_best_0.2.2.2.1 rfl (fun h9 => ?_) (fun h9 => ?_)
  · exact r_sub (L' := [(0, .ref 42), (2, .int a2)]) (sub_c rfl (sub_c rfl sub_n)) (rb_X6_best_13 hE n hr q a2)
  · refine r_iload_n (x := a1) gX6_best_0.2.2.2.2.1 rfl ?_
    refine r_iconst (v := (3 : Int32)) gX6_best_0.2.2.2.2.2.1 rfl ?_
    refine r_icmp_lt (t := 20) gX6_best_0.2.2.2.2.2.2.1 rfl (fun h8 => ?_) (fun h8 => ?_)
    · refine r_aload_n (x := 42) gX6_best_0.2.2.2.2.2.2.2.2.2.2.2.2.1 rfl ?_
      refine r_iload_n (x := a1) gX6_best_0.2.2.2.2.2.2.2.2.2.2.2.2.2.1 rfl ?_
      refine r_iconst (v := (1 : Int32)) gX6_best_0.2.2.2.2.2.2.2.2.2.2.2.2.2.2.1 rfl ?_
      refine r_iadd gX6_best_0.2.2.2.2.2.2.2.2.2.2.2.2.2.2.2.1 ?_
      refine r_iload_n (x := a2) gX6_best_24.1 rfl ?_
      refine r_callI (k := 2) (idx := 102) (y := 74) (as := [.ref 42, .int (a1 + (1 : Int32)), .int a2]) (rest := []) (L0 := [(0, .ref 42), (1, .int (a1 + (1 : Int32))), (2, .int a2)]) gX6_best_24.2.1 rfl rfl rfl rfl rfl vok_s rfl (hr.1 q (a1 + (1 : Int32)) a2) (fun r1 => ?_)
      refine r_istore_n (L2 := [(0, .ref 42), (1, .int a1), (2, .int a2), (3, .int r1.1)]) gX6_best_24.2.2.1 rfl rfl ?_
      refine r_bipush (v := (12 : Int32)) gX6_best_24.2.2.2.1 rfl ?_
      refine r_iload_n (x := r1.1) gX6_best_24.2.2.2.2.1 rfl ?_
      refine r_imul gX6_best_24.2.2.2.2.2.1 ?_
      refine r_nmI fun v2 _ => ?_
      refine r_istore (L2 := [(0, .ref 42), (1, .int a1), (2, .int a2), (3, .int r1.1), (4, .int v2)]) gX6_best_24.2.2.2.2.2.2.1 rfl rfl ?_
      refine r_iconst (v := (0 : Int32)) gX6_best_24.2.2.2.2.2.2.2.1 rfl ?_
      refine r_istore (L2 := [(0, .ref 42), (1, .int a1), (2, .int a2), (3, .int r1.1), (4, .int v2), (5, .int (0 : Int32))]) gX6_best_24.2.2.2.2.2.2.2.2.1 rfl rfl ?_
      exact r_sub (L' := [(0, .ref 42), (1, .int a1), (2, .int a2), (3, .int r1.1), (4, .int v2), (5, .int (0 : Int32))]) (sub_c rfl (sub_c rfl (sub_c rfl (sub_c rfl (sub_c rfl (sub_c rfl sub_n)))))) (rb_X6_best_38 hE n hr r1.2 a1 a2 r1.1 v2 (0 : Int32))
    · exact r_sub (L' := [(0, .ref 42), (2, .int a2)]) (sub_c rfl (sub_c rfl sub_n)) (rb_X6_best_13 hE n hr q a2)
def fb_X6_tried (r : GT_X6_best) (q : SS) (a1 : Int32) (a2 : Int32) (a3 : Int32) (a4 : Int32) (a5 : Int32) : Option (Int32 × SS) :=
  (f_X6_oddsThen q a1 a3 a4).bind fun r1 =>
  if r1 = 0 then
  (some (((12 : Int32) * a5), q))
  else
  (if vin a3 4 then
  if vin a3 4 then
  nm (sI q 43 a3.toNatClampNeg ((q.1 43 a3.toNatClampNeg) - (1 : Int32))) fun q2 =>
  if vin a4 6 then
  if vin a4 6 then
  nm (sI q2 45 a4.toNatClampNeg ((q2.1 45 a4.toNatClampNeg) + (1 : Int32))) fun q3 =>
  (r.1 q3 (a1 + (1 : Int32)) (a2 + (1 : Int32))).bind fun r4 =>
  if vin a3 4 then
  if vin a3 4 then
  nm (sI r4.2 43 a3.toNatClampNeg ((r4.2.1 43 a3.toNatClampNeg) + (1 : Int32))) fun q5 =>
  if vin a4 6 then
  if vin a4 6 then
  nm (sI q5 45 a4.toNatClampNeg ((q5.1 45 a4.toNatClampNeg) - (1 : Int32))) fun q6 =>
  some (((r1 * r4.1) + (((12 : Int32) - r1) * a5)), q6)
  else none
  else none
  else none
  else none
  else none
  else none
  else none
  else none)
theorem eb_X6_tried {E : EE} (hE : GE E) {r : GT_X6_best} (n : Nat) (hr : GS_X6_best E n r) (q : SS) (a1 : Int32) (a2 : Int32) (a3 : Int32) (a4 : Int32) (a5 : Int32) : R E (κI E) (2 + n + 1) 75 0 [(0, .ref 42), (1, .int a1), (2, .int a2), (3, .int a3), (4, .int a4), (5, .int a5)] [] q (fb_X6_tried r q a1 a2 a3 a4 a5) := by
  unfold fb_X6_tried
  refine r_aload_n (x := 42) gX6_tried_0.1 rfl ?_
  refine r_iload_n (x := a1) gX6_tried_0.2.1 rfl ?_
  refine r_iload_n (x := a3) gX6_tried_0.2.2.1 rfl ?_
  refine r_iload (x := a4) gX6_tried_0.2.2.2.1 rfl ?_
  refine r_calli (k := 0) (idx := 113) (y := 71) (as := [.ref 42, .int a1, .int a3, .int a4]) (rest := []) (L0 := [(0, .ref 42), (1, .int a1), (2, .int a3), (3, .int a4)]) gX6_tried_0.2.2.2.2.1 rfl rfl rfl rfl rfl (vok_v (ob_42 hE) rfl) rfl (r_dep (by omega) (e_X6_oddsThen hE q a1 a3 a4)) (fun r1 => ?_)
  refine r_istore (L2 := [(0, .ref 42), (1, .int a1), (2, .int a2), (3, .int a3), (4, .int a4), (5, .int a5), (6, .int r1)]) gX6_tried_0.2.2.2.2.2.1 rfl rfl ?_
  refine r_iload (x := r1) gX6_tried_0.2.2.2.2.2.2.1 rfl ?_
  refine r_if_ne (t := 21) gX6_tried_0.2.2.2.2.2.2.2.1 rfl (fun h7 => ?_) (fun h7 => ?_)
  · refine r_bipush (v := (12 : Int32)) gX6_tried_0.2.2.2.2.2.2.2.2.1 rfl ?_
    refine r_iload (x := a5) gX6_tried_0.2.2.2.2.2.2.2.2.2.1 rfl ?_
    refine r_imul gX6_tried_0.2.2.2.2.2.2.2.2.2.2.1 ?_
    exact r_ireturn gX6_tried_0.2.2.2.2.2.2.2.2.2.2.2.1 rfl rfl
  · refine r_aload_n (x := 42) gX6_tried_0.2.2.2.2.2.2.2.2.2.2.2.2.1 rfl ?_
    refine r_getA gX6_tried_0.2.2.2.2.2.2.2.2.2.2.2.2.2.1 (fa_6_19_42 hE) ?_
    refine r_iload_n (x := a3) gX6_tried_0.2.2.2.2.2.2.2.2.2.2.2.2.2.2.1 rfl ?_
    refine r_dup2 gX6_tried_0.2.2.2.2.2.2.2.2.2.2.2.2.2.2.2.1 ⟨rfl, rfl⟩ ?_
    refine r_iaload gX6_tried_27.1 (ar_43 hE) ?_
    refine r_iconst (v := (1 : Int32)) gX6_tried_27.2.1 rfl ?_
    refine r_isub gX6_tried_27.2.2.1 ?_
    refine r_iastore gX6_tried_27.2.2.2.1 (ar_43 hE) ?_
    refine r_nmS fun q2 _ => ?_
    refine r_aload_n (x := 42) gX6_tried_27.2.2.2.2.1 rfl ?_
    refine r_getA gX6_tried_27.2.2.2.2.2.1 (fa_6_26_42 hE) ?_
    refine r_iload (x := a4) gX6_tried_27.2.2.2.2.2.2.1 rfl ?_
    refine r_dup2 gX6_tried_27.2.2.2.2.2.2.2.1 ⟨rfl, rfl⟩ ?_
    refine r_iaload gX6_tried_27.2.2.2.2.2.2.2.2.1 (ar_45 hE) ?_
    refine r_iconst (v := (1 : Int32)) gX6_tried_27.2.2.2.2.2.2.2.2.2.1 rfl ?_
    refine r_iadd gX6_tried_27.2.2.2.2.2.2.2.2.2.2.1 ?_
    refine r_iastore gX6_tried_27.2.2.2.2.2.2.2.2.2.2.2.1 (ar_45 hE) ?_
    refine r_nmS fun q3 _ => ?_
    refine r_aload_n (x := 42) gX6_tried_27.2.2.2.2.2.2.2.2.2.2.2.2.1 rfl ?_
    refine r_iload_n (x := a1) gX6_tried_27.2.2.2.2.2.2.2.2.2.2.2.2.2.1 rfl ?_
    refine r_iconst (v := (1 : Int32)) gX6_tried_27.2.2.2.2.2.2.2.2.2.2.2.2.2.2.1 rfl ?_
    refine r_iadd gX6_tried_27.2.2.2.2.2.2.2.2.2.2.2.2.2.2.2.1 ?_
    refine r_iload_n (x := a2) gX6_tried_46.1 rfl ?_
    refine r_iconst (v := (1 : Int32)) gX6_tried_46.2.1 rfl ?_
    refine r_iadd gX6_tried_46.2.2.1 ?_
    refine r_callI (k := 2) (idx := 102) (y := 74) (as := [.ref 42, .int (a1 + (1 : Int32)), .int (a2 + (1 : Int32))]) (rest := []) (L0 := [(0, .ref 42), (1, .int (a1 + (1 : Int32))), (2, .int (a2 + (1 : Int32)))]) gX6_tried_46.2.2.2.1 rfl rfl rfl rfl rfl vok_s rfl (hr.1 q3 (a1 + (1 : Int32)) (a2 + (1 : Int32))) (fun r4 => ?_)
    refine r_istore (L2 := [(0, .ref 42), (1, .int a1), (2, .int a2), (3, .int a3), (4, .int a4), (5, .int a5), (6, .int r1), (7, .int r4.1)]) gX6_tried_46.2.2.2.2.1 rfl rfl ?_
    refine r_aload_n (x := 42) gX6_tried_46.2.2.2.2.2.1 rfl ?_
    refine r_getA gX6_tried_46.2.2.2.2.2.2.1 (fa_6_19_42 hE) ?_
    refine r_iload_n (x := a3) gX6_tried_46.2.2.2.2.2.2.2.1 rfl ?_
    refine r_dup2 gX6_tried_46.2.2.2.2.2.2.2.2.1 ⟨rfl, rfl⟩ ?_
    refine r_iaload gX6_tried_46.2.2.2.2.2.2.2.2.2.1 (ar_43 hE) ?_
    refine r_iconst (v := (1 : Int32)) gX6_tried_46.2.2.2.2.2.2.2.2.2.2.1 rfl ?_
    refine r_iadd gX6_tried_46.2.2.2.2.2.2.2.2.2.2.2.1 ?_
    refine r_iastore gX6_tried_46.2.2.2.2.2.2.2.2.2.2.2.2.1 (ar_43 hE) ?_
    refine r_nmS fun q5 _ => ?_
    refine r_aload_n (x := 42) gX6_tried_46.2.2.2.2.2.2.2.2.2.2.2.2.2.1 rfl ?_
    refine r_getA gX6_tried_46.2.2.2.2.2.2.2.2.2.2.2.2.2.2.1 (fa_6_26_42 hE) ?_
    refine r_iload (x := a4) gX6_tried_46.2.2.2.2.2.2.2.2.2.2.2.2.2.2.2.1 rfl ?_
    refine r_dup2 gX6_tried_70.1 ⟨rfl, rfl⟩ ?_
    refine r_iaload gX6_tried_70.2.1 (ar_45 hE) ?_
    refine r_iconst (v := (1 : Int32)) gX6_tried_70.2.2.1 rfl ?_
    refine r_isub gX6_tried_70.2.2.2.1 ?_
    refine r_iastore gX6_tried_70.2.2.2.2.1 (ar_45 hE) ?_
    refine r_nmS fun q6 _ => ?_
    refine r_iload (x := r1) gX6_tried_70.2.2.2.2.2.1 rfl ?_
    refine r_iload (x := r4.1) gX6_tried_70.2.2.2.2.2.2.1 rfl ?_
    refine r_imul gX6_tried_70.2.2.2.2.2.2.2.1 ?_
    refine r_bipush (v := (12 : Int32)) gX6_tried_70.2.2.2.2.2.2.2.2.1 rfl ?_
    refine r_iload (x := r1) gX6_tried_70.2.2.2.2.2.2.2.2.2.1 rfl ?_
    refine r_isub gX6_tried_70.2.2.2.2.2.2.2.2.2.2.1 ?_
    refine r_iload (x := a5) gX6_tried_70.2.2.2.2.2.2.2.2.2.2.2.1 rfl ?_
    refine r_imul gX6_tried_70.2.2.2.2.2.2.2.2.2.2.2.2.1 ?_
    refine r_iadd gX6_tried_70.2.2.2.2.2.2.2.2.2.2.2.2.2.1 ?_
    exact r_ireturn gX6_tried_70.2.2.2.2.2.2.2.2.2.2.2.2.2.2.1 rfl rfl
def g_X6_best : Nat → GT_X6_best
  | 0 => (fun _ _ _ => none, fun _ _ _ _ _ _ => none)
  | n + 1 => (fb_X6_best (g_X6_best n), fb_X6_tried (g_X6_best n))
theorem gs_X6_best {E : EE} (hE : GE E) : ∀ n, GS_X6_best E n (g_X6_best n)
  | 0 => ⟨fun _ _ _ => r_no, fun _ _ _ _ _ _ => r_no⟩
  | n + 1 => ⟨eb_X6_best hE n (gs_X6_best hE n), eb_X6_tried hE n (gs_X6_best hE n)⟩
def f_X6_best : SS → Int32 → Int32 → Option (Int32 × SS) := (g_X6_best 60).1
theorem e_X6_best {E : EE} (hE : GE E) : ∀ (q : SS) (a1 : Int32) (a2 : Int32), R E (κI E) 62 74 0 [(0, .ref 42), (1, .int a1), (2, .int a2)] [] q (f_X6_best q a1 a2) := (gs_X6_best hE 60).1
def f_X6_tried : SS → Int32 → Int32 → Int32 → Int32 → Int32 → Option (Int32 × SS) := (g_X6_best 60).2
theorem e_X6_tried {E : EE} (hE : GE E) : ∀ (q : SS) (a1 : Int32) (a2 : Int32) (a3 : Int32) (a4 : Int32) (a5 : Int32), R E (κI E) 62 75 0 [(0, .ref 42), (1, .int a1), (2, .int a2), (3, .int a3), (4, .int a4), (5, .int a5)] [] q (f_X6_tried q a1 a2 a3 a4 a5) := (gs_X6_best hE 60).2
def b_X6_firstSlipping_105 (rec_28 : SS → Int32 → Int32 → Int32 → Int32 → Option (Int32 × SS)) (rec_37 : SS → Int32 → Int32 → Int32 → Int32 → Int32 → Option (Int32 × SS)) (q : SS) (l1 : Int32) (l2 : Int32) (l3 : Int32) (l4 : Int32) (l5 : Int32) : Option (Int32 × SS) :=
  rec_37 q l1 l2 l3 l4 (l5 + (1 : Int32))
theorem rb_X6_firstSlipping_105 {E : EE} (hE : GE E) {rec_28 : SS → Int32 → Int32 → Int32 → Int32 → Option (Int32 × SS)} (hrec_28 : ∀ (yq : SS) (yl1 : Int32) (yl2 : Int32) (yl3 : Int32) (yl4 : Int32), R E (κI E) 63 76 28 [(0, .ref 42), (1, .int yl1), (2, .int yl2), (3, .int yl3), (4, .int yl4)] [] yq (rec_28 yq yl1 yl2 yl3 yl4)) {rec_37 : SS → Int32 → Int32 → Int32 → Int32 → Int32 → Option (Int32 × SS)} (hrec_37 : ∀ (yq : SS) (yl1 : Int32) (yl2 : Int32) (yl3 : Int32) (yl4 : Int32) (yl5 : Int32), R E (κI E) 63 76 37 [(0, .ref 42), (1, .int yl1), (2, .int yl2), (3, .int yl3), (4, .int yl4), (5, .int yl5)] [] yq (rec_37 yq yl1 yl2 yl3 yl4 yl5)) (q : SS) (l1 : Int32) (l2 : Int32) (l3 : Int32) (l4 : Int32) (l5 : Int32) : R E (κI E) 63 76 105 [(0, .ref 42), (1, .int l1), (2, .int l2), (3, .int l3), (4, .int l4), (5, .int l5)] [] q (b_X6_firstSlipping_105 rec_28 rec_37 q l1 l2 l3 l4 l5) := by
  unfold b_X6_firstSlipping_105
  refine r_iinc (x := l5) (v := (l5 + (1 : Int32))) (L2 := [(0, .ref 42), (1, .int l1), (2, .int l2), (3, .int l3), (4, .int l4), (5, .int (l5 + (1 : Int32)))]) gX6_firstSlipping_83.2.2.2.2.2.2.2.2.2.2.2.2.1 rfl rfl rfl rfl ?_
  refine r_goto (t := 37) gX6_firstSlipping_83.2.2.2.2.2.2.2.2.2.2.2.2.2.1 rfl ?_
  exact r_sub (L' := [(0, .ref 42), (1, .int l1), (2, .int l2), (3, .int l3), (4, .int l4), (5, .int (l5 + (1 : Int32)))]) (sub_c rfl (sub_c rfl (sub_c rfl (sub_c rfl (sub_c rfl (sub_c rfl sub_n)))))) (hrec_37 q l1 l2 l3 l4 (l5 + (1 : Int32)))
def b_X6_firstSlipping_99 (rec_28 : SS → Int32 → Int32 → Int32 → Int32 → Option (Int32 × SS)) (rec_37 : SS → Int32 → Int32 → Int32 → Int32 → Int32 → Option (Int32 × SS)) (q : SS) (l1 : Int32) (l4 : Int32) (l5 : Int32) (l6 : Int32) (l7 : Int32) : Option (Int32 × SS) :=
  b_X6_firstSlipping_105 rec_28 rec_37 q l1 l6 l7 l4 l5
theorem rb_X6_firstSlipping_99 {E : EE} (hE : GE E) {rec_28 : SS → Int32 → Int32 → Int32 → Int32 → Option (Int32 × SS)} (hrec_28 : ∀ (yq : SS) (yl1 : Int32) (yl2 : Int32) (yl3 : Int32) (yl4 : Int32), R E (κI E) 63 76 28 [(0, .ref 42), (1, .int yl1), (2, .int yl2), (3, .int yl3), (4, .int yl4)] [] yq (rec_28 yq yl1 yl2 yl3 yl4)) {rec_37 : SS → Int32 → Int32 → Int32 → Int32 → Int32 → Option (Int32 × SS)} (hrec_37 : ∀ (yq : SS) (yl1 : Int32) (yl2 : Int32) (yl3 : Int32) (yl4 : Int32) (yl5 : Int32), R E (κI E) 63 76 37 [(0, .ref 42), (1, .int yl1), (2, .int yl2), (3, .int yl3), (4, .int yl4), (5, .int yl5)] [] yq (rec_37 yq yl1 yl2 yl3 yl4 yl5)) (q : SS) (l1 : Int32) (l4 : Int32) (l5 : Int32) (l6 : Int32) (l7 : Int32) : R E (κI E) 63 76 99 [(0, .ref 42), (1, .int l1), (4, .int l4), (5, .int l5), (6, .int l6), (7, .int l7)] [] q (b_X6_firstSlipping_99 rec_28 rec_37 q l1 l4 l5 l6 l7) := by
  unfold b_X6_firstSlipping_99
  refine r_iload (x := l6) gX6_firstSlipping_83.2.2.2.2.2.2.2.2.1 rfl ?_
  refine r_istore_n (L2 := [(0, .ref 42), (1, .int l1), (2, .int l6), (4, .int l4), (5, .int l5), (6, .int l6), (7, .int l7)]) gX6_firstSlipping_83.2.2.2.2.2.2.2.2.2.1 rfl rfl ?_
  refine r_iload (x := l7) gX6_firstSlipping_83.2.2.2.2.2.2.2.2.2.2.1 rfl ?_
  refine r_istore_n (L2 := [(0, .ref 42), (1, .int l1), (2, .int l6), (3, .int l7), (4, .int l4), (5, .int l5), (6, .int l6), (7, .int l7)]) gX6_firstSlipping_83.2.2.2.2.2.2.2.2.2.2.2.1 rfl rfl ?_
  exact r_sub (L' := [(0, .ref 42), (1, .int l1), (2, .int l6), (3, .int l7), (4, .int l4), (5, .int l5)]) (sub_c rfl (sub_c rfl (sub_c rfl (sub_c rfl (sub_c rfl (sub_c rfl sub_n)))))) (rb_X6_firstSlipping_105 hE hrec_28 hrec_37 q l1 l6 l7 l4 l5)
def b_X6_firstSlipping_37 (rec_28 : SS → Int32 → Int32 → Int32 → Int32 → Option (Int32 × SS)) : SS → Int32 → Int32 → Int32 → Int32 → Int32 → Option (Int32 × SS) :=
  fx6 (fun (rec_37 : SS → Int32 → Int32 → Int32 → Int32 → Int32 → Option (Int32 × SS)) (q : SS) (l1 : Int32) (l2 : Int32) (l3 : Int32) (l4 : Int32) (l5 : Int32) =>
  (f_X10_people q).bind fun r3 =>
  if r3 ≤ l5 then
  (rec_28 q l1 l2 l3 (l4 + (1 : Int32)))
  else
  ((f_X6_tried q (0 : Int32) (0 : Int32) l4 l5 l1).bind fun r4 =>
  if vin l4 4 then
  nm (((8 : Int32) * (r4.2.1 44 l4.toNatClampNeg)) + l5) fun v5 =>
  if l2 < r4.1 then
  (b_X6_firstSlipping_99 rec_28 rec_37 r4.2 l1 l4 l5 r4.1 v5)
  else
  (if r4.1 = l2 then
  (if l3 < 0 then
  (b_X6_firstSlipping_105 rec_28 rec_37 r4.2 l1 l2 l3 l4 l5)
  else
  (if l3 ≤ v5 then
  (b_X6_firstSlipping_105 rec_28 rec_37 r4.2 l1 l2 l3 l4 l5)
  else
  (b_X6_firstSlipping_99 rec_28 rec_37 r4.2 l1 l4 l5 r4.1 v5)))
  else
  (b_X6_firstSlipping_105 rec_28 rec_37 r4.2 l1 l2 l3 l4 l5))
  else none)) FU
theorem rb_X6_firstSlipping_37 {E : EE} (hE : GE E) {rec_28 : SS → Int32 → Int32 → Int32 → Int32 → Option (Int32 × SS)} (hrec_28 : ∀ (yq : SS) (yl1 : Int32) (yl2 : Int32) (yl3 : Int32) (yl4 : Int32), R E (κI E) 63 76 28 [(0, .ref 42), (1, .int yl1), (2, .int yl2), (3, .int yl3), (4, .int yl4)] [] yq (rec_28 yq yl1 yl2 yl3 yl4)) (q : SS) (l1 : Int32) (l2 : Int32) (l3 : Int32) (l4 : Int32) (l5 : Int32) : R E (κI E) 63 76 37 [(0, .ref 42), (1, .int l1), (2, .int l2), (3, .int l3), (4, .int l4), (5, .int l5)] [] q (b_X6_firstSlipping_37 rec_28 q l1 l2 l3 l4 l5) := by
  unfold b_X6_firstSlipping_37
  refine fx6_ok (P := fun q l1 l2 l3 l4 l5 o => R E (κI E) 63 76 37 [(0, .ref 42), (1, .int l1), (2, .int l2), (3, .int l3), (4, .int l4), (5, .int l5)] [] q o) (fun _ _ _ _ _ _ => r_no) (fun rec_37 hrec_37 q l1 l2 l3 l4 l5 => ?_) _ _ _ _ _ _ _
  refine r_iload (x := l5) gX6_firstSlipping_25.2.2.2.2.2.2.2.1 rfl ?_
  refine r_aload_n (x := 42) gX6_firstSlipping_25.2.2.2.2.2.2.2.2.1 rfl ?_
  refine r_getA gX6_firstSlipping_25.2.2.2.2.2.2.2.2.2.1 (fa_6_9_42 hE) ?_
  refine r_calli (k := 0) (idx := 88) (y := 125) (as := [.ref 1]) (rest := [.int l5]) (L0 := [(0, .ref 1)]) gX6_firstSlipping_25.2.2.2.2.2.2.2.2.2.2.1 rfl rfl rfl rfl rfl (vok_v (ob_1 hE) rfl) rfl (r_dep (by decide) (e_X10_people hE q)) (fun r3 => ?_)
  refine r_icmp_ge (t := 111) gX6_firstSlipping_25.2.2.2.2.2.2.2.2.2.2.2.1 rfl (fun h10 => ?_) (fun h10 => ?_)
  · refine r_iinc (x := l4) (v := (l4 + (1 : Int32))) (L2 := [(0, .ref 42), (1, .int l1), (2, .int l2), (3, .int l3), (4, .int (l4 + (1 : Int32))), (5, .int l5)]) gX6_firstSlipping_83.2.2.2.2.2.2.2.2.2.2.2.2.2.2.1 rfl rfl rfl rfl ?_
    refine r_goto (t := 28) gX6_firstSlipping_83.2.2.2.2.2.2.2.2.2.2.2.2.2.2.2.1 rfl ?_
    exact r_sub (L' := [(0, .ref 42), (1, .int l1), (2, .int l2), (3, .int l3), (4, .int (l4 + (1 : Int32)))]) (sub_c rfl (sub_c rfl (sub_c rfl (sub_c rfl (sub_c rfl sub_n))))) (hrec_28 q l1 l2 l3 (l4 + (1 : Int32)))
  · refine r_aload_n (x := 42) gX6_firstSlipping_25.2.2.2.2.2.2.2.2.2.2.2.2.1 rfl ?_
    refine r_iconst (v := (0 : Int32)) gX6_firstSlipping_25.2.2.2.2.2.2.2.2.2.2.2.2.2.1 rfl ?_
    refine r_iconst (v := (0 : Int32)) gX6_firstSlipping_25.2.2.2.2.2.2.2.2.2.2.2.2.2.2.1 rfl ?_
    refine r_iload (x := l4) gX6_firstSlipping_25.2.2.2.2.2.2.2.2.2.2.2.2.2.2.2.1 rfl ?_
    refine r_iload (x := l5) gX6_firstSlipping_54.1 rfl ?_
    refine r_iload_n (x := l1) gX6_firstSlipping_54.2.1 rfl ?_
    refine r_callI (k := 2) (idx := 109) (y := 75) (as := [.ref 42, .int (0 : Int32), .int (0 : Int32), .int l4, .int l5, .int l1]) (rest := []) (L0 := [(0, .ref 42), (1, .int (0 : Int32)), (2, .int (0 : Int32)), (3, .int l4), (4, .int l5), (5, .int l1)]) gX6_firstSlipping_54.2.2.1 rfl rfl rfl rfl rfl vok_s rfl (r_dep (by decide) (e_X6_tried hE q (0 : Int32) (0 : Int32) l4 l5 l1)) (fun r4 => ?_)
    refine r_istore (L2 := [(0, .ref 42), (1, .int l1), (2, .int l2), (3, .int l3), (4, .int l4), (5, .int l5), (6, .int r4.1)]) gX6_firstSlipping_54.2.2.2.1 rfl rfl ?_
    refine r_bipush (v := (8 : Int32)) gX6_firstSlipping_54.2.2.2.2.1 rfl ?_
    refine r_aload_n (x := 42) gX6_firstSlipping_54.2.2.2.2.2.1 rfl ?_
    refine r_getA gX6_firstSlipping_54.2.2.2.2.2.2.1 (fa_6_23_42 hE) ?_
    refine r_iload (x := l4) gX6_firstSlipping_54.2.2.2.2.2.2.2.1 rfl ?_
    refine r_iaload gX6_firstSlipping_54.2.2.2.2.2.2.2.2.1 (ar_44 hE) ?_
    refine r_imul gX6_firstSlipping_54.2.2.2.2.2.2.2.2.2.1 ?_
    refine r_iload (x := l5) gX6_firstSlipping_54.2.2.2.2.2.2.2.2.2.2.1 rfl ?_
    refine r_iadd gX6_firstSlipping_54.2.2.2.2.2.2.2.2.2.2.2.1 ?_
    refine r_nmI fun v5 _ => ?_
    refine r_istore (L2 := [(0, .ref 42), (1, .int l1), (2, .int l2), (3, .int l3), (4, .int l4), (5, .int l5), (6, .int r4.1), (7, .int v5)]) gX6_firstSlipping_54.2.2.2.2.2.2.2.2.2.2.2.2.1 rfl rfl ?_
    refine r_iload (x := r4.1) gX6_firstSlipping_54.2.2.2.2.2.2.2.2.2.2.2.2.2.1 rfl ?_
    refine r_iload_n (x := l2) gX6_firstSlipping_54.2.2.2.2.2.2.2.2.2.2.2.2.2.2.1 rfl ?_
    refine r_icmp_gt (t := 99) gX6_firstSlipping_54.2.2.2.2.2.2.2.2.2.2.2.2.2.2.2.1 rfl (fun h9 => ?_) (fun h9 => ?_)
    · exact r_sub (L' := [(0, .ref 42), (1, .int l1), (4, .int l4), (5, .int l5), (6, .int r4.1), (7, .int v5)]) (sub_c rfl (sub_c rfl (sub_c rfl (sub_c rfl (sub_c rfl (sub_c rfl sub_n)))))) (rb_X6_firstSlipping_99 hE hrec_28 hrec_37 r4.2 l1 l4 l5 r4.1 v5)
    · refine r_iload (x := r4.1) gX6_firstSlipping_83.1 rfl ?_
      refine r_iload_n (x := l2) gX6_firstSlipping_83.2.1 rfl ?_
      refine r_icmp_ne (t := 105) gX6_firstSlipping_83.2.2.1 rfl (fun h8 => ?_) (fun h8 => ?_)
      · refine r_iload_n (x := l3) gX6_firstSlipping_83.2.2.2.1 rfl ?_
        refine r_if_lt (t := 105) gX6_firstSlipping_83.2.2.2.2.1 rfl (fun h7 => ?_) (fun h7 => ?_)
        · exact r_sub (L' := [(0, .ref 42), (1, .int l1), (2, .int l2), (3, .int l3), (4, .int l4), (5, .int l5)]) (sub_c rfl (sub_c rfl (sub_c rfl (sub_c rfl (sub_c rfl (sub_c rfl sub_n)))))) (rb_X6_firstSlipping_105 hE hrec_28 hrec_37 r4.2 l1 l2 l3 l4 l5)
        · refine r_iload (x := v5) gX6_firstSlipping_83.2.2.2.2.2.1 rfl ?_
          refine r_iload_n (x := l3) gX6_firstSlipping_83.2.2.2.2.2.2.1 rfl ?_
          refine r_icmp_ge (t := 105) gX6_firstSlipping_83.2.2.2.2.2.2.2.1 rfl (fun h6 => ?_) (fun h6 => ?_)
          · exact r_sub (L' := [(0, .ref 42), (1, .int l1), (2, .int l2), (3, .int l3), (4, .int l4), (5, .int l5)]) (sub_c rfl (sub_c rfl (sub_c rfl (sub_c rfl (sub_c rfl (sub_c rfl sub_n)))))) (rb_X6_firstSlipping_105 hE hrec_28 hrec_37 r4.2 l1 l2 l3 l4 l5)
          · exact r_sub (L' := [(0, .ref 42), (1, .int l1), (4, .int l4), (5, .int l5), (6, .int r4.1), (7, .int v5)]) (sub_c rfl (sub_c rfl (sub_c rfl (sub_c rfl (sub_c rfl (sub_c rfl sub_n)))))) (rb_X6_firstSlipping_99 hE hrec_28 hrec_37 r4.2 l1 l4 l5 r4.1 v5)
      · exact r_sub (L' := [(0, .ref 42), (1, .int l1), (2, .int l2), (3, .int l3), (4, .int l4), (5, .int l5)]) (sub_c rfl (sub_c rfl (sub_c rfl (sub_c rfl (sub_c rfl (sub_c rfl sub_n)))))) (rb_X6_firstSlipping_105 hE hrec_28 hrec_37 r4.2 l1 l2 l3 l4 l5)
def b_X6_firstSlipping_28 : SS → Int32 → Int32 → Int32 → Int32 → Option (Int32 × SS) :=
  fx5 (fun (rec_28 : SS → Int32 → Int32 → Int32 → Int32 → Option (Int32 × SS)) (q : SS) (l1 : Int32) (l2 : Int32) (l3 : Int32) (l4 : Int32) =>
  if (4 : Int32) ≤ l4 then
  (some (l3, q))
  else
  (b_X6_firstSlipping_37 rec_28 q l1 l2 l3 l4 (0 : Int32))) FU
theorem rb_X6_firstSlipping_28 {E : EE} (hE : GE E) (q : SS) (l1 : Int32) (l2 : Int32) (l3 : Int32) (l4 : Int32) : R E (κI E) 63 76 28 [(0, .ref 42), (1, .int l1), (2, .int l2), (3, .int l3), (4, .int l4)] [] q (b_X6_firstSlipping_28 q l1 l2 l3 l4) := by
  unfold b_X6_firstSlipping_28
  refine fx5_ok (P := fun q l1 l2 l3 l4 o => R E (κI E) 63 76 28 [(0, .ref 42), (1, .int l1), (2, .int l2), (3, .int l3), (4, .int l4)] [] q o) (fun _ _ _ _ _ => r_no) (fun rec_28 hrec_28 q l1 l2 l3 l4 => ?_) _ _ _ _ _ _
  refine r_iload (x := l4) gX6_firstSlipping_25.2.2.1 rfl ?_
  refine r_iconst (v := (4 : Int32)) gX6_firstSlipping_25.2.2.2.1 rfl ?_
  refine r_icmp_ge (t := 117) gX6_firstSlipping_25.2.2.2.2.1 rfl (fun h11 => ?_) (fun h11 => ?_)
  · refine r_iload_n (x := l3) gX6_firstSlipping_117.1 rfl ?_
    exact r_ireturn gX6_firstSlipping_117.2.1 rfl rfl
  · refine r_iconst (v := (0 : Int32)) gX6_firstSlipping_25.2.2.2.2.2.1 rfl ?_
    refine r_istore (L2 := [(0, .ref 42), (1, .int l1), (2, .int l2), (3, .int l3), (4, .int l4), (5, .int (0 : Int32))]) gX6_firstSlipping_25.2.2.2.2.2.2.1 rfl rfl ?_
    exact r_sub (L' := [(0, .ref 42), (1, .int l1), (2, .int l2), (3, .int l3), (4, .int l4), (5, .int (0 : Int32))]) (sub_c rfl (sub_c rfl (sub_c rfl (sub_c rfl (sub_c rfl (sub_c rfl sub_n)))))) (rb_X6_firstSlipping_37 hE hrec_28 q l1 l2 l3 l4 (0 : Int32))
def f_X6_firstSlipping (q : SS)  : Option (Int32 × SS) :=
  if (q.1 42 7) = 0 then
  (some ((-2 : Int32), q))
  else
  ((f_X6_best q (1 : Int32) (0 : Int32)).bind fun r1 =>
  nm ((12 : Int32) * r1.1) fun v2 =>
  b_X6_firstSlipping_28 r1.2 r1.1 v2 (-2 : Int32) (0 : Int32))
theorem e_X6_firstSlipping {E : EE} (hE : GE E) (q : SS)  : R E (κI E) 63 76 0 [(0, .ref 42)] [] q (f_X6_firstSlipping q) := by
  unfold f_X6_firstSlipping
  refine r_aload_n (x := 42) gX6_firstSlipping_0.1 rfl ?_
  refine r_getI gX6_firstSlipping_0.2.1 (ff_6_41_42 hE) (by decide) ?_
  refine r_if_ne (t := 10) gX6_firstSlipping_0.2.2.1 rfl (fun h12 => ?_) (fun h12 => ?_)
  · refine r_bipush (v := (-2 : Int32)) gX6_firstSlipping_0.2.2.2.1 rfl ?_
    exact r_ireturn gX6_firstSlipping_0.2.2.2.2.1 rfl rfl
  · refine r_aload_n (x := 42) gX6_firstSlipping_0.2.2.2.2.2.1 rfl ?_
    refine r_iconst (v := (1 : Int32)) gX6_firstSlipping_0.2.2.2.2.2.2.1 rfl ?_
    refine r_iconst (v := (0 : Int32)) gX6_firstSlipping_0.2.2.2.2.2.2.2.1 rfl ?_
    refine r_callI (k := 2) (idx := 102) (y := 74) (as := [.ref 42, .int (1 : Int32), .int (0 : Int32)]) (rest := []) (L0 := [(0, .ref 42), (1, .int (1 : Int32)), (2, .int (0 : Int32))]) gX6_firstSlipping_0.2.2.2.2.2.2.2.2.1 rfl rfl rfl rfl rfl vok_s rfl (r_dep (by decide) (e_X6_best hE q (1 : Int32) (0 : Int32))) (fun r1 => ?_)
    refine r_istore_n (L2 := [(0, .ref 42), (1, .int r1.1)]) gX6_firstSlipping_0.2.2.2.2.2.2.2.2.2.1 rfl rfl ?_
    refine r_bipush (v := (12 : Int32)) gX6_firstSlipping_0.2.2.2.2.2.2.2.2.2.2.1 rfl ?_
    refine r_iload_n (x := r1.1) gX6_firstSlipping_0.2.2.2.2.2.2.2.2.2.2.2.1 rfl ?_
    refine r_imul gX6_firstSlipping_0.2.2.2.2.2.2.2.2.2.2.2.2.1 ?_
    refine r_nmI fun v2 _ => ?_
    refine r_istore_n (L2 := [(0, .ref 42), (1, .int r1.1), (2, .int v2)]) gX6_firstSlipping_0.2.2.2.2.2.2.2.2.2.2.2.2.2.1 rfl rfl ?_
    refine r_bipush (v := (-2 : Int32)) gX6_firstSlipping_0.2.2.2.2.2.2.2.2.2.2.2.2.2.2.1 rfl ?_
    refine r_istore_n (L2 := [(0, .ref 42), (1, .int r1.1), (2, .int v2), (3, .int (-2 : Int32))]) gX6_firstSlipping_0.2.2.2.2.2.2.2.2.2.2.2.2.2.2.2.1 rfl rfl ?_
    refine r_iconst (v := (0 : Int32)) gX6_firstSlipping_25.1 rfl ?_
    refine r_istore (L2 := [(0, .ref 42), (1, .int r1.1), (2, .int v2), (3, .int (-2 : Int32)), (4, .int (0 : Int32))]) gX6_firstSlipping_25.2.1 rfl rfl ?_
    exact r_sub (L' := [(0, .ref 42), (1, .int r1.1), (2, .int v2), (3, .int (-2 : Int32)), (4, .int (0 : Int32))]) (sub_c rfl (sub_c rfl (sub_c rfl (sub_c rfl (sub_c rfl sub_n))))) (rb_X6_firstSlipping_28 hE r1.2 r1.1 v2 (-2 : Int32) (0 : Int32))

def b_X12_allReal_24 (rec_4 : Int32 → Int32 → Option Int32) (q : SS) (l1 : Int32) (l2 : Int32) : Option Int32 :=
  rec_4 l1 (l2 + (1 : Int32))
theorem rb_X12_allReal_24 {E : EE} (hE : GE E) {q : SS} {rec_4 : Int32 → Int32 → Option Int32} (hrec_4 : ∀ (yl1 : Int32) (yl2 : Int32), R E (κi E q) 0 229 4 [(0, .ref 60), (1, .int yl1), (2, .int yl2)] [] q (rec_4 yl1 yl2)) (l1 : Int32) (l2 : Int32) : R E (κi E q) 0 229 24 [(0, .ref 60), (1, .int l1), (2, .int l2)] [] q (b_X12_allReal_24 rec_4 q l1 l2) := by
  unfold b_X12_allReal_24
  refine r_iinc (x := l2) (v := (l2 + (1 : Int32))) (L2 := [(0, .ref 60), (1, .int l1), (2, .int (l2 + (1 : Int32)))]) gX12_allReal_0.2.2.2.2.2.2.2.2.2.2.2.2.2.2.1 rfl rfl rfl rfl ?_
  refine r_goto (t := 4) gX12_allReal_0.2.2.2.2.2.2.2.2.2.2.2.2.2.2.2.1 rfl ?_
  exact r_sub (L' := [(0, .ref 60), (1, .int l1), (2, .int (l2 + (1 : Int32)))]) (sub_c rfl (sub_c rfl (sub_c rfl sub_n))) (hrec_4 l1 (l2 + (1 : Int32)))
def b_X12_allReal_4 (q : SS) : Int32 → Int32 → Option Int32 :=
  fx2 (fun (rec_4 : Int32 → Int32 → Option Int32) (l1 : Int32) (l2 : Int32) =>
  if (q.1 60 6) ≤ l2 then
  (some l1)
  else
  (if vin l2 12 then
  if (q.1 66 l2.toNatClampNeg) = 0 then
  (b_X12_allReal_24 rec_4 q (l1 + (1 : Int32)) l2)
  else
  (b_X12_allReal_24 rec_4 q l1 l2)
  else none)) FU
theorem rb_X12_allReal_4 {E : EE} (hE : GE E) (q : SS) (l1 : Int32) (l2 : Int32) : R E (κi E q) 0 229 4 [(0, .ref 60), (1, .int l1), (2, .int l2)] [] q (b_X12_allReal_4 q l1 l2) := by
  unfold b_X12_allReal_4
  refine fx2_ok (P := fun l1 l2 o => R E (κi E q) 0 229 4 [(0, .ref 60), (1, .int l1), (2, .int l2)] [] q o) (fun _ _ => r_no) (fun rec_4 hrec_4 l1 l2 => ?_) _ _ _
  refine r_iload_n (x := l2) gX12_allReal_0.2.2.2.2.1 rfl ?_
  refine r_aload_n (x := 60) gX12_allReal_0.2.2.2.2.2.1 rfl ?_
  refine r_getI gX12_allReal_0.2.2.2.2.2.2.1 (ff_12_122_60 hE) (by decide) ?_
  refine r_icmp_ge (t := 30) gX12_allReal_0.2.2.2.2.2.2.2.1 rfl (fun h2 => ?_) (fun h2 => ?_)
  · refine r_iload_n (x := l1) gX12_allReal_30.1 rfl ?_
    exact r_ireturn gX12_allReal_30.2.1 rfl rfl
  · refine r_aload_n (x := 60) gX12_allReal_0.2.2.2.2.2.2.2.2.1 rfl ?_
    refine r_getA gX12_allReal_0.2.2.2.2.2.2.2.2.2.1 (fa_12_27_60 hE) ?_
    refine r_iload_n (x := l2) gX12_allReal_0.2.2.2.2.2.2.2.2.2.2.1 rfl ?_
    refine r_iaload gX12_allReal_0.2.2.2.2.2.2.2.2.2.2.2.1 (ar_66 hE) ?_
    refine r_if_ne (t := 24) gX12_allReal_0.2.2.2.2.2.2.2.2.2.2.2.2.1 rfl (fun h1 => ?_) (fun h1 => ?_)
    · refine r_iinc (x := l1) (v := (l1 + (1 : Int32))) (L2 := [(0, .ref 60), (1, .int (l1 + (1 : Int32))), (2, .int l2)]) gX12_allReal_0.2.2.2.2.2.2.2.2.2.2.2.2.2.1 rfl rfl rfl rfl ?_
      exact r_sub (L' := [(0, .ref 60), (1, .int (l1 + (1 : Int32))), (2, .int l2)]) (sub_c rfl (sub_c rfl (sub_c rfl sub_n))) (rb_X12_allReal_24 hE hrec_4 (l1 + (1 : Int32)) l2)
    · exact r_sub (L' := [(0, .ref 60), (1, .int l1), (2, .int l2)]) (sub_c rfl (sub_c rfl (sub_c rfl sub_n))) (rb_X12_allReal_24 hE hrec_4 l1 l2)
def f_X12_allReal (q : SS)  : Option Int32 :=
  b_X12_allReal_4 q (0 : Int32) (0 : Int32)
theorem e_X12_allReal {E : EE} (hE : GE E) (q : SS)  : R E (κi E q) 0 229 0 [(0, .ref 60)] [] q (f_X12_allReal q) := by
  unfold f_X12_allReal
  refine r_iconst (v := (0 : Int32)) gX12_allReal_0.1 rfl ?_
  refine r_istore_n (L2 := [(0, .ref 60), (1, .int (0 : Int32))]) gX12_allReal_0.2.1 rfl rfl ?_
  refine r_iconst (v := (0 : Int32)) gX12_allReal_0.2.2.1 rfl ?_
  refine r_istore_n (L2 := [(0, .ref 60), (1, .int (0 : Int32)), (2, .int (0 : Int32))]) gX12_allReal_0.2.2.2.1 rfl rfl ?_
  exact r_sub (L' := [(0, .ref 60), (1, .int (0 : Int32)), (2, .int (0 : Int32))]) (sub_c rfl (sub_c rfl (sub_c rfl sub_n))) (rb_X12_allReal_4 hE q (0 : Int32) (0 : Int32))
def b_X12_realAt_35 (rec_4 : Int32 → Int32 → Int32 → Option Int32) (q : SS) (l1 : Int32) (l2 : Int32) (l3 : Int32) : Option Int32 :=
  rec_4 l1 l2 (l3 + (1 : Int32))
theorem rb_X12_realAt_35 {E : EE} (hE : GE E) {q : SS} {rec_4 : Int32 → Int32 → Int32 → Option Int32} (hrec_4 : ∀ (yl1 : Int32) (yl2 : Int32) (yl3 : Int32), R E (κi E q) 0 262 4 [(0, .ref 60), (1, .int yl1), (2, .int yl2), (3, .int yl3)] [] q (rec_4 yl1 yl2 yl3)) (l1 : Int32) (l2 : Int32) (l3 : Int32) : R E (κi E q) 0 262 35 [(0, .ref 60), (1, .int l1), (2, .int l2), (3, .int l3)] [] q (b_X12_realAt_35 rec_4 q l1 l2 l3) := by
  unfold b_X12_realAt_35
  refine r_iinc (x := l3) (v := (l3 + (1 : Int32))) (L2 := [(0, .ref 60), (1, .int l1), (2, .int l2), (3, .int (l3 + (1 : Int32)))]) gX12_realAt_26.2.2.2.2.2.1 rfl rfl rfl rfl ?_
  refine r_goto (t := 4) gX12_realAt_26.2.2.2.2.2.2.1 rfl ?_
  exact r_sub (L' := [(0, .ref 60), (1, .int l1), (2, .int l2), (3, .int (l3 + (1 : Int32)))]) (sub_c rfl (sub_c rfl (sub_c rfl (sub_c rfl sub_n)))) (hrec_4 l1 l2 (l3 + (1 : Int32)))
def b_X12_realAt_4 (q : SS) : Int32 → Int32 → Int32 → Option Int32 :=
  fx3 (fun (rec_4 : Int32 → Int32 → Int32 → Option Int32) (l1 : Int32) (l2 : Int32) (l3 : Int32) =>
  if (q.1 60 6) ≤ l3 then
  (some (-2 : Int32))
  else
  (if vin l3 12 then
  if (q.1 66 l3.toNatClampNeg) = (1 : Int32) then
  (b_X12_realAt_35 rec_4 q l1 l2 l3)
  else
  (if l2 = l1 then
  (some l3)
  else
  (b_X12_realAt_35 rec_4 q l1 (l2 + (1 : Int32)) l3))
  else none)) FU
theorem rb_X12_realAt_4 {E : EE} (hE : GE E) (q : SS) (l1 : Int32) (l2 : Int32) (l3 : Int32) : R E (κi E q) 0 262 4 [(0, .ref 60), (1, .int l1), (2, .int l2), (3, .int l3)] [] q (b_X12_realAt_4 q l1 l2 l3) := by
  unfold b_X12_realAt_4
  refine fx3_ok (P := fun l1 l2 l3 o => R E (κi E q) 0 262 4 [(0, .ref 60), (1, .int l1), (2, .int l2), (3, .int l3)] [] q o) (fun _ _ _ => r_no) (fun rec_4 hrec_4 l1 l2 l3 => ?_) _ _ _ _
  refine r_iload_n (x := l3) gX12_realAt_0.2.2.2.2.1 rfl ?_
  refine r_aload_n (x := 60) gX12_realAt_0.2.2.2.2.2.1 rfl ?_
  refine r_getI gX12_realAt_0.2.2.2.2.2.2.1 (ff_12_122_60 hE) (by decide) ?_
  refine r_icmp_ge (t := 41) gX12_realAt_0.2.2.2.2.2.2.2.1 rfl (fun h3 => ?_) (fun h3 => ?_)
  · refine r_bipush (v := (-2 : Int32)) gX12_realAt_26.2.2.2.2.2.2.2.1 rfl ?_
    exact r_ireturn gX12_realAt_26.2.2.2.2.2.2.2.2.1 rfl rfl
  · refine r_aload_n (x := 60) gX12_realAt_0.2.2.2.2.2.2.2.2.1 rfl ?_
    refine r_getA gX12_realAt_0.2.2.2.2.2.2.2.2.2.1 (fa_12_27_60 hE) ?_
    refine r_iload_n (x := l3) gX12_realAt_0.2.2.2.2.2.2.2.2.2.2.1 rfl ?_
    refine r_iaload gX12_realAt_0.2.2.2.2.2.2.2.2.2.2.2.1 (ar_66 hE) ?_
    refine r_iconst (v := (1 : Int32)) gX12_realAt_0.2.2.2.2.2.2.2.2.2.2.2.2.1 rfl ?_
    refine r_icmp_ne (t := 25) gX12_realAt_0.2.2.2.2.2.2.2.2.2.2.2.2.2.1 rfl (fun h2 => ?_) (fun h2 => ?_)
    · refine r_goto (t := 35) gX12_realAt_0.2.2.2.2.2.2.2.2.2.2.2.2.2.2.1 rfl ?_
      exact r_sub (L' := [(0, .ref 60), (1, .int l1), (2, .int l2), (3, .int l3)]) (sub_c rfl (sub_c rfl (sub_c rfl (sub_c rfl sub_n)))) (rb_X12_realAt_35 hE hrec_4 l1 l2 l3)
    · refine r_iload_n (x := l2) gX12_realAt_0.2.2.2.2.2.2.2.2.2.2.2.2.2.2.2.1 rfl ?_
      refine r_iload_n (x := l1) gX12_realAt_26.1 rfl ?_
      refine r_icmp_ne (t := 32) gX12_realAt_26.2.1 rfl (fun h1 => ?_) (fun h1 => ?_)
      · refine r_iload_n (x := l3) gX12_realAt_26.2.2.1 rfl ?_
        exact r_ireturn gX12_realAt_26.2.2.2.1 rfl rfl
      · refine r_iinc (x := l2) (v := (l2 + (1 : Int32))) (L2 := [(0, .ref 60), (1, .int l1), (2, .int (l2 + (1 : Int32))), (3, .int l3)]) gX12_realAt_26.2.2.2.2.1 rfl rfl rfl rfl ?_
        exact r_sub (L' := [(0, .ref 60), (1, .int l1), (2, .int (l2 + (1 : Int32))), (3, .int l3)]) (sub_c rfl (sub_c rfl (sub_c rfl (sub_c rfl sub_n)))) (rb_X12_realAt_35 hE hrec_4 l1 (l2 + (1 : Int32)) l3)
def f_X12_realAt (q : SS) (a1 : Int32) : Option Int32 :=
  b_X12_realAt_4 q a1 (0 : Int32) (0 : Int32)
theorem e_X12_realAt {E : EE} (hE : GE E) (q : SS) (a1 : Int32) : R E (κi E q) 0 262 0 [(0, .ref 60), (1, .int a1)] [] q (f_X12_realAt q a1) := by
  unfold f_X12_realAt
  refine r_iconst (v := (0 : Int32)) gX12_realAt_0.1 rfl ?_
  refine r_istore_n (L2 := [(0, .ref 60), (1, .int a1), (2, .int (0 : Int32))]) gX12_realAt_0.2.1 rfl rfl ?_
  refine r_iconst (v := (0 : Int32)) gX12_realAt_0.2.2.1 rfl ?_
  refine r_istore_n (L2 := [(0, .ref 60), (1, .int a1), (2, .int (0 : Int32)), (3, .int (0 : Int32))]) gX12_realAt_0.2.2.2.1 rfl rfl ?_
  exact r_sub (L' := [(0, .ref 60), (1, .int a1), (2, .int (0 : Int32)), (3, .int (0 : Int32))]) (sub_c rfl (sub_c rfl (sub_c rfl (sub_c rfl sub_n)))) (rb_X12_realAt_4 hE q a1 (0 : Int32) (0 : Int32))
def b_X12_drawn_232 (q : SS) (l3 : Int32) (l5 : Int32) (l6 : Int32) : Option (Int32 × SS) :=
  if 0 ≤ l3 then
  (some (l5, q))
  else
  (some (l6, q))
theorem rb_X12_drawn_232 {E : EE} (hE : GE E) (q : SS) (l3 : Int32) (l5 : Int32) (l6 : Int32) : R E (κI E) 4 263 232 [(3, .int l3), (5, .int l5), (6, .int l6)] [] q (b_X12_drawn_232 q l3 l5 l6) := by
  unfold b_X12_drawn_232
  refine r_iload_n (x := l3) gX12_drawn_210.2.2.2.2.2.2.2.2.2.2.1 rfl ?_
  refine r_if_ge (t := 241) gX12_drawn_210.2.2.2.2.2.2.2.2.2.2.2.1 rfl (fun h4 => ?_) (fun h4 => ?_)
  · refine r_iload (x := l5) gX12_drawn_210.2.2.2.2.2.2.2.2.2.2.2.2.2.2.1 rfl ?_
    exact r_ireturn gX12_drawn_210.2.2.2.2.2.2.2.2.2.2.2.2.2.2.2.1 rfl rfl
  · refine r_iload (x := l6) gX12_drawn_210.2.2.2.2.2.2.2.2.2.2.2.2.1 rfl ?_
    refine r_goto (t := 243) gX12_drawn_210.2.2.2.2.2.2.2.2.2.2.2.2.2.1 rfl ?_
    exact r_ireturn gX12_drawn_210.2.2.2.2.2.2.2.2.2.2.2.2.2.2.2.1 rfl rfl
def b_X12_drawn_226 (rec_58 : SS → Int32 → Int32 → Int32 → Int32 → Int32 → Int32 → Option (Int32 × SS)) (q : SS) (l2 : Int32) (l3 : Int32) (l4 : Int32) (l5 : Int32) (l6 : Int32) (l7 : Int32) : Option (Int32 × SS) :=
  rec_58 q l2 l3 l4 l5 l6 (l7 + (1 : Int32))
theorem rb_X12_drawn_226 {E : EE} (hE : GE E) {rec_58 : SS → Int32 → Int32 → Int32 → Int32 → Int32 → Int32 → Option (Int32 × SS)} (hrec_58 : ∀ (yq : SS) (yl2 : Int32) (yl3 : Int32) (yl4 : Int32) (yl5 : Int32) (yl6 : Int32) (yl7 : Int32), R E (κI E) 4 263 58 [(0, .ref 60), (2, .int yl2), (3, .int yl3), (4, .int yl4), (5, .int yl5), (6, .int yl6), (7, .int yl7)] [] yq (rec_58 yq yl2 yl3 yl4 yl5 yl6 yl7)) (q : SS) (l2 : Int32) (l3 : Int32) (l4 : Int32) (l5 : Int32) (l6 : Int32) (l7 : Int32) : R E (κI E) 4 263 226 [(0, .ref 60), (2, .int l2), (3, .int l3), (4, .int l4), (5, .int l5), (6, .int l6), (7, .int l7)] [] q (b_X12_drawn_226 rec_58 q l2 l3 l4 l5 l6 l7) := by
  unfold b_X12_drawn_226
  refine r_iinc (x := l7) (v := (l7 + (1 : Int32))) (L2 := [(0, .ref 60), (2, .int l2), (3, .int l3), (4, .int l4), (5, .int l5), (6, .int l6), (7, .int (l7 + (1 : Int32)))]) gX12_drawn_210.2.2.2.2.2.2.2.2.1 rfl rfl rfl rfl ?_
  refine r_goto (t := 58) gX12_drawn_210.2.2.2.2.2.2.2.2.2.1 rfl ?_
  exact r_sub (L' := [(0, .ref 60), (2, .int l2), (3, .int l3), (4, .int l4), (5, .int l5), (6, .int l6), (7, .int (l7 + (1 : Int32)))]) (sub_c rfl (sub_c rfl (sub_c rfl (sub_c rfl (sub_c rfl (sub_c rfl (sub_c rfl sub_n))))))) (hrec_58 q l2 l3 l4 l5 l6 (l7 + (1 : Int32)))
def b_X12_drawn_171 (rec_58 : SS → Int32 → Int32 → Int32 → Int32 → Int32 → Int32 → Option (Int32 × SS)) (rec_81 : SS → Int32 → Int32 → Int32 → Int32 → Int32 → Int32 → Int32 → Option (Int32 × SS)) (q : SS) (l2 : Int32) (l3 : Int32) (l4 : Int32) (l5 : Int32) (l6 : Int32) (l7 : Int32) (l8 : Int32) : Option (Int32 × SS) :=
  rec_81 q l2 l3 l4 l5 l6 l7 (l8 + (1 : Int32))
theorem rb_X12_drawn_171 {E : EE} (hE : GE E) {rec_58 : SS → Int32 → Int32 → Int32 → Int32 → Int32 → Int32 → Option (Int32 × SS)} (hrec_58 : ∀ (yq : SS) (yl2 : Int32) (yl3 : Int32) (yl4 : Int32) (yl5 : Int32) (yl6 : Int32) (yl7 : Int32), R E (κI E) 4 263 58 [(0, .ref 60), (2, .int yl2), (3, .int yl3), (4, .int yl4), (5, .int yl5), (6, .int yl6), (7, .int yl7)] [] yq (rec_58 yq yl2 yl3 yl4 yl5 yl6 yl7)) {rec_81 : SS → Int32 → Int32 → Int32 → Int32 → Int32 → Int32 → Int32 → Option (Int32 × SS)} (hrec_81 : ∀ (yq : SS) (yl2 : Int32) (yl3 : Int32) (yl4 : Int32) (yl5 : Int32) (yl6 : Int32) (yl7 : Int32) (yl8 : Int32), R E (κI E) 4 263 81 [(0, .ref 60), (2, .int yl2), (3, .int yl3), (4, .int yl4), (5, .int yl5), (6, .int yl6), (7, .int yl7), (8, .int yl8)] [] yq (rec_81 yq yl2 yl3 yl4 yl5 yl6 yl7 yl8)) (q : SS) (l2 : Int32) (l3 : Int32) (l4 : Int32) (l5 : Int32) (l6 : Int32) (l7 : Int32) (l8 : Int32) : R E (κI E) 4 263 171 [(0, .ref 60), (2, .int l2), (3, .int l3), (4, .int l4), (5, .int l5), (6, .int l6), (7, .int l7), (8, .int l8)] [] q (b_X12_drawn_171 rec_58 rec_81 q l2 l3 l4 l5 l6 l7 l8) := by
  unfold b_X12_drawn_171
  refine r_iinc (x := l8) (v := (l8 + (1 : Int32))) (L2 := [(0, .ref 60), (2, .int l2), (3, .int l3), (4, .int l4), (5, .int l5), (6, .int l6), (7, .int l7), (8, .int (l8 + (1 : Int32)))]) gX12_drawn_144.2.2.2.2.2.2.2.2.2.2.2.2.2.1 rfl rfl rfl rfl ?_
  refine r_goto (t := 81) gX12_drawn_144.2.2.2.2.2.2.2.2.2.2.2.2.2.2.1 rfl ?_
  exact r_sub (L' := [(0, .ref 60), (2, .int l2), (3, .int l3), (4, .int l4), (5, .int l5), (6, .int l6), (7, .int l7), (8, .int (l8 + (1 : Int32)))]) (sub_c rfl (sub_c rfl (sub_c rfl (sub_c rfl (sub_c rfl (sub_c rfl (sub_c rfl (sub_c rfl sub_n)))))))) (hrec_81 q l2 l3 l4 l5 l6 l7 (l8 + (1 : Int32)))
def b_X12_drawn_81 (rec_58 : SS → Int32 → Int32 → Int32 → Int32 → Int32 → Int32 → Option (Int32 × SS)) : SS → Int32 → Int32 → Int32 → Int32 → Int32 → Int32 → Int32 → Option (Int32 × SS) :=
  fx8 (fun (rec_81 : SS → Int32 → Int32 → Int32 → Int32 → Int32 → Int32 → Int32 → Option (Int32 × SS)) (q : SS) (l2 : Int32) (l3 : Int32) (l4 : Int32) (l5 : Int32) (l6 : Int32) (l7 : Int32) (l8 : Int32) =>
  if (jrem l2 (100 : Int32)) ≤ l8 then
  (nm ((l4 * (1103515245 : Int32)) + (12345 : Int32)) fun v6 =>
  if l3 < 0 then
  (b_X12_drawn_226 rec_58 q l2 l3 v6 l5 l6 l7)
  else
  ((f_X12_allReal q).bind fun r7 =>
  if r7 ≤ 0 then
  (b_X12_drawn_226 rec_58 q l2 l3 v6 l5 l6 l7)
  else
  ((f_X12_allReal q).bind fun r8 =>
  if r8 = 0 then none else
  (f_X12_realAt q (jrem (jushr v6 (8 : Int32)) r8)).bind fun r9 =>
  if vin r9 12 then
  if (q.1 81 r9.toNatClampNeg) = l3 then
  (b_X12_drawn_226 rec_58 q l2 l3 v6 (l5 + (1 : Int32)) l6 l7)
  else
  (b_X12_drawn_226 rec_58 q l2 l3 v6 l5 l6 l7)
  else none)))
  else
  (nm ((l4 * (1103515245 : Int32)) + (12345 : Int32)) fun v13 =>
  if (q.1 60 6) = 0 then none else
  nm (jrem (jushr v13 (8 : Int32)) (q.1 60 6)) fun v14 =>
  if (q.1 60 1) = 0 then none else
  nm (jrem (jushr v13 (12 : Int32)) (q.1 60 1)) fun v15 =>
  (f_X12_maySlip q v14 v15).bind fun r16 =>
  if r16 = 0 then
  (b_X12_drawn_171 rec_58 rec_81 q l2 l3 v13 l5 l6 l7 l8)
  else
  ((f_X12_oddsOf q v14 v15).bind fun r17 =>
  if (jrem (jushr v13 (20 : Int32)) (12 : Int32)) < r17.1 then
  (if vin v14 12 then
  nm (sI r17.2 81 v14.toNatClampNeg v15) fun q18 =>
  b_X12_drawn_171 rec_58 rec_81 q18 l2 l3 v13 l5 (l6 + (1 : Int32)) l7 l8
  else none)
  else
  (b_X12_drawn_171 rec_58 rec_81 r17.2 l2 l3 v13 l5 l6 l7 l8)))) FU
theorem rb_X12_drawn_81 {E : EE} (hE : GE E) {rec_58 : SS → Int32 → Int32 → Int32 → Int32 → Int32 → Int32 → Option (Int32 × SS)} (hrec_58 : ∀ (yq : SS) (yl2 : Int32) (yl3 : Int32) (yl4 : Int32) (yl5 : Int32) (yl6 : Int32) (yl7 : Int32), R E (κI E) 4 263 58 [(0, .ref 60), (2, .int yl2), (3, .int yl3), (4, .int yl4), (5, .int yl5), (6, .int yl6), (7, .int yl7)] [] yq (rec_58 yq yl2 yl3 yl4 yl5 yl6 yl7)) (q : SS) (l2 : Int32) (l3 : Int32) (l4 : Int32) (l5 : Int32) (l6 : Int32) (l7 : Int32) (l8 : Int32) : R E (κI E) 4 263 81 [(0, .ref 60), (2, .int l2), (3, .int l3), (4, .int l4), (5, .int l5), (6, .int l6), (7, .int l7), (8, .int l8)] [] q (b_X12_drawn_81 rec_58 q l2 l3 l4 l5 l6 l7 l8) := by
  unfold b_X12_drawn_81
  refine fx8_ok (P := fun q l2 l3 l4 l5 l6 l7 l8 o => R E (κI E) 4 263 81 [(0, .ref 60), (2, .int l2), (3, .int l3), (4, .int l4), (5, .int l5), (6, .int l6), (7, .int l7), (8, .int l8)] [] q o) (fun _ _ _ _ _ _ _ _ => r_no) (fun rec_81 hrec_81 q l2 l3 l4 l5 l6 l7 l8 => ?_) _ _ _ _ _ _ _ _ _
  refine r_iload (x := l8) gX12_drawn_55.2.2.2.2.2.2.2.2.2.2.2.2.2.2.1 rfl ?_
  refine r_iload_n (x := l2) gX12_drawn_55.2.2.2.2.2.2.2.2.2.2.2.2.2.2.2.1 rfl ?_
  refine r_bipush (v := (100 : Int32)) gX12_drawn_84.1 rfl ?_
  refine r_iremC gX12_drawn_84.2.1 (by decide) ?_
  refine r_icmp_ge (t := 177) gX12_drawn_84.2.2.1 rfl (fun h21 => ?_) (fun h21 => ?_)
  · refine r_iload (x := l4) gX12_drawn_144.2.2.2.2.2.2.2.2.2.2.2.2.2.2.2.1 rfl ?_
    refine r_ldc (v := (1103515245 : Int32)) gX12_drawn_179.1 rfl ?_
    refine r_imul gX12_drawn_179.2.1 ?_
    refine r_sipush (v := (12345 : Int32)) gX12_drawn_179.2.2.1 rfl ?_
    refine r_iadd gX12_drawn_179.2.2.2.1 ?_
    refine r_nmI fun v6 _ => ?_
    refine r_istore (L2 := [(0, .ref 60), (2, .int l2), (3, .int l3), (4, .int v6), (5, .int l5), (6, .int l6), (7, .int l7), (8, .int l8)]) gX12_drawn_179.2.2.2.2.1 rfl rfl ?_
    refine r_iload_n (x := l3) gX12_drawn_179.2.2.2.2.2.1 rfl ?_
    refine r_if_lt (t := 226) gX12_drawn_179.2.2.2.2.2.2.1 rfl (fun h12 => ?_) (fun h12 => ?_)
    · exact r_sub (L' := [(0, .ref 60), (2, .int l2), (3, .int l3), (4, .int v6), (5, .int l5), (6, .int l6), (7, .int l7)]) (sub_c rfl (sub_c rfl (sub_c rfl (sub_c rfl (sub_c rfl (sub_c rfl (sub_c rfl sub_n))))))) (rb_X12_drawn_226 hE hrec_58 q l2 l3 v6 l5 l6 l7)
    · refine r_aload_n (x := 60) gX12_drawn_179.2.2.2.2.2.2.2.1 rfl ?_
      refine r_calli (k := 0) (idx := 292) (y := 229) (as := [.ref 60]) (rest := []) (L0 := [(0, .ref 60)]) gX12_drawn_179.2.2.2.2.2.2.2.2.1 rfl rfl rfl rfl rfl (vok_v (ob_60 hE) rfl) rfl (r_dep (by decide) (e_X12_allReal hE q)) (fun r7 => ?_)
      refine r_if_le (t := 226) gX12_drawn_179.2.2.2.2.2.2.2.2.2.1 rfl (fun h11 => ?_) (fun h11 => ?_)
      · exact r_sub (L' := [(0, .ref 60), (2, .int l2), (3, .int l3), (4, .int v6), (5, .int l5), (6, .int l6), (7, .int l7)]) (sub_c rfl (sub_c rfl (sub_c rfl (sub_c rfl (sub_c rfl (sub_c rfl (sub_c rfl sub_n))))))) (rb_X12_drawn_226 hE hrec_58 q l2 l3 v6 l5 l6 l7)
      · refine r_aload_n (x := 60) gX12_drawn_179.2.2.2.2.2.2.2.2.2.2.1 rfl ?_
        refine r_getA gX12_drawn_179.2.2.2.2.2.2.2.2.2.2.2.1 (fa_12_74_60 hE) ?_
        refine r_aload_n (x := 60) gX12_drawn_179.2.2.2.2.2.2.2.2.2.2.2.2.1 rfl ?_
        refine r_iload (x := v6) gX12_drawn_179.2.2.2.2.2.2.2.2.2.2.2.2.2.1 rfl ?_
        refine r_bipush (v := (8 : Int32)) gX12_drawn_179.2.2.2.2.2.2.2.2.2.2.2.2.2.2.1 rfl ?_
        refine r_iushr gX12_drawn_179.2.2.2.2.2.2.2.2.2.2.2.2.2.2.2.1 ?_
        refine r_aload_n (x := 60) gX12_drawn_210.1 rfl ?_
        refine r_calli (k := 0) (idx := 292) (y := 229) (as := [.ref 60]) (rest := [.int (jushr v6 (8 : Int32)), .ref 60, .ref 81]) (L0 := [(0, .ref 60)]) gX12_drawn_210.2.1 rfl rfl rfl rfl rfl (vok_v (ob_60 hE) rfl) rfl (r_dep (by decide) (e_X12_allReal hE q)) (fun r8 => ?_)
        refine r_irem gX12_drawn_210.2.2.1 ?_
        refine r_calli (k := 0) (idx := 353) (y := 262) (as := [.ref 60, .int (jrem (jushr v6 (8 : Int32)) r8)]) (rest := [.ref 81]) (L0 := [(0, .ref 60), (1, .int (jrem (jushr v6 (8 : Int32)) r8))]) gX12_drawn_210.2.2.2.1 rfl rfl rfl rfl rfl (vok_v (ob_60 hE) rfl) rfl (r_dep (by decide) (e_X12_realAt hE q (jrem (jushr v6 (8 : Int32)) r8))) (fun r9 => ?_)
        refine r_iaload gX12_drawn_210.2.2.2.2.1 (ar_81 hE) ?_
        refine r_iload_n (x := l3) gX12_drawn_210.2.2.2.2.2.1 rfl ?_
        refine r_icmp_ne (t := 226) gX12_drawn_210.2.2.2.2.2.2.1 rfl (fun h10 => ?_) (fun h10 => ?_)
        · refine r_iinc (x := l5) (v := (l5 + (1 : Int32))) (L2 := [(0, .ref 60), (2, .int l2), (3, .int l3), (4, .int v6), (5, .int (l5 + (1 : Int32))), (6, .int l6), (7, .int l7), (8, .int l8)]) gX12_drawn_210.2.2.2.2.2.2.2.1 rfl rfl rfl rfl ?_
          exact r_sub (L' := [(0, .ref 60), (2, .int l2), (3, .int l3), (4, .int v6), (5, .int (l5 + (1 : Int32))), (6, .int l6), (7, .int l7)]) (sub_c rfl (sub_c rfl (sub_c rfl (sub_c rfl (sub_c rfl (sub_c rfl (sub_c rfl sub_n))))))) (rb_X12_drawn_226 hE hrec_58 q l2 l3 v6 (l5 + (1 : Int32)) l6 l7)
        · exact r_sub (L' := [(0, .ref 60), (2, .int l2), (3, .int l3), (4, .int v6), (5, .int l5), (6, .int l6), (7, .int l7)]) (sub_c rfl (sub_c rfl (sub_c rfl (sub_c rfl (sub_c rfl (sub_c rfl (sub_c rfl sub_n))))))) (rb_X12_drawn_226 hE hrec_58 q l2 l3 v6 l5 l6 l7)
  · refine r_iload (x := l4) gX12_drawn_84.2.2.2.1 rfl ?_
    refine r_ldc (v := (1103515245 : Int32)) gX12_drawn_84.2.2.2.2.1 rfl ?_
    refine r_imul gX12_drawn_84.2.2.2.2.2.1 ?_
    refine r_sipush (v := (12345 : Int32)) gX12_drawn_84.2.2.2.2.2.2.1 rfl ?_
    refine r_iadd gX12_drawn_84.2.2.2.2.2.2.2.1 ?_
    refine r_nmI fun v13 _ => ?_
    refine r_istore (L2 := [(0, .ref 60), (2, .int l2), (3, .int l3), (4, .int v13), (5, .int l5), (6, .int l6), (7, .int l7), (8, .int l8)]) gX12_drawn_84.2.2.2.2.2.2.2.2.1 rfl rfl ?_
    refine r_iload (x := v13) gX12_drawn_84.2.2.2.2.2.2.2.2.2.1 rfl ?_
    refine r_bipush (v := (8 : Int32)) gX12_drawn_84.2.2.2.2.2.2.2.2.2.2.1 rfl ?_
    refine r_iushr gX12_drawn_84.2.2.2.2.2.2.2.2.2.2.2.1 ?_
    refine r_aload_n (x := 60) gX12_drawn_84.2.2.2.2.2.2.2.2.2.2.2.2.1 rfl ?_
    refine r_getI gX12_drawn_84.2.2.2.2.2.2.2.2.2.2.2.2.2.1 (ff_12_122_60 hE) (by decide) ?_
    refine r_irem gX12_drawn_84.2.2.2.2.2.2.2.2.2.2.2.2.2.2.1 ?_
    refine r_nmI fun v14 _ => ?_
    refine r_istore (L2 := [(0, .ref 60), (2, .int l2), (3, .int l3), (4, .int v13), (5, .int l5), (6, .int l6), (7, .int l7), (8, .int l8), (9, .int v14)]) gX12_drawn_84.2.2.2.2.2.2.2.2.2.2.2.2.2.2.2.1 rfl rfl ?_
    refine r_iload (x := v13) gX12_drawn_114.1 rfl ?_
    refine r_bipush (v := (12 : Int32)) gX12_drawn_114.2.1 rfl ?_
    refine r_iushr gX12_drawn_114.2.2.1 ?_
    refine r_aload_n (x := 60) gX12_drawn_114.2.2.2.1 rfl ?_
    refine r_getI gX12_drawn_114.2.2.2.2.1 (ff_12_115_60 hE) (by decide) ?_
    refine r_irem gX12_drawn_114.2.2.2.2.2.1 ?_
    refine r_nmI fun v15 _ => ?_
    refine r_istore (L2 := [(0, .ref 60), (2, .int l2), (3, .int l3), (4, .int v13), (5, .int l5), (6, .int l6), (7, .int l7), (8, .int l8), (9, .int v14), (10, .int v15)]) gX12_drawn_114.2.2.2.2.2.2.1 rfl rfl ?_
    refine r_aload_n (x := 60) gX12_drawn_114.2.2.2.2.2.2.2.1 rfl ?_
    refine r_iload (x := v14) gX12_drawn_114.2.2.2.2.2.2.2.2.1 rfl ?_
    refine r_iload (x := v15) gX12_drawn_114.2.2.2.2.2.2.2.2.2.1 rfl ?_
    refine r_calli (k := 0) (idx := 251) (y := 230) (as := [.ref 60, .int v14, .int v15]) (rest := []) (L0 := [(0, .ref 60), (1, .int v14), (2, .int v15)]) gX12_drawn_114.2.2.2.2.2.2.2.2.2.2.1 rfl rfl rfl rfl rfl (vok_v (ob_60 hE) rfl) rfl (r_dep (by decide) (e_X12_maySlip hE q v14 v15)) (fun r16 => ?_)
    refine r_if_eq (t := 171) gX12_drawn_114.2.2.2.2.2.2.2.2.2.2.2.1 rfl (fun h20 => ?_) (fun h20 => ?_)
    · exact r_sub (L' := [(0, .ref 60), (2, .int l2), (3, .int l3), (4, .int v13), (5, .int l5), (6, .int l6), (7, .int l7), (8, .int l8)]) (sub_c rfl (sub_c rfl (sub_c rfl (sub_c rfl (sub_c rfl (sub_c rfl (sub_c rfl (sub_c rfl sub_n)))))))) (rb_X12_drawn_171 hE hrec_58 hrec_81 q l2 l3 v13 l5 l6 l7 l8)
    · refine r_iload (x := v13) gX12_drawn_114.2.2.2.2.2.2.2.2.2.2.2.2.1 rfl ?_
      refine r_bipush (v := (20 : Int32)) gX12_drawn_114.2.2.2.2.2.2.2.2.2.2.2.2.2.1 rfl ?_
      refine r_iushr gX12_drawn_114.2.2.2.2.2.2.2.2.2.2.2.2.2.2.1 ?_
      refine r_bipush (v := (12 : Int32)) gX12_drawn_114.2.2.2.2.2.2.2.2.2.2.2.2.2.2.2.1 rfl ?_
      refine r_iremC gX12_drawn_144.1 (by decide) ?_
      refine r_aload_n (x := 60) gX12_drawn_144.2.1 rfl ?_
      refine r_iload (x := v14) gX12_drawn_144.2.2.1 rfl ?_
      refine r_iload (x := v15) gX12_drawn_144.2.2.2.1 rfl ?_
      refine r_callI (k := 0) (idx := 260) (y := 231) (as := [.ref 60, .int v14, .int v15]) (rest := [.int (jrem (jushr v13 (20 : Int32)) (12 : Int32))]) (L0 := [(0, .ref 60), (1, .int v14), (2, .int v15)]) gX12_drawn_144.2.2.2.2.1 rfl rfl rfl rfl rfl (vok_v (ob_60 hE) rfl) rfl (r_dep (by decide) (e_X12_oddsOf hE q v14 v15)) (fun r17 => ?_)
      refine r_icmp_lt (t := 159) gX12_drawn_144.2.2.2.2.2.1 rfl (fun h19 => ?_) (fun h19 => ?_)
      · refine r_aload_n (x := 60) gX12_drawn_144.2.2.2.2.2.2.2.1 rfl ?_
        refine r_getA gX12_drawn_144.2.2.2.2.2.2.2.2.1 (fa_12_74_60 hE) ?_
        refine r_iload (x := v14) gX12_drawn_144.2.2.2.2.2.2.2.2.2.1 rfl ?_
        refine r_iload (x := v15) gX12_drawn_144.2.2.2.2.2.2.2.2.2.2.1 rfl ?_
        refine r_iastore gX12_drawn_144.2.2.2.2.2.2.2.2.2.2.2.1 (ar_81 hE) ?_
        refine r_nmS fun q18 _ => ?_
        refine r_iinc (x := l6) (v := (l6 + (1 : Int32))) (L2 := [(0, .ref 60), (2, .int l2), (3, .int l3), (4, .int v13), (5, .int l5), (6, .int (l6 + (1 : Int32))), (7, .int l7), (8, .int l8), (9, .int v14), (10, .int v15)]) gX12_drawn_144.2.2.2.2.2.2.2.2.2.2.2.2.1 rfl rfl rfl rfl ?_
        exact r_sub (L' := [(0, .ref 60), (2, .int l2), (3, .int l3), (4, .int v13), (5, .int l5), (6, .int (l6 + (1 : Int32))), (7, .int l7), (8, .int l8)]) (sub_c rfl (sub_c rfl (sub_c rfl (sub_c rfl (sub_c rfl (sub_c rfl (sub_c rfl (sub_c rfl sub_n)))))))) (rb_X12_drawn_171 hE hrec_58 hrec_81 q18 l2 l3 v13 l5 (l6 + (1 : Int32)) l7 l8)
      · refine r_goto (t := 171) gX12_drawn_144.2.2.2.2.2.2.1 rfl ?_
        exact r_sub (L' := [(0, .ref 60), (2, .int l2), (3, .int l3), (4, .int v13), (5, .int l5), (6, .int l6), (7, .int l7), (8, .int l8)]) (sub_c rfl (sub_c rfl (sub_c rfl (sub_c rfl (sub_c rfl (sub_c rfl (sub_c rfl (sub_c rfl sub_n)))))))) (rb_X12_drawn_171 hE hrec_58 hrec_81 r17.2 l2 l3 v13 l5 l6 l7 l8)
def b_X12_drawn_58 : SS → Int32 → Int32 → Int32 → Int32 → Int32 → Int32 → Option (Int32 × SS) :=
  fx7 (fun (rec_58 : SS → Int32 → Int32 → Int32 → Int32 → Int32 → Int32 → Option (Int32 × SS)) (q : SS) (l2 : Int32) (l3 : Int32) (l4 : Int32) (l5 : Int32) (l6 : Int32) (l7 : Int32) =>
  if (l2 / (100 : Int32)) ≤ l7 then
  (b_X12_drawn_232 q l3 l5 l6)
  else
  (if (q.1 60 6) ≤ 0 then
  (b_X12_drawn_232 q l3 l5 l6)
  else
  ((f_X12_layNow q).bind fun r5 =>
  b_X12_drawn_81 rec_58 r5 l2 l3 l4 l5 l6 l7 (0 : Int32)))) FU
theorem rb_X12_drawn_58 {E : EE} (hE : GE E) (q : SS) (l2 : Int32) (l3 : Int32) (l4 : Int32) (l5 : Int32) (l6 : Int32) (l7 : Int32) : R E (κI E) 4 263 58 [(0, .ref 60), (2, .int l2), (3, .int l3), (4, .int l4), (5, .int l5), (6, .int l6), (7, .int l7)] [] q (b_X12_drawn_58 q l2 l3 l4 l5 l6 l7) := by
  unfold b_X12_drawn_58
  refine fx7_ok (P := fun q l2 l3 l4 l5 l6 l7 o => R E (κI E) 4 263 58 [(0, .ref 60), (2, .int l2), (3, .int l3), (4, .int l4), (5, .int l5), (6, .int l6), (7, .int l7)] [] q o) (fun _ _ _ _ _ _ _ => r_no) (fun rec_58 hrec_58 q l2 l3 l4 l5 l6 l7 => ?_) _ _ _ _ _ _ _ _
  refine r_iload (x := l7) gX12_drawn_55.2.2.1 rfl ?_
  refine r_iload_n (x := l2) gX12_drawn_55.2.2.2.1 rfl ?_
  refine r_bipush (v := (100 : Int32)) gX12_drawn_55.2.2.2.2.1 rfl ?_
  refine r_idivC gX12_drawn_55.2.2.2.2.2.1 (by decide) ?_
  refine r_icmp_ge (t := 232) gX12_drawn_55.2.2.2.2.2.2.1 rfl (fun h23 => ?_) (fun h23 => ?_)
  · exact r_sub (L' := [(3, .int l3), (5, .int l5), (6, .int l6)]) (sub_c rfl (sub_c rfl (sub_c rfl sub_n))) (rb_X12_drawn_232 hE q l3 l5 l6)
  · refine r_aload_n (x := 60) gX12_drawn_55.2.2.2.2.2.2.2.1 rfl ?_
    refine r_getI gX12_drawn_55.2.2.2.2.2.2.2.2.1 (ff_12_122_60 hE) (by decide) ?_
    refine r_if_le (t := 232) gX12_drawn_55.2.2.2.2.2.2.2.2.2.1 rfl (fun h22 => ?_) (fun h22 => ?_)
    · exact r_sub (L' := [(3, .int l3), (5, .int l5), (6, .int l6)]) (sub_c rfl (sub_c rfl (sub_c rfl sub_n))) (rb_X12_drawn_232 hE q l3 l5 l6)
    · refine r_aload_n (x := 60) gX12_drawn_55.2.2.2.2.2.2.2.2.2.2.1 rfl ?_
      refine r_callV (k := 0) (idx := 168) (y := 226) (as := [.ref 60]) (rest := []) (L0 := [(0, .ref 60)]) gX12_drawn_55.2.2.2.2.2.2.2.2.2.2.2.1 rfl rfl rfl rfl rfl (vok_v (ob_60 hE) rfl) rfl (r_dep (by decide) (e_X12_layNow hE q)) (fun r5 => ?_)
      refine r_iconst (v := (0 : Int32)) gX12_drawn_55.2.2.2.2.2.2.2.2.2.2.2.2.1 rfl ?_
      refine r_istore (L2 := [(0, .ref 60), (2, .int l2), (3, .int l3), (4, .int l4), (5, .int l5), (6, .int l6), (7, .int l7), (8, .int (0 : Int32))]) gX12_drawn_55.2.2.2.2.2.2.2.2.2.2.2.2.2.1 rfl rfl ?_
      exact r_sub (L' := [(0, .ref 60), (2, .int l2), (3, .int l3), (4, .int l4), (5, .int l5), (6, .int l6), (7, .int l7), (8, .int (0 : Int32))]) (sub_c rfl (sub_c rfl (sub_c rfl (sub_c rfl (sub_c rfl (sub_c rfl (sub_c rfl (sub_c rfl sub_n)))))))) (rb_X12_drawn_81 hE hrec_58 r5 l2 l3 l4 l5 l6 l7 (0 : Int32))
def f_X12_drawn (q : SS) (a1 : Int32) (a2 : Int32) (a3 : Int32) : Option (Int32 × SS) :=
  if a2 < 0 then
  (some ((-1 : Int32), q))
  else
  ((f_X12_in q (a2 / (100 : Int32)) (1 : Int32) (30 : Int32)).bind fun r1 =>
  if r1 = 0 then
  (some ((-1 : Int32), q))
  else
  ((f_X12_in q (jrem a2 (100 : Int32)) (1 : Int32) (30 : Int32)).bind fun r2 =>
  if r2 = 0 then
  (some ((-1 : Int32), q))
  else
  ((f_X12_in q a3 (-1 : Int32) ((q.1 60 1) - (1 : Int32))).bind fun r3 =>
  if r3 = 0 then
  (some ((-1 : Int32), q))
  else
  (b_X12_drawn_58 q a2 a3 a1 (0 : Int32) (0 : Int32) (0 : Int32)))))
theorem e_X12_drawn {E : EE} (hE : GE E) (q : SS) (a1 : Int32) (a2 : Int32) (a3 : Int32) : R E (κI E) 4 263 0 [(0, .ref 60), (1, .int a1), (2, .int a2), (3, .int a3)] [] q (f_X12_drawn q a1 a2 a3) := by
  unfold f_X12_drawn
  refine r_iload_n (x := a2) gX12_drawn_0.1 rfl ?_
  refine r_if_lt (t := 44) gX12_drawn_0.2.1 rfl (fun h27 => ?_) (fun h27 => ?_)
  · refine r_iconst (v := (-1 : Int32)) gX12_drawn_30.2.2.2.2.2.2.2.2.1 rfl ?_
    exact r_ireturn gX12_drawn_30.2.2.2.2.2.2.2.2.2.1 rfl rfl
  · refine r_iload_n (x := a2) gX12_drawn_0.2.2.1 rfl ?_
    refine r_bipush (v := (100 : Int32)) gX12_drawn_0.2.2.2.1 rfl ?_
    refine r_idivC gX12_drawn_0.2.2.2.2.1 (by decide) ?_
    refine r_iconst (v := (1 : Int32)) gX12_drawn_0.2.2.2.2.2.1 rfl ?_
    refine r_bipush (v := (30 : Int32)) gX12_drawn_0.2.2.2.2.2.2.1 rfl ?_
    refine r_calli (k := 2) (idx := 118) (y := 189) (as := [.int (a2 / (100 : Int32)), .int (1 : Int32), .int (30 : Int32)]) (rest := []) (L0 := [(0, .int (a2 / (100 : Int32))), (1, .int (1 : Int32)), (2, .int (30 : Int32))]) gX12_drawn_0.2.2.2.2.2.2.2.1 rfl rfl rfl rfl rfl vok_s rfl (r_dep (by decide) (e_X12_in hE q (a2 / (100 : Int32)) (1 : Int32) (30 : Int32))) (fun r1 => ?_)
    refine r_if_eq (t := 44) gX12_drawn_0.2.2.2.2.2.2.2.2.1 rfl (fun h26 => ?_) (fun h26 => ?_)
    · refine r_iconst (v := (-1 : Int32)) gX12_drawn_30.2.2.2.2.2.2.2.2.1 rfl ?_
      exact r_ireturn gX12_drawn_30.2.2.2.2.2.2.2.2.2.1 rfl rfl
    · refine r_iload_n (x := a2) gX12_drawn_0.2.2.2.2.2.2.2.2.2.1 rfl ?_
      refine r_bipush (v := (100 : Int32)) gX12_drawn_0.2.2.2.2.2.2.2.2.2.2.1 rfl ?_
      refine r_iremC gX12_drawn_0.2.2.2.2.2.2.2.2.2.2.2.1 (by decide) ?_
      refine r_iconst (v := (1 : Int32)) gX12_drawn_0.2.2.2.2.2.2.2.2.2.2.2.2.1 rfl ?_
      refine r_bipush (v := (30 : Int32)) gX12_drawn_0.2.2.2.2.2.2.2.2.2.2.2.2.2.1 rfl ?_
      refine r_calli (k := 2) (idx := 118) (y := 189) (as := [.int (jrem a2 (100 : Int32)), .int (1 : Int32), .int (30 : Int32)]) (rest := []) (L0 := [(0, .int (jrem a2 (100 : Int32))), (1, .int (1 : Int32)), (2, .int (30 : Int32))]) gX12_drawn_0.2.2.2.2.2.2.2.2.2.2.2.2.2.2.1 rfl rfl rfl rfl rfl vok_s rfl (r_dep (by decide) (e_X12_in hE q (jrem a2 (100 : Int32)) (1 : Int32) (30 : Int32))) (fun r2 => ?_)
      refine r_if_eq (t := 44) gX12_drawn_0.2.2.2.2.2.2.2.2.2.2.2.2.2.2.2.1 rfl (fun h25 => ?_) (fun h25 => ?_)
      · refine r_iconst (v := (-1 : Int32)) gX12_drawn_30.2.2.2.2.2.2.2.2.1 rfl ?_
        exact r_ireturn gX12_drawn_30.2.2.2.2.2.2.2.2.2.1 rfl rfl
      · refine r_iload_n (x := a3) gX12_drawn_30.1 rfl ?_
        refine r_iconst (v := (-1 : Int32)) gX12_drawn_30.2.1 rfl ?_
        refine r_aload_n (x := 60) gX12_drawn_30.2.2.1 rfl ?_
        refine r_getI gX12_drawn_30.2.2.2.1 (ff_12_115_60 hE) (by decide) ?_
        refine r_iconst (v := (1 : Int32)) gX12_drawn_30.2.2.2.2.1 rfl ?_
        refine r_isub gX12_drawn_30.2.2.2.2.2.1 ?_
        refine r_calli (k := 2) (idx := 118) (y := 189) (as := [.int a3, .int (-1 : Int32), .int ((q.1 60 1) - (1 : Int32))]) (rest := []) (L0 := [(0, .int a3), (1, .int (-1 : Int32)), (2, .int ((q.1 60 1) - (1 : Int32)))]) gX12_drawn_30.2.2.2.2.2.2.1 rfl rfl rfl rfl rfl vok_s rfl (r_dep (by decide) (e_X12_in hE q a3 (-1 : Int32) ((q.1 60 1) - (1 : Int32)))) (fun r3 => ?_)
        refine r_if_ne (t := 46) gX12_drawn_30.2.2.2.2.2.2.2.1 rfl (fun h24 => ?_) (fun h24 => ?_)
        · refine r_iconst (v := (-1 : Int32)) gX12_drawn_30.2.2.2.2.2.2.2.2.1 rfl ?_
          exact r_ireturn gX12_drawn_30.2.2.2.2.2.2.2.2.2.1 rfl rfl
        · refine r_iload_n (x := a1) gX12_drawn_30.2.2.2.2.2.2.2.2.2.2.1 rfl ?_
          refine r_istore (L2 := [(0, .ref 60), (1, .int a1), (2, .int a2), (3, .int a3), (4, .int a1)]) gX12_drawn_30.2.2.2.2.2.2.2.2.2.2.2.1 rfl rfl ?_
          refine r_iconst (v := (0 : Int32)) gX12_drawn_30.2.2.2.2.2.2.2.2.2.2.2.2.1 rfl ?_
          refine r_istore (L2 := [(0, .ref 60), (1, .int a1), (2, .int a2), (3, .int a3), (4, .int a1), (5, .int (0 : Int32))]) gX12_drawn_30.2.2.2.2.2.2.2.2.2.2.2.2.2.1 rfl rfl ?_
          refine r_iconst (v := (0 : Int32)) gX12_drawn_30.2.2.2.2.2.2.2.2.2.2.2.2.2.2.1 rfl ?_
          refine r_istore (L2 := [(0, .ref 60), (1, .int a1), (2, .int a2), (3, .int a3), (4, .int a1), (5, .int (0 : Int32)), (6, .int (0 : Int32))]) gX12_drawn_30.2.2.2.2.2.2.2.2.2.2.2.2.2.2.2.1 rfl rfl ?_
          refine r_iconst (v := (0 : Int32)) gX12_drawn_55.1 rfl ?_
          refine r_istore (L2 := [(0, .ref 60), (1, .int a1), (2, .int a2), (3, .int a3), (4, .int a1), (5, .int (0 : Int32)), (6, .int (0 : Int32)), (7, .int (0 : Int32))]) gX12_drawn_55.2.1 rfl rfl ?_
          exact r_sub (L' := [(0, .ref 60), (2, .int a2), (3, .int a3), (4, .int a1), (5, .int (0 : Int32)), (6, .int (0 : Int32)), (7, .int (0 : Int32))]) (sub_c rfl (sub_c rfl (sub_c rfl (sub_c rfl (sub_c rfl (sub_c rfl (sub_c rfl sub_n))))))) (rb_X12_drawn_58 hE q a2 a3 a1 (0 : Int32) (0 : Int32) (0 : Int32))
def f_X7_refusalOfBytes (q : SS) (a1 : Int32) : Option Int32 :=
  (f_X7_refusalOfRow q a1).bind fun r1 =>
  if r1 = 0 then
  (if vin a1 6 then
  if (q.1 27 a1.toNatClampNeg) = 0 then
  (some r1)
  else
  (some (-12 : Int32))
  else none)
  else
  (some r1)
theorem e_X7_refusalOfBytes {E : EE} (hE : GE E) (q : SS) (a1 : Int32) : R E (κi E q) 3 85 0 [(0, .ref 26), (1, .int a1)] [] q (f_X7_refusalOfBytes q a1) := by
  unfold f_X7_refusalOfBytes
  refine r_aload_n (x := 26) gX7_refusalOfBytes_0.1 rfl ?_
  refine r_iload_n (x := a1) gX7_refusalOfBytes_0.2.1 rfl ?_
  refine r_calli (k := 0) (idx := 39) (y := 84) (as := [.ref 26, .int a1]) (rest := []) (L0 := [(0, .ref 26), (1, .int a1)]) gX7_refusalOfBytes_0.2.2.1 rfl rfl rfl rfl rfl (vok_v (ob_26 hE) rfl) rfl (r_dep (by decide) (e_X7_refusalOfRow hE q a1)) (fun r1 => ?_)
  refine r_istore_n (L2 := [(0, .ref 26), (1, .int a1), (2, .int r1)]) gX7_refusalOfBytes_0.2.2.2.1 rfl rfl ?_
  refine r_iload_n (x := r1) gX7_refusalOfBytes_0.2.2.2.2.1 rfl ?_
  refine r_if_ne (t := 24) gX7_refusalOfBytes_0.2.2.2.2.2.1 rfl (fun h3 => ?_) (fun h3 => ?_)
  · refine r_aload_n (x := 26) gX7_refusalOfBytes_0.2.2.2.2.2.2.1 rfl ?_
    refine r_getA gX7_refusalOfBytes_0.2.2.2.2.2.2.2.1 (fa_7_11_26 hE) ?_
    refine r_iload_n (x := a1) gX7_refusalOfBytes_0.2.2.2.2.2.2.2.2.1 rfl ?_
    refine r_iaload gX7_refusalOfBytes_0.2.2.2.2.2.2.2.2.2.1 (ar_27 hE) ?_
    refine r_if_eq (t := 24) gX7_refusalOfBytes_0.2.2.2.2.2.2.2.2.2.2.1 rfl (fun h2 => ?_) (fun h2 => ?_)
    · refine r_iload_n (x := r1) gX7_refusalOfBytes_0.2.2.2.2.2.2.2.2.2.2.2.2.2.1 rfl ?_
      exact r_ireturn gX7_refusalOfBytes_0.2.2.2.2.2.2.2.2.2.2.2.2.2.2.1 rfl rfl
    · refine r_bipush (v := (-12 : Int32)) gX7_refusalOfBytes_0.2.2.2.2.2.2.2.2.2.2.2.1 rfl ?_
      refine r_goto (t := 25) gX7_refusalOfBytes_0.2.2.2.2.2.2.2.2.2.2.2.2.1 rfl ?_
      exact r_ireturn gX7_refusalOfBytes_0.2.2.2.2.2.2.2.2.2.2.2.2.2.2.1 rfl rfl
  · refine r_iload_n (x := r1) gX7_refusalOfBytes_0.2.2.2.2.2.2.2.2.2.2.2.2.2.1 rfl ?_
    exact r_ireturn gX7_refusalOfBytes_0.2.2.2.2.2.2.2.2.2.2.2.2.2.2.1 rfl rfl
def b_X2_begin_26 : SS → Int32 → Int32 → Int32 → Option SS :=
  fx4 (fun (rec_26 : SS → Int32 → Int32 → Int32 → Option SS) (q : SS) (l2 : Int32) (l3 : Int32) (l4 : Int32) =>
  if l3 ≤ l4 then
  (some q)
  else
  ((f_X7_get q l2 l4).bind fun r5 =>
  nm (r5.toInt32) fun v6 =>
  (f_X10_isSlipping q v6).bind fun r7 =>
  if r7 = 0 then
  (some q)
  else
  (if vin l4 12 then
  nm (sI q 38 l4.toNatClampNeg v6) fun q8 =>
  nm (sI q8 37 3 (l4 + (1 : Int32))) fun q9 =>
  rec_26 q9 l2 l3 (l4 + (1 : Int32))
  else none))) FU
theorem rb_X2_begin_26 {E : EE} (hE : GE E) (q : SS) (l2 : Int32) (l3 : Int32) (l4 : Int32) : R E (κV E) 5 14 26 [(0, .ref 37), (1, .ref 26), (2, .int l2), (3, .int l3), (4, .int l4)] [] q (b_X2_begin_26 q l2 l3 l4) := by
  unfold b_X2_begin_26
  refine fx4_ok (P := fun q l2 l3 l4 o => R E (κV E) 5 14 26 [(0, .ref 37), (1, .ref 26), (2, .int l2), (3, .int l3), (4, .int l4)] [] q o) (fun _ _ _ _ => r_no) (fun rec_26 hrec_26 q l2 l3 l4 => ?_) _ _ _ _ _
  refine r_iload (x := l4) gX2_begin_0.2.2.2.2.2.2.2.2.2.2.2.2.2.2.1 rfl ?_
  refine r_iload_n (x := l3) gX2_begin_0.2.2.2.2.2.2.2.2.2.2.2.2.2.2.2.1 rfl ?_
  refine r_icmp_ge (t := 78) gX2_begin_29.1 rfl (fun h11 => ?_) (fun h11 => ?_)
  · exact r_return gX2_begin_61.2.2.2.2.2.2.2.2.2.1 rfl rfl
  · refine r_aload_n (x := 26) gX2_begin_29.2.1 rfl ?_
    refine r_iload_n (x := l2) gX2_begin_29.2.2.1 rfl ?_
    refine r_iload (x := l4) gX2_begin_29.2.2.2.1 rfl ?_
    refine r_calll (k := 0) (idx := 44) (y := 92) (as := [.ref 26, .int l2, .int l4]) (rest := []) (L0 := [(0, .ref 26), (1, .int l2), (2, .int l4)]) gX2_begin_29.2.2.2.2.1 rfl rfl rfl rfl rfl (vok_v (ob_26 hE) rfl) rfl (r_dep (by decide) (e_X7_get hE q l2 l4)) (fun r5 => ?_)
    refine r_l2i gX2_begin_29.2.2.2.2.2.1 ?_
    refine r_nmI fun v6 _ => ?_
    refine r_istore (L2 := [(0, .ref 37), (1, .ref 26), (2, .int l2), (3, .int l3), (4, .int l4), (5, .int v6)]) gX2_begin_29.2.2.2.2.2.2.1 rfl rfl ?_
    refine r_aload_n (x := 37) gX2_begin_29.2.2.2.2.2.2.2.1 rfl ?_
    refine r_getA gX2_begin_29.2.2.2.2.2.2.2.2.1 (fa_2_9_37 hE) ?_
    refine r_iload (x := v6) gX2_begin_29.2.2.2.2.2.2.2.2.2.1 rfl ?_
    refine r_calli (k := 0) (idx := 48) (y := 130) (as := [.ref 1, .int v6]) (rest := []) (L0 := [(0, .ref 1), (1, .int v6)]) gX2_begin_29.2.2.2.2.2.2.2.2.2.2.1 rfl rfl rfl rfl rfl (vok_v (ob_1 hE) rfl) rfl (r_dep (by decide) (e_X10_isSlipping hE q v6)) (fun r7 => ?_)
    refine r_if_ne (t := 55) gX2_begin_29.2.2.2.2.2.2.2.2.2.2.2.1 rfl (fun h10 => ?_) (fun h10 => ?_)
    · exact r_return gX2_begin_29.2.2.2.2.2.2.2.2.2.2.2.2.1 rfl rfl
    · refine r_aload_n (x := 37) gX2_begin_29.2.2.2.2.2.2.2.2.2.2.2.2.2.1 rfl ?_
      refine r_getA gX2_begin_29.2.2.2.2.2.2.2.2.2.2.2.2.2.2.1 (fa_2_19_37 hE) ?_
      refine r_iload (x := l4) gX2_begin_29.2.2.2.2.2.2.2.2.2.2.2.2.2.2.2.1 rfl ?_
      refine r_iload (x := v6) gX2_begin_61.1 rfl ?_
      refine r_iastore gX2_begin_61.2.1 (ar_38 hE) ?_
      refine r_nmS fun q8 _ => ?_
      refine r_aload_n (x := 37) gX2_begin_61.2.2.1 rfl ?_
      refine r_iload (x := l4) gX2_begin_61.2.2.2.1 rfl ?_
      refine r_iconst (v := (1 : Int32)) gX2_begin_61.2.2.2.2.1 rfl ?_
      refine r_iadd gX2_begin_61.2.2.2.2.2.1 ?_
      refine r_putI gX2_begin_61.2.2.2.2.2.2.1 (ff_2_40_37 hE) ?_
      refine r_nmS fun q9 _ => ?_
      refine r_iinc (x := l4) (v := (l4 + (1 : Int32))) (L2 := [(0, .ref 37), (1, .ref 26), (2, .int l2), (3, .int l3), (4, .int (l4 + (1 : Int32))), (5, .int v6)]) gX2_begin_61.2.2.2.2.2.2.2.1 rfl rfl rfl rfl ?_
      refine r_goto (t := 26) gX2_begin_61.2.2.2.2.2.2.2.2.1 rfl ?_
      exact r_sub (L' := [(0, .ref 37), (1, .ref 26), (2, .int l2), (3, .int l3), (4, .int (l4 + (1 : Int32)))]) (sub_c rfl (sub_c rfl (sub_c rfl (sub_c rfl (sub_c rfl sub_n))))) (hrec_26 q9 l2 l3 (l4 + (1 : Int32)))
def f_X2_begin (q : SS) (a2 : Int32) : Option SS :=
  (f_X8_begin q).bind fun r1 =>
  (f_X7_sizeOf r1 a2).bind fun r2 =>
  nm (jmin (12 : Int32) r2) fun v3 =>
  nm (sI r1 37 3 (0 : Int32)) fun q4 =>
  b_X2_begin_26 q4 a2 v3 (0 : Int32)
theorem e_X2_begin {E : EE} (hE : GE E) (q : SS) (a2 : Int32) : R E (κV E) 5 14 0 [(0, .ref 37), (1, .ref 26), (2, .int a2)] [] q (f_X2_begin q a2) := by
  unfold f_X2_begin
  refine r_aload_n (x := 37) gX2_begin_0.1 rfl ?_
  refine r_getA gX2_begin_0.2.1 (fa_2_15_37 hE) ?_
  refine r_callV (k := 0) (idx := 23) (y := 97) (as := [.ref 24]) (rest := []) (L0 := [(0, .ref 24)]) gX2_begin_0.2.2.1 rfl rfl rfl rfl rfl (vok_v (ob_24 hE) rfl) rfl (r_dep (by decide) (e_X8_begin hE q)) (fun r1 => ?_)
  refine r_bipush (v := (12 : Int32)) gX2_begin_0.2.2.2.1 rfl ?_
  refine r_aload_n (x := 26) gX2_begin_0.2.2.2.2.1 rfl ?_
  refine r_iload_n (x := a2) gX2_begin_0.2.2.2.2.2.1 rfl ?_
  refine r_calli (k := 0) (idx := 28) (y := 82) (as := [.ref 26, .int a2]) (rest := [.int (12 : Int32)]) (L0 := [(0, .ref 26), (1, .int a2)]) gX2_begin_0.2.2.2.2.2.2.1 rfl rfl rfl rfl rfl (vok_v (ob_26 hE) rfl) rfl (r_dep (by decide) (e_X7_sizeOf hE r1 a2)) (fun r2 => ?_)
  refine r_mm (j := 1) (v := (jmin (12 : Int32) r2)) gX2_begin_0.2.2.2.2.2.2.2.1 ⟨rfl, rfl, rfl, rfl⟩ rfl rfl ?_
  refine r_nmI fun v3 _ => ?_
  refine r_istore_n (L2 := [(0, .ref 37), (1, .ref 26), (2, .int a2), (3, .int v3)]) gX2_begin_0.2.2.2.2.2.2.2.2.1 rfl rfl ?_
  refine r_aload_n (x := 37) gX2_begin_0.2.2.2.2.2.2.2.2.2.1 rfl ?_
  refine r_iconst (v := (0 : Int32)) gX2_begin_0.2.2.2.2.2.2.2.2.2.2.1 rfl ?_
  refine r_putI gX2_begin_0.2.2.2.2.2.2.2.2.2.2.2.1 (ff_2_40_37 hE) ?_
  refine r_nmS fun q4 _ => ?_
  refine r_iconst (v := (0 : Int32)) gX2_begin_0.2.2.2.2.2.2.2.2.2.2.2.2.1 rfl ?_
  refine r_istore (L2 := [(0, .ref 37), (1, .ref 26), (2, .int a2), (3, .int v3), (4, .int (0 : Int32))]) gX2_begin_0.2.2.2.2.2.2.2.2.2.2.2.2.2.1 rfl rfl ?_
  exact r_sub (L' := [(0, .ref 37), (1, .ref 26), (2, .int a2), (3, .int v3), (4, .int (0 : Int32))]) (sub_c rfl (sub_c rfl (sub_c rfl (sub_c rfl (sub_c rfl sub_n))))) (rb_X2_begin_26 hE q4 a2 v3 (0 : Int32))
def f_X2_size (q : SS)  : Option Int32 :=
  some (q.1 37 3)
theorem e_X2_size {E : EE} (hE : GE E) (q : SS)  : R E (κi E q) 0 15 0 [(0, .ref 37)] [] q (f_X2_size q) := by
  unfold f_X2_size
  refine r_aload_n (x := 37) gX2_size_0.1 rfl ?_
  refine r_getI gX2_size_0.2.1 (ff_2_40_37 hE) (by decide) ?_
  exact r_ireturn gX2_size_0.2.2.1 rfl rfl
def b_X9_isAsTold_48 (rec_2 : Int32 → Option Int32) (q : SS) (l1 : Int32) : Option Int32 :=
  rec_2 (l1 + (1 : Int32))
theorem rb_X9_isAsTold_48 {E : EE} (hE : GE E) {q : SS} {rec_2 : Int32 → Option Int32} (hrec_2 : ∀ (yl1 : Int32), R E (κi E q) 2 118 2 [(0, .ref 39), (1, .int yl1)] [] q (rec_2 yl1)) (l1 : Int32) : R E (κi E q) 2 118 48 [(0, .ref 39), (1, .int l1)] [] q (b_X9_isAsTold_48 rec_2 q l1) := by
  unfold b_X9_isAsTold_48
  refine r_iinc (x := l1) (v := (l1 + (1 : Int32))) (L2 := [(0, .ref 39), (1, .int (l1 + (1 : Int32)))]) gX9_isAsTold_29.2.2.2.2.2.2.2.2.2.2.2.1 rfl rfl rfl rfl ?_
  refine r_goto (t := 2) gX9_isAsTold_29.2.2.2.2.2.2.2.2.2.2.2.2.1 rfl ?_
  exact r_sub (L' := [(0, .ref 39), (1, .int (l1 + (1 : Int32)))]) (sub_c rfl (sub_c rfl sub_n)) (hrec_2 (l1 + (1 : Int32)))
def b_X9_isAsTold_2 (q : SS) : Int32 → Option Int32 :=
  fx1 (fun (rec_2 : Int32 → Option Int32) (l1 : Int32) =>
  (f_X10_tickets q).bind fun r1 =>
  if r1 ≤ l1 then
  (some (1 : Int32))
  else
  (if (12 : Int32) ≤ l1 then
  (some (1 : Int32))
  else
  (if vin l1 12 then
  if (q.1 40 l1.toNatClampNeg) = (-1 : Int32) then
  (b_X9_isAsTold_48 rec_2 q l1)
  else
  (if vin l1 12 then
  (f_X8_holderOf q l1).bind fun r2 =>
  if (q.1 40 l1.toNatClampNeg) = r2 then
  (b_X9_isAsTold_48 rec_2 q l1)
  else
  (some (0 : Int32))
  else none)
  else none))) FU
theorem rb_X9_isAsTold_2 {E : EE} (hE : GE E) (q : SS) (l1 : Int32) : R E (κi E q) 2 118 2 [(0, .ref 39), (1, .int l1)] [] q (b_X9_isAsTold_2 q l1) := by
  unfold b_X9_isAsTold_2
  refine fx1_ok (P := fun l1 o => R E (κi E q) 2 118 2 [(0, .ref 39), (1, .int l1)] [] q o) (fun _ => r_no) (fun rec_2 hrec_2 l1 => ?_) _ _
  refine r_iload_n (x := l1) gX9_isAsTold_0.2.2.1 rfl ?_
  refine r_aload_n (x := 39) gX9_isAsTold_0.2.2.2.1 rfl ?_
  refine r_getA gX9_isAsTold_0.2.2.2.2.1 (fa_9_9_39 hE) ?_
  refine r_calli (k := 0) (idx := 127) (y := 126) (as := [.ref 1]) (rest := [.int l1]) (L0 := [(0, .ref 1)]) gX9_isAsTold_0.2.2.2.2.2.1 rfl rfl rfl rfl rfl (vok_v (ob_1 hE) rfl) rfl (r_dep (by decide) (e_X10_tickets hE q)) (fun r1 => ?_)
  refine r_icmp_ge (t := 54) gX9_isAsTold_0.2.2.2.2.2.2.1 rfl (fun h6 => ?_) (fun h6 => ?_)
  · refine r_iconst (v := (1 : Int32)) gX9_isAsTold_29.2.2.2.2.2.2.2.2.2.2.2.2.2.1 rfl ?_
    exact r_ireturn gX9_isAsTold_29.2.2.2.2.2.2.2.2.2.2.2.2.2.2.1 rfl rfl
  · refine r_iload_n (x := l1) gX9_isAsTold_0.2.2.2.2.2.2.2.1 rfl ?_
    refine r_bipush (v := (12 : Int32)) gX9_isAsTold_0.2.2.2.2.2.2.2.2.1 rfl ?_
    refine r_icmp_ge (t := 54) gX9_isAsTold_0.2.2.2.2.2.2.2.2.2.1 rfl (fun h5 => ?_) (fun h5 => ?_)
    · refine r_iconst (v := (1 : Int32)) gX9_isAsTold_29.2.2.2.2.2.2.2.2.2.2.2.2.2.1 rfl ?_
      exact r_ireturn gX9_isAsTold_29.2.2.2.2.2.2.2.2.2.2.2.2.2.2.1 rfl rfl
    · refine r_aload_n (x := 39) gX9_isAsTold_0.2.2.2.2.2.2.2.2.2.2.1 rfl ?_
      refine r_getA gX9_isAsTold_0.2.2.2.2.2.2.2.2.2.2.2.1 (fa_9_23_39 hE) ?_
      refine r_iload_n (x := l1) gX9_isAsTold_0.2.2.2.2.2.2.2.2.2.2.2.2.1 rfl ?_
      refine r_iaload gX9_isAsTold_0.2.2.2.2.2.2.2.2.2.2.2.2.2.1 (ar_40 hE) ?_
      refine r_iconst (v := (-1 : Int32)) gX9_isAsTold_0.2.2.2.2.2.2.2.2.2.2.2.2.2.2.1 rfl ?_
      refine r_icmp_eq (t := 48) gX9_isAsTold_0.2.2.2.2.2.2.2.2.2.2.2.2.2.2.2.1 rfl (fun h4 => ?_) (fun h4 => ?_)
      · exact r_sub (L' := [(0, .ref 39), (1, .int l1)]) (sub_c rfl (sub_c rfl sub_n)) (rb_X9_isAsTold_48 hE hrec_2 l1)
      · refine r_aload_n (x := 39) gX9_isAsTold_29.1 rfl ?_
        refine r_getA gX9_isAsTold_29.2.1 (fa_9_23_39 hE) ?_
        refine r_iload_n (x := l1) gX9_isAsTold_29.2.2.1 rfl ?_
        refine r_iaload gX9_isAsTold_29.2.2.2.1 (ar_40 hE) ?_
        refine r_aload_n (x := 39) gX9_isAsTold_29.2.2.2.2.1 rfl ?_
        refine r_getA gX9_isAsTold_29.2.2.2.2.2.1 (fa_9_15_39 hE) ?_
        refine r_iload_n (x := l1) gX9_isAsTold_29.2.2.2.2.2.2.1 rfl ?_
        refine r_calli (k := 0) (idx := 96) (y := 98) (as := [.ref 24, .int l1]) (rest := [.int (q.1 40 l1.toNatClampNeg)]) (L0 := [(0, .ref 24), (1, .int l1)]) gX9_isAsTold_29.2.2.2.2.2.2.2.1 rfl rfl rfl rfl rfl (vok_v (ob_24 hE) rfl) rfl (r_dep (by decide) (e_X8_holderOf hE q l1)) (fun r2 => ?_)
        refine r_icmp_eq (t := 48) gX9_isAsTold_29.2.2.2.2.2.2.2.2.1 rfl (fun h3 => ?_) (fun h3 => ?_)
        · exact r_sub (L' := [(0, .ref 39), (1, .int l1)]) (sub_c rfl (sub_c rfl sub_n)) (rb_X9_isAsTold_48 hE hrec_2 l1)
        · refine r_iconst (v := (0 : Int32)) gX9_isAsTold_29.2.2.2.2.2.2.2.2.2.1 rfl ?_
          exact r_ireturn gX9_isAsTold_29.2.2.2.2.2.2.2.2.2.2.1 rfl rfl
def f_X9_isAsTold (q : SS)  : Option Int32 :=
  b_X9_isAsTold_2 q (0 : Int32)
theorem e_X9_isAsTold {E : EE} (hE : GE E) (q : SS)  : R E (κi E q) 2 118 0 [(0, .ref 39)] [] q (f_X9_isAsTold q) := by
  unfold f_X9_isAsTold
  refine r_iconst (v := (0 : Int32)) gX9_isAsTold_0.1 rfl ?_
  refine r_istore_n (L2 := [(0, .ref 39), (1, .int (0 : Int32))]) gX9_isAsTold_0.2.1 rfl rfl ?_
  exact r_sub (L' := [(0, .ref 39), (1, .int (0 : Int32))]) (sub_c rfl (sub_c rfl sub_n)) (rb_X9_isAsTold_2 hE q (0 : Int32))
def f_J6_bitCount_0f7a4 (q : SS) (a0 : Int32) : Option Int32 :=
  nm (a0 - ((jushr a0 (1 : Int32)) &&& (1431655765 : Int32))) fun v1 =>
  nm ((v1 &&& (858993459 : Int32)) + ((jushr v1 (2 : Int32)) &&& (858993459 : Int32))) fun v2 =>
  nm ((v2 + (jushr v2 (4 : Int32))) &&& (252645135 : Int32)) fun v3 =>
  nm (v3 + (jushr v3 (8 : Int32))) fun v4 =>
  nm (v4 + (jushr v4 (16 : Int32))) fun v5 =>
  some (v5 &&& (63 : Int32))
theorem e_J6_bitCount_0f7a4 {E : EE} (hE : GE E) (q : SS) (a0 : Int32) : R E (κi E q) 0 296 0 [(0, .int a0)] [] q (f_J6_bitCount_0f7a4 q a0) := by
  unfold f_J6_bitCount_0f7a4
  refine r_iload_n (x := a0) gJ6_bitCount_0f7a4_0.1 rfl ?_
  refine r_iload_n (x := a0) gJ6_bitCount_0f7a4_0.2.1 rfl ?_
  refine r_iconst (v := (1 : Int32)) gJ6_bitCount_0f7a4_0.2.2.1 rfl ?_
  refine r_iushr gJ6_bitCount_0f7a4_0.2.2.2.1 ?_
  refine r_ldc (v := (1431655765 : Int32)) gJ6_bitCount_0f7a4_0.2.2.2.2.1 rfl ?_
  refine r_iand gJ6_bitCount_0f7a4_0.2.2.2.2.2.1 ?_
  refine r_isub gJ6_bitCount_0f7a4_0.2.2.2.2.2.2.1 ?_
  refine r_nmI fun v1 _ => ?_
  refine r_istore_n (L2 := [(0, .int v1)]) gJ6_bitCount_0f7a4_0.2.2.2.2.2.2.2.1 rfl rfl ?_
  refine r_iload_n (x := v1) gJ6_bitCount_0f7a4_0.2.2.2.2.2.2.2.2.1 rfl ?_
  refine r_ldc (v := (858993459 : Int32)) gJ6_bitCount_0f7a4_0.2.2.2.2.2.2.2.2.2.1 rfl ?_
  refine r_iand gJ6_bitCount_0f7a4_0.2.2.2.2.2.2.2.2.2.2.1 ?_
  refine r_iload_n (x := v1) gJ6_bitCount_0f7a4_0.2.2.2.2.2.2.2.2.2.2.2.1 rfl ?_
  refine r_iconst (v := (2 : Int32)) gJ6_bitCount_0f7a4_0.2.2.2.2.2.2.2.2.2.2.2.2.1 rfl ?_
  refine r_iushr gJ6_bitCount_0f7a4_0.2.2.2.2.2.2.2.2.2.2.2.2.2.1 ?_
  refine r_ldc (v := (858993459 : Int32)) gJ6_bitCount_0f7a4_0.2.2.2.2.2.2.2.2.2.2.2.2.2.2.1 rfl ?_
  refine r_iand gJ6_bitCount_0f7a4_0.2.2.2.2.2.2.2.2.2.2.2.2.2.2.2.1 ?_
  refine r_iadd gJ6_bitCount_0f7a4_22.1 ?_
  refine r_nmI fun v2 _ => ?_
  refine r_istore_n (L2 := [(0, .int v2)]) gJ6_bitCount_0f7a4_22.2.1 rfl rfl ?_
  refine r_iload_n (x := v2) gJ6_bitCount_0f7a4_22.2.2.1 rfl ?_
  refine r_iload_n (x := v2) gJ6_bitCount_0f7a4_22.2.2.2.1 rfl ?_
  refine r_iconst (v := (4 : Int32)) gJ6_bitCount_0f7a4_22.2.2.2.2.1 rfl ?_
  refine r_iushr gJ6_bitCount_0f7a4_22.2.2.2.2.2.1 ?_
  refine r_iadd gJ6_bitCount_0f7a4_22.2.2.2.2.2.2.1 ?_
  refine r_ldc (v := (252645135 : Int32)) gJ6_bitCount_0f7a4_22.2.2.2.2.2.2.2.1 rfl ?_
  refine r_iand gJ6_bitCount_0f7a4_22.2.2.2.2.2.2.2.2.1 ?_
  refine r_nmI fun v3 _ => ?_
  refine r_istore_n (L2 := [(0, .int v3)]) gJ6_bitCount_0f7a4_22.2.2.2.2.2.2.2.2.2.1 rfl rfl ?_
  refine r_iload_n (x := v3) gJ6_bitCount_0f7a4_22.2.2.2.2.2.2.2.2.2.2.1 rfl ?_
  refine r_iload_n (x := v3) gJ6_bitCount_0f7a4_22.2.2.2.2.2.2.2.2.2.2.2.1 rfl ?_
  refine r_bipush (v := (8 : Int32)) gJ6_bitCount_0f7a4_22.2.2.2.2.2.2.2.2.2.2.2.2.1 rfl ?_
  refine r_iushr gJ6_bitCount_0f7a4_22.2.2.2.2.2.2.2.2.2.2.2.2.2.1 ?_
  refine r_iadd gJ6_bitCount_0f7a4_22.2.2.2.2.2.2.2.2.2.2.2.2.2.2.1 ?_
  refine r_nmI fun v4 _ => ?_
  refine r_istore_n (L2 := [(0, .int v4)]) gJ6_bitCount_0f7a4_22.2.2.2.2.2.2.2.2.2.2.2.2.2.2.2.1 rfl rfl ?_
  refine r_iload_n (x := v4) gJ6_bitCount_0f7a4_41.1 rfl ?_
  refine r_iload_n (x := v4) gJ6_bitCount_0f7a4_41.2.1 rfl ?_
  refine r_bipush (v := (16 : Int32)) gJ6_bitCount_0f7a4_41.2.2.1 rfl ?_
  refine r_iushr gJ6_bitCount_0f7a4_41.2.2.2.1 ?_
  refine r_iadd gJ6_bitCount_0f7a4_41.2.2.2.2.1 ?_
  refine r_nmI fun v5 _ => ?_
  refine r_istore_n (L2 := [(0, .int v5)]) gJ6_bitCount_0f7a4_41.2.2.2.2.2.1 rfl rfl ?_
  refine r_iload_n (x := v5) gJ6_bitCount_0f7a4_41.2.2.2.2.2.2.1 rfl ?_
  refine r_bipush (v := (63 : Int32)) gJ6_bitCount_0f7a4_41.2.2.2.2.2.2.2.1 rfl ?_
  refine r_iand gJ6_bitCount_0f7a4_41.2.2.2.2.2.2.2.2.1 ?_
  exact r_ireturn gJ6_bitCount_0f7a4_41.2.2.2.2.2.2.2.2.2.1 rfl rfl
def b_X9_arrive_100 (q : SS) (l1 : Int32) : Option SS :=
  nm (sI q 39 6 ((q.1 39 6) + (1 : Int32))) fun q7 =>
  nm (sI q7 39 9 ((q7.1 39 9) &&& l1)) fun q8 =>
  some q8
theorem rb_X9_arrive_100 {E : EE} (hE : GE E) (q : SS) (l1 : Int32) : R E (κV E) 3 117 100 [(0, .ref 39), (1, .int l1)] [] q (b_X9_arrive_100 q l1) := by
  unfold b_X9_arrive_100
  refine r_aload_n (x := 39) gX9_arrive_92.2.2.2.2.1 rfl ?_
  refine r_dup gX9_arrive_92.2.2.2.2.2.1 rfl ?_
  refine r_getI gX9_arrive_92.2.2.2.2.2.2.1 (ff_9_44_39 hE) (by decide) ?_
  refine r_iconst (v := (1 : Int32)) gX9_arrive_92.2.2.2.2.2.2.2.1 rfl ?_
  refine r_iadd gX9_arrive_92.2.2.2.2.2.2.2.2.1 ?_
  refine r_putI gX9_arrive_92.2.2.2.2.2.2.2.2.2.1 (ff_9_44_39 hE) ?_
  refine r_nmS fun q7 _ => ?_
  refine r_aload_n (x := 39) gX9_arrive_92.2.2.2.2.2.2.2.2.2.2.1 rfl ?_
  refine r_dup gX9_arrive_92.2.2.2.2.2.2.2.2.2.2.2.1 rfl ?_
  refine r_getI gX9_arrive_92.2.2.2.2.2.2.2.2.2.2.2.2.1 (ff_9_54_39 hE) (by decide) ?_
  refine r_iload_n (x := l1) gX9_arrive_92.2.2.2.2.2.2.2.2.2.2.2.2.2.1 rfl ?_
  refine r_iand gX9_arrive_92.2.2.2.2.2.2.2.2.2.2.2.2.2.2.1 ?_
  refine r_putI gX9_arrive_92.2.2.2.2.2.2.2.2.2.2.2.2.2.2.2.1 (ff_9_54_39 hE) ?_
  refine r_nmS fun q8 _ => ?_
  exact r_return gX9_arrive_120.1 rfl rfl
def b_X9_arrive_90 (q : SS) (l1 : Int32) (l2 : Int64) : Option SS :=
  nm (sL q 39 10 l2) fun q5 =>
  nm (sI q5 39 11 l1) fun q6 =>
  b_X9_arrive_100 q6 l1
theorem rb_X9_arrive_90 {E : EE} (hE : GE E) (q : SS) (l1 : Int32) (l2 : Int64) : R E (κV E) 3 117 90 [(0, .ref 39), (1, .int l1), (2, .long l2)] [] q (b_X9_arrive_90 q l1 l2) := by
  unfold b_X9_arrive_90
  refine r_aload_n (x := 39) gX9_arrive_64.2.2.2.2.2.2.2.2.2.2.2.2.2.2.1 rfl ?_
  refine r_lload_n (x := l2) gX9_arrive_64.2.2.2.2.2.2.2.2.2.2.2.2.2.2.2.1 rfl ?_
  refine r_putL gX9_arrive_92.1 (ff_9_57_39 hE) ?_
  refine r_nmS fun q5 _ => ?_
  refine r_aload_n (x := 39) gX9_arrive_92.2.1 rfl ?_
  refine r_iload_n (x := l1) gX9_arrive_92.2.2.1 rfl ?_
  refine r_putI gX9_arrive_92.2.2.2.1 (ff_9_61_39 hE) ?_
  refine r_nmS fun q6 _ => ?_
  exact r_sub (L' := [(0, .ref 39), (1, .int l1)]) (sub_c rfl (sub_c rfl sub_n)) (rb_X9_arrive_100 hE q6 l1)
def b_X9_arrive_58 (q : SS) (l1 : Int32) (l2 : Int64) : Option SS :=
  if 0 < (lg_cmp l2 (q.2 39 10)) then
  (b_X9_arrive_90 q l1 l2)
  else
  (if (lg_cmp l2 (0 : Int64)) ≤ 0 then
  (b_X9_arrive_100 q l1)
  else
  (if (lg_cmp l2 (q.2 39 10)) = 0 then
  (if (q.1 39 11) ≤ l1 then
  (b_X9_arrive_100 q l1)
  else
  (b_X9_arrive_90 q l1 l2))
  else
  (b_X9_arrive_100 q l1)))
theorem rb_X9_arrive_58 {E : EE} (hE : GE E) (q : SS) (l1 : Int32) (l2 : Int64) : R E (κV E) 3 117 58 [(0, .ref 39), (1, .int l1), (2, .long l2)] [] q (b_X9_arrive_58 q l1 l2) := by
  unfold b_X9_arrive_58
  refine r_lload_n (x := l2) gX9_arrive_33.2.2.2.2.2.2.2.2.2.2.2.2.1 rfl ?_
  refine r_aload_n (x := 39) gX9_arrive_33.2.2.2.2.2.2.2.2.2.2.2.2.2.1 rfl ?_
  refine r_getL gX9_arrive_33.2.2.2.2.2.2.2.2.2.2.2.2.2.2.1 (ff_9_57_39 hE) ?_
  refine r_lcmp gX9_arrive_33.2.2.2.2.2.2.2.2.2.2.2.2.2.2.2.1 ?_
  refine r_if_gt (t := 90) gX9_arrive_64.1 rfl (fun h12 => ?_) (fun h12 => ?_)
  · exact r_sub (L' := [(0, .ref 39), (1, .int l1), (2, .long l2)]) (sub_c rfl (sub_c rfl (sub_c rfl sub_n))) (rb_X9_arrive_90 hE q l1 l2)
  · refine r_lload_n (x := l2) gX9_arrive_64.2.1 rfl ?_
    refine r_lconst (v := (0 : Int64)) gX9_arrive_64.2.2.1 rfl ?_
    refine r_lcmp gX9_arrive_64.2.2.2.1 ?_
    refine r_if_le (t := 100) gX9_arrive_64.2.2.2.2.1 rfl (fun h11 => ?_) (fun h11 => ?_)
    · exact r_sub (L' := [(0, .ref 39), (1, .int l1)]) (sub_c rfl (sub_c rfl sub_n)) (rb_X9_arrive_100 hE q l1)
    · refine r_lload_n (x := l2) gX9_arrive_64.2.2.2.2.2.1 rfl ?_
      refine r_aload_n (x := 39) gX9_arrive_64.2.2.2.2.2.2.1 rfl ?_
      refine r_getL gX9_arrive_64.2.2.2.2.2.2.2.1 (ff_9_57_39 hE) ?_
      refine r_lcmp gX9_arrive_64.2.2.2.2.2.2.2.2.1 ?_
      refine r_if_ne (t := 100) gX9_arrive_64.2.2.2.2.2.2.2.2.2.1 rfl (fun h10 => ?_) (fun h10 => ?_)
      · refine r_iload_n (x := l1) gX9_arrive_64.2.2.2.2.2.2.2.2.2.2.1 rfl ?_
        refine r_aload_n (x := 39) gX9_arrive_64.2.2.2.2.2.2.2.2.2.2.2.1 rfl ?_
        refine r_getI gX9_arrive_64.2.2.2.2.2.2.2.2.2.2.2.2.1 (ff_9_61_39 hE) (by decide) ?_
        refine r_icmp_ge (t := 100) gX9_arrive_64.2.2.2.2.2.2.2.2.2.2.2.2.2.1 rfl (fun h9 => ?_) (fun h9 => ?_)
        · exact r_sub (L' := [(0, .ref 39), (1, .int l1)]) (sub_c rfl (sub_c rfl sub_n)) (rb_X9_arrive_100 hE q l1)
        · exact r_sub (L' := [(0, .ref 39), (1, .int l1), (2, .long l2)]) (sub_c rfl (sub_c rfl (sub_c rfl sub_n))) (rb_X9_arrive_90 hE q l1 l2)
      · exact r_sub (L' := [(0, .ref 39), (1, .int l1)]) (sub_c rfl (sub_c rfl sub_n)) (rb_X9_arrive_100 hE q l1)
def b_X9_arrive_47 (q : SS) (l1 : Int32) (l2 : Int64) (l4 : Int32) : Option SS :=
  nm (sI q 39 7 l4) fun q3 =>
  nm (sI q3 39 8 l1) fun q4 =>
  b_X9_arrive_58 q4 l1 l2
theorem rb_X9_arrive_47 {E : EE} (hE : GE E) (q : SS) (l1 : Int32) (l2 : Int64) (l4 : Int32) : R E (κV E) 3 117 47 [(0, .ref 39), (1, .int l1), (2, .long l2), (4, .int l4)] [] q (b_X9_arrive_47 q l1 l2 l4) := by
  unfold b_X9_arrive_47
  refine r_aload_n (x := 39) gX9_arrive_33.2.2.2.2.2.2.1 rfl ?_
  refine r_iload (x := l4) gX9_arrive_33.2.2.2.2.2.2.2.1 rfl ?_
  refine r_putI gX9_arrive_33.2.2.2.2.2.2.2.2.1 (ff_9_48_39 hE) ?_
  refine r_nmS fun q3 _ => ?_
  refine r_aload_n (x := 39) gX9_arrive_33.2.2.2.2.2.2.2.2.2.1 rfl ?_
  refine r_iload_n (x := l1) gX9_arrive_33.2.2.2.2.2.2.2.2.2.2.1 rfl ?_
  refine r_putI gX9_arrive_33.2.2.2.2.2.2.2.2.2.2.2.1 (ff_9_51_39 hE) ?_
  refine r_nmS fun q4 _ => ?_
  exact r_sub (L' := [(0, .ref 39), (1, .int l1), (2, .long l2)]) (sub_c rfl (sub_c rfl (sub_c rfl sub_n))) (rb_X9_arrive_58 hE q4 l1 l2)
def f_X9_arrive (q : SS) (a1 : Int32) (a2 : Int64) : Option SS :=
  (f_X9_isAsTold q).bind fun r1 =>
  if r1 = 0 then
  (some q)
  else
  ((f_J6_bitCount_0f7a4 q a1).bind fun r2 =>
  if (q.1 39 6) = 0 then
  (b_X9_arrive_47 q a1 a2 r2)
  else
  (if r2 < (q.1 39 7) then
  (b_X9_arrive_47 q a1 a2 r2)
  else
  (if r2 = (q.1 39 7) then
  (if (q.1 39 8) ≤ a1 then
  (b_X9_arrive_58 q a1 a2)
  else
  (b_X9_arrive_47 q a1 a2 r2))
  else
  (b_X9_arrive_58 q a1 a2))))
theorem e_X9_arrive {E : EE} (hE : GE E) (q : SS) (a1 : Int32) (a2 : Int64) : R E (κV E) 3 117 0 [(0, .ref 39), (1, .int a1), (2, .long a2)] [] q (f_X9_arrive q a1 a2) := by
  unfold f_X9_arrive
  refine r_aload_n (x := 39) gX9_arrive_0.1 rfl ?_
  refine r_calli (k := 0) (idx := 118) (y := 118) (as := [.ref 39]) (rest := []) (L0 := [(0, .ref 39)]) gX9_arrive_0.2.1 rfl rfl rfl rfl rfl (vok_v (ob_39 hE) rfl) rfl (r_dep (by decide) (e_X9_isAsTold hE q)) (fun r1 => ?_)
  refine r_if_ne (t := 8) gX9_arrive_0.2.2.1 rfl (fun h17 => ?_) (fun h17 => ?_)
  · exact r_return gX9_arrive_0.2.2.2.1 rfl rfl
  · refine r_iload_n (x := a1) gX9_arrive_0.2.2.2.2.1 rfl ?_
    refine r_calli (k := 2) (idx := 122) (y := 296) (as := [.int a1]) (rest := []) (L0 := [(0, .int a1)]) gX9_arrive_0.2.2.2.2.2.1 rfl rfl rfl rfl rfl vok_s rfl (r_dep (by decide) (e_J6_bitCount_0f7a4 hE q a1)) (fun r2 => ?_)
    refine r_istore (L2 := [(0, .ref 39), (1, .int a1), (2, .long a2), (4, .int r2)]) gX9_arrive_0.2.2.2.2.2.2.1 rfl rfl ?_
    refine r_aload_n (x := 39) gX9_arrive_0.2.2.2.2.2.2.2.1 rfl ?_
    refine r_getI gX9_arrive_0.2.2.2.2.2.2.2.2.1 (ff_9_44_39 hE) (by decide) ?_
    refine r_if_eq (t := 47) gX9_arrive_0.2.2.2.2.2.2.2.2.2.1 rfl (fun h16 => ?_) (fun h16 => ?_)
    · exact r_sub (L' := [(0, .ref 39), (1, .int a1), (2, .long a2), (4, .int r2)]) (sub_c rfl (sub_c rfl (sub_c rfl (sub_c rfl sub_n)))) (rb_X9_arrive_47 hE q a1 a2 r2)
    · refine r_iload (x := r2) gX9_arrive_0.2.2.2.2.2.2.2.2.2.2.1 rfl ?_
      refine r_aload_n (x := 39) gX9_arrive_0.2.2.2.2.2.2.2.2.2.2.2.1 rfl ?_
      refine r_getI gX9_arrive_0.2.2.2.2.2.2.2.2.2.2.2.2.1 (ff_9_48_39 hE) (by decide) ?_
      refine r_icmp_lt (t := 47) gX9_arrive_0.2.2.2.2.2.2.2.2.2.2.2.2.2.1 rfl (fun h15 => ?_) (fun h15 => ?_)
      · exact r_sub (L' := [(0, .ref 39), (1, .int a1), (2, .long a2), (4, .int r2)]) (sub_c rfl (sub_c rfl (sub_c rfl (sub_c rfl sub_n)))) (rb_X9_arrive_47 hE q a1 a2 r2)
      · refine r_iload (x := r2) gX9_arrive_0.2.2.2.2.2.2.2.2.2.2.2.2.2.2.1 rfl ?_
        refine r_aload_n (x := 39) gX9_arrive_0.2.2.2.2.2.2.2.2.2.2.2.2.2.2.2.1 rfl ?_
        refine r_getI gX9_arrive_33.1 (ff_9_48_39 hE) (by decide) ?_
        refine r_icmp_ne (t := 58) gX9_arrive_33.2.1 rfl (fun h14 => ?_) (fun h14 => ?_)
        · refine r_iload_n (x := a1) gX9_arrive_33.2.2.1 rfl ?_
          refine r_aload_n (x := 39) gX9_arrive_33.2.2.2.1 rfl ?_
          refine r_getI gX9_arrive_33.2.2.2.2.1 (ff_9_51_39 hE) (by decide) ?_
          refine r_icmp_ge (t := 58) gX9_arrive_33.2.2.2.2.2.1 rfl (fun h13 => ?_) (fun h13 => ?_)
          · exact r_sub (L' := [(0, .ref 39), (1, .int a1), (2, .long a2)]) (sub_c rfl (sub_c rfl (sub_c rfl sub_n))) (rb_X9_arrive_58 hE q a1 a2)
          · exact r_sub (L' := [(0, .ref 39), (1, .int a1), (2, .long a2), (4, .int r2)]) (sub_c rfl (sub_c rfl (sub_c rfl (sub_c rfl sub_n)))) (rb_X9_arrive_47 hE q a1 a2 r2)
        · exact r_sub (L' := [(0, .ref 39), (1, .int a1), (2, .long a2)]) (sub_c rfl (sub_c rfl (sub_c rfl sub_n))) (rb_X9_arrive_58 hE q a1 a2)
def f_X2_ticketAt (q : SS) (a1 : Int32) : Option Int32 :=
  if a1 < 0 then
  (some (-2 : Int32))
  else
  (if (q.1 37 3) ≤ a1 then
  (some (-2 : Int32))
  else
  (if vin a1 12 then
  some (jshr (q.1 38 a1.toNatClampNeg) (3 : Int32))
  else none))
theorem e_X2_ticketAt {E : EE} (hE : GE E) (q : SS) (a1 : Int32) : R E (κi E q) 0 16 0 [(0, .ref 37), (1, .int a1)] [] q (f_X2_ticketAt q a1) := by
  unfold f_X2_ticketAt
  refine r_iload_n (x := a1) gX2_ticketAt_0.1 rfl ?_
  refine r_if_lt (t := 23) gX2_ticketAt_0.2.1 rfl (fun h2 => ?_) (fun h2 => ?_)
  · refine r_bipush (v := (-2 : Int32)) gX2_ticketAt_0.2.2.2.2.2.2.2.2.2.2.2.2.2.1 rfl ?_
    exact r_ireturn gX2_ticketAt_0.2.2.2.2.2.2.2.2.2.2.2.2.2.2.1 rfl rfl
  · refine r_iload_n (x := a1) gX2_ticketAt_0.2.2.1 rfl ?_
    refine r_aload_n (x := 37) gX2_ticketAt_0.2.2.2.1 rfl ?_
    refine r_getI gX2_ticketAt_0.2.2.2.2.1 (ff_2_40_37 hE) (by decide) ?_
    refine r_icmp_ge (t := 23) gX2_ticketAt_0.2.2.2.2.2.1 rfl (fun h1 => ?_) (fun h1 => ?_)
    · refine r_bipush (v := (-2 : Int32)) gX2_ticketAt_0.2.2.2.2.2.2.2.2.2.2.2.2.2.1 rfl ?_
      exact r_ireturn gX2_ticketAt_0.2.2.2.2.2.2.2.2.2.2.2.2.2.2.1 rfl rfl
    · refine r_aload_n (x := 37) gX2_ticketAt_0.2.2.2.2.2.2.1 rfl ?_
      refine r_getA gX2_ticketAt_0.2.2.2.2.2.2.2.1 (fa_2_19_37 hE) ?_
      refine r_iload_n (x := a1) gX2_ticketAt_0.2.2.2.2.2.2.2.2.1 rfl ?_
      refine r_iaload gX2_ticketAt_0.2.2.2.2.2.2.2.2.2.1 (ar_38 hE) ?_
      refine r_iconst (v := (3 : Int32)) gX2_ticketAt_0.2.2.2.2.2.2.2.2.2.2.1 rfl ?_
      refine r_ishr gX2_ticketAt_0.2.2.2.2.2.2.2.2.2.2.2.1 ?_
      refine r_goto (t := 25) gX2_ticketAt_0.2.2.2.2.2.2.2.2.2.2.2.2.1 rfl ?_
      exact r_ireturn gX2_ticketAt_0.2.2.2.2.2.2.2.2.2.2.2.2.2.2.1 rfl rfl
def f_X2_toAt (q : SS) (a1 : Int32) : Option Int32 :=
  if a1 < 0 then
  (some (-2 : Int32))
  else
  (if (q.1 37 3) ≤ a1 then
  (some (-2 : Int32))
  else
  (if vin a1 12 then
  some ((q.1 38 a1.toNatClampNeg) &&& (7 : Int32))
  else none))
theorem e_X2_toAt {E : EE} (hE : GE E) (q : SS) (a1 : Int32) : R E (κi E q) 0 17 0 [(0, .ref 37), (1, .int a1)] [] q (f_X2_toAt q a1) := by
  unfold f_X2_toAt
  refine r_iload_n (x := a1) gX2_toAt_0.1 rfl ?_
  refine r_if_lt (t := 24) gX2_toAt_0.2.1 rfl (fun h2 => ?_) (fun h2 => ?_)
  · refine r_bipush (v := (-2 : Int32)) gX2_toAt_0.2.2.2.2.2.2.2.2.2.2.2.2.2.1 rfl ?_
    exact r_ireturn gX2_toAt_0.2.2.2.2.2.2.2.2.2.2.2.2.2.2.1 rfl rfl
  · refine r_iload_n (x := a1) gX2_toAt_0.2.2.1 rfl ?_
    refine r_aload_n (x := 37) gX2_toAt_0.2.2.2.1 rfl ?_
    refine r_getI gX2_toAt_0.2.2.2.2.1 (ff_2_40_37 hE) (by decide) ?_
    refine r_icmp_ge (t := 24) gX2_toAt_0.2.2.2.2.2.1 rfl (fun h1 => ?_) (fun h1 => ?_)
    · refine r_bipush (v := (-2 : Int32)) gX2_toAt_0.2.2.2.2.2.2.2.2.2.2.2.2.2.1 rfl ?_
      exact r_ireturn gX2_toAt_0.2.2.2.2.2.2.2.2.2.2.2.2.2.2.1 rfl rfl
    · refine r_aload_n (x := 37) gX2_toAt_0.2.2.2.2.2.2.1 rfl ?_
      refine r_getA gX2_toAt_0.2.2.2.2.2.2.2.1 (fa_2_19_37 hE) ?_
      refine r_iload_n (x := a1) gX2_toAt_0.2.2.2.2.2.2.2.2.1 rfl ?_
      refine r_iaload gX2_toAt_0.2.2.2.2.2.2.2.2.2.1 (ar_38 hE) ?_
      refine r_bipush (v := (7 : Int32)) gX2_toAt_0.2.2.2.2.2.2.2.2.2.2.1 rfl ?_
      refine r_iand gX2_toAt_0.2.2.2.2.2.2.2.2.2.2.2.1 ?_
      refine r_goto (t := 26) gX2_toAt_0.2.2.2.2.2.2.2.2.2.2.2.2.1 rfl ?_
      exact r_ireturn gX2_toAt_0.2.2.2.2.2.2.2.2.2.2.2.2.2.2.1 rfl rfl
def b_X9_oddsAt_99 (q : SS) (l6 : Int32) : Option (Int32 × SS) :=
  if vin l6 864 then
  some ((q.1 41 l6.toNatClampNeg), q)
  else none
theorem rb_X9_oddsAt_99 {E : EE} (hE : GE E) (q : SS) (l6 : Int32) : R E (κI E) 4 116 99 [(0, .ref 39), (6, .int l6)] [] q (b_X9_oddsAt_99 q l6) := by
  unfold b_X9_oddsAt_99
  refine r_aload_n (x := 39) gX9_oddsAt_88.2.2.2.2.2.1 rfl ?_
  refine r_getA gX9_oddsAt_88.2.2.2.2.2.2.1 (fa_9_27_39 hE) ?_
  refine r_iload (x := l6) gX9_oddsAt_88.2.2.2.2.2.2.2.1 rfl ?_
  refine r_iaload gX9_oddsAt_88.2.2.2.2.2.2.2.2.1 (ar_41 hE) ?_
  exact r_ireturn gX9_oddsAt_88.2.2.2.2.2.2.2.2.2.1 rfl rfl
def f_X9_oddsAt (q : SS) (a1 : Int32) (a2 : Int32) (a3 : Int32) : Option (Int32 × SS) :=
  (f_X8_holderOf q a2).bind fun r1 =>
  (f_X8_heldBy q a3).bind fun r2 =>
  nm ((((a1 * (6 : Int32)) + r1) * (12 : Int32)) + r2) fun v3 =>
  if v3 < 0 then
  (some ((0 : Int32), q))
  else
  (if v3 < (864 : Int32) then
  (if vin v3 864 then
  if (q.1 41 v3.toNatClampNeg) = (-1 : Int32) then
  ((f_X10_get q (6 : Int32) a2).bind fun r4 =>
  (f_X10_hourNow q).bind fun r5 =>
  (f_X8_oddsBy q r1 a3 r2 r4 r5).bind fun r6 =>
  if vin v3 864 then
  nm (sI r6.2 41 v3.toNatClampNeg r6.1) fun q7 =>
  b_X9_oddsAt_99 q7 v3
  else none)
  else
  (b_X9_oddsAt_99 q v3)
  else none)
  else
  (some ((0 : Int32), q)))
theorem e_X9_oddsAt {E : EE} (hE : GE E) (q : SS) (a1 : Int32) (a2 : Int32) (a3 : Int32) : R E (κI E) 4 116 0 [(0, .ref 39), (1, .int a1), (2, .int a2), (3, .int a3)] [] q (f_X9_oddsAt q a1 a2 a3) := by
  unfold f_X9_oddsAt
  refine r_aload_n (x := 39) gX9_oddsAt_0.1 rfl ?_
  refine r_getA gX9_oddsAt_0.2.1 (fa_9_15_39 hE) ?_
  refine r_iload_n (x := a2) gX9_oddsAt_0.2.2.1 rfl ?_
  refine r_calli (k := 0) (idx := 96) (y := 98) (as := [.ref 24, .int a2]) (rest := []) (L0 := [(0, .ref 24), (1, .int a2)]) gX9_oddsAt_0.2.2.2.1 rfl rfl rfl rfl rfl (vok_v (ob_24 hE) rfl) rfl (r_dep (by decide) (e_X8_holderOf hE q a2)) (fun r1 => ?_)
  refine r_istore (L2 := [(0, .ref 39), (1, .int a1), (2, .int a2), (3, .int a3), (4, .int r1)]) gX9_oddsAt_0.2.2.2.2.1 rfl rfl ?_
  refine r_aload_n (x := 39) gX9_oddsAt_0.2.2.2.2.2.1 rfl ?_
  refine r_getA gX9_oddsAt_0.2.2.2.2.2.2.1 (fa_9_15_39 hE) ?_
  refine r_iload_n (x := a3) gX9_oddsAt_0.2.2.2.2.2.2.2.1 rfl ?_
  refine r_calli (k := 0) (idx := 103) (y := 100) (as := [.ref 24, .int a3]) (rest := []) (L0 := [(0, .ref 24), (1, .int a3)]) gX9_oddsAt_0.2.2.2.2.2.2.2.2.1 rfl rfl rfl rfl rfl (vok_v (ob_24 hE) rfl) rfl (r_dep (by decide) (e_X8_heldBy hE q a3)) (fun r2 => ?_)
  refine r_istore (L2 := [(0, .ref 39), (1, .int a1), (2, .int a2), (3, .int a3), (4, .int r1), (5, .int r2)]) gX9_oddsAt_0.2.2.2.2.2.2.2.2.2.1 rfl rfl ?_
  refine r_iload_n (x := a1) gX9_oddsAt_0.2.2.2.2.2.2.2.2.2.2.1 rfl ?_
  refine r_bipush (v := (6 : Int32)) gX9_oddsAt_0.2.2.2.2.2.2.2.2.2.2.2.1 rfl ?_
  refine r_imul gX9_oddsAt_0.2.2.2.2.2.2.2.2.2.2.2.2.1 ?_
  refine r_iload (x := r1) gX9_oddsAt_0.2.2.2.2.2.2.2.2.2.2.2.2.2.1 rfl ?_
  refine r_iadd gX9_oddsAt_0.2.2.2.2.2.2.2.2.2.2.2.2.2.2.1 ?_
  refine r_bipush (v := (12 : Int32)) gX9_oddsAt_0.2.2.2.2.2.2.2.2.2.2.2.2.2.2.2.1 rfl ?_
  refine r_imul gX9_oddsAt_29.1 ?_
  refine r_iload (x := r2) gX9_oddsAt_29.2.1 rfl ?_
  refine r_iadd gX9_oddsAt_29.2.2.1 ?_
  refine r_nmI fun v3 _ => ?_
  refine r_istore (L2 := [(0, .ref 39), (1, .int a1), (2, .int a2), (3, .int a3), (4, .int r1), (5, .int r2), (6, .int v3)]) gX9_oddsAt_29.2.2.2.1 rfl rfl ?_
  refine r_iload (x := v3) gX9_oddsAt_29.2.2.2.2.1 rfl ?_
  refine r_if_lt (t := 50) gX9_oddsAt_29.2.2.2.2.2.1 rfl (fun h10 => ?_) (fun h10 => ?_)
  · refine r_iconst (v := (0 : Int32)) gX9_oddsAt_29.2.2.2.2.2.2.2.2.2.2.2.1 rfl ?_
    exact r_ireturn gX9_oddsAt_29.2.2.2.2.2.2.2.2.2.2.2.2.1 rfl rfl
  · refine r_iload (x := v3) gX9_oddsAt_29.2.2.2.2.2.2.1 rfl ?_
    refine r_aload_n (x := 39) gX9_oddsAt_29.2.2.2.2.2.2.2.1 rfl ?_
    refine r_getA gX9_oddsAt_29.2.2.2.2.2.2.2.2.1 (fa_9_27_39 hE) ?_
    refine r_len (v := (864 : Int32)) gX9_oddsAt_29.2.2.2.2.2.2.2.2.2.1 (ar_41 hE) (by decide) rfl ?_
    refine r_icmp_lt (t := 52) gX9_oddsAt_29.2.2.2.2.2.2.2.2.2.2.1 rfl (fun h9 => ?_) (fun h9 => ?_)
    · refine r_aload_n (x := 39) gX9_oddsAt_29.2.2.2.2.2.2.2.2.2.2.2.2.2.1 rfl ?_
      refine r_getA gX9_oddsAt_29.2.2.2.2.2.2.2.2.2.2.2.2.2.2.1 (fa_9_27_39 hE) ?_
      refine r_iload (x := v3) gX9_oddsAt_29.2.2.2.2.2.2.2.2.2.2.2.2.2.2.2.1 rfl ?_
      refine r_iaload gX9_oddsAt_58.1 (ar_41 hE) ?_
      refine r_iconst (v := (-1 : Int32)) gX9_oddsAt_58.2.1 rfl ?_
      refine r_icmp_ne (t := 99) gX9_oddsAt_58.2.2.1 rfl (fun h8 => ?_) (fun h8 => ?_)
      · refine r_aload_n (x := 39) gX9_oddsAt_58.2.2.2.1 rfl ?_
        refine r_getA gX9_oddsAt_58.2.2.2.2.1 (fa_9_27_39 hE) ?_
        refine r_iload (x := v3) gX9_oddsAt_58.2.2.2.2.2.1 rfl ?_
        refine r_aload_n (x := 39) gX9_oddsAt_58.2.2.2.2.2.2.1 rfl ?_
        refine r_getA gX9_oddsAt_58.2.2.2.2.2.2.2.1 (fa_9_15_39 hE) ?_
        refine r_iload (x := r1) gX9_oddsAt_58.2.2.2.2.2.2.2.2.1 rfl ?_
        refine r_iload_n (x := a3) gX9_oddsAt_58.2.2.2.2.2.2.2.2.2.1 rfl ?_
        refine r_iload (x := r2) gX9_oddsAt_58.2.2.2.2.2.2.2.2.2.2.1 rfl ?_
        refine r_aload_n (x := 39) gX9_oddsAt_58.2.2.2.2.2.2.2.2.2.2.2.1 rfl ?_
        refine r_getA gX9_oddsAt_58.2.2.2.2.2.2.2.2.2.2.2.2.1 (fa_9_9_39 hE) ?_
        refine r_bipush (v := (6 : Int32)) gX9_oddsAt_58.2.2.2.2.2.2.2.2.2.2.2.2.2.1 rfl ?_
        refine r_iload_n (x := a2) gX9_oddsAt_58.2.2.2.2.2.2.2.2.2.2.2.2.2.2.1 rfl ?_
        refine r_calli (k := 0) (idx := 106) (y := 134) (as := [.ref 1, .int (6 : Int32), .int a2]) (rest := [.int r2, .int a3, .int r1, .ref 24, .int v3, .ref 41]) (L0 := [(0, .ref 1), (1, .int (6 : Int32)), (2, .int a2)]) gX9_oddsAt_58.2.2.2.2.2.2.2.2.2.2.2.2.2.2.2.1 rfl rfl rfl rfl rfl (vok_v (ob_1 hE) rfl) rfl (r_dep (by decide) (e_X10_get hE q (6 : Int32) a2)) (fun r4 => ?_)
        refine r_aload_n (x := 39) gX9_oddsAt_88.1 rfl ?_
        refine r_getA gX9_oddsAt_88.2.1 (fa_9_9_39 hE) ?_
        refine r_calli (k := 0) (idx := 111) (y := 127) (as := [.ref 1]) (rest := [.int r4, .int r2, .int a3, .int r1, .ref 24, .int v3, .ref 41]) (L0 := [(0, .ref 1)]) gX9_oddsAt_88.2.2.1 rfl rfl rfl rfl rfl (vok_v (ob_1 hE) rfl) rfl (r_dep (by decide) (e_X10_hourNow hE q)) (fun r5 => ?_)
        refine r_callI (k := 0) (idx := 114) (y := 110) (as := [.ref 24, .int r1, .int a3, .int r2, .int r4, .int r5]) (rest := [.int v3, .ref 41]) (L0 := [(0, .ref 24), (1, .int r1), (2, .int a3), (3, .int r2), (4, .int r4), (5, .int r5)]) gX9_oddsAt_88.2.2.2.1 rfl rfl rfl rfl rfl (vok_v (ob_24 hE) rfl) rfl (r_dep (by decide) (e_X8_oddsBy hE q r1 a3 r2 r4 r5)) (fun r6 => ?_)
        refine r_iastore gX9_oddsAt_88.2.2.2.2.1 (ar_41 hE) ?_
        refine r_nmS fun q7 _ => ?_
        exact r_sub (L' := [(0, .ref 39), (6, .int v3)]) (sub_c rfl (sub_c rfl sub_n)) (rb_X9_oddsAt_99 hE q7 v3)
      · exact r_sub (L' := [(0, .ref 39), (6, .int v3)]) (sub_c rfl (sub_c rfl sub_n)) (rb_X9_oddsAt_99 hE q v3)
    · refine r_iconst (v := (0 : Int32)) gX9_oddsAt_29.2.2.2.2.2.2.2.2.2.2.2.1 rfl ?_
      exact r_ireturn gX9_oddsAt_29.2.2.2.2.2.2.2.2.2.2.2.2.1 rfl rfl
abbrev GT_X9_spread : Type := (SS → Int32 → Int32 → Int64 → Option SS)
def GS_X9_spread (E : EE) (n : Nat) (r : GT_X9_spread) : Prop := (∀ (q : SS) (a1 : Int32) (a2 : Int32) (a3 : Int64), R E (κV E) (5 + n) 115 0 [(0, .ref 39), (1, .int a1), (2, .int a2), (3, .long a3)] [] q (r q a1 a2 a3))
def b_X9_spread_90 (r : GT_X9_spread) (q : SS) (l1 : Int32) (l2 : Int32) (l3 : Int64) (l6 : Int32) (l7 : Int32) (s0 : Int32) : Option SS :=
  (f_X8_holderOf q l6).bind fun r6 =>
  (r q (l1 + (1 : Int32)) l2 ((((12 : Int32) - s0).toInt64) * l3)).bind fun r7 =>
  (f_X8_give r7 l6 l7).bind fun r8 =>
  (r r8 (l1 + (1 : Int32)) (l2 ||| (jshl (1 : Int32) l1)) ((s0.toInt64) * l3)).bind fun r9 =>
  (f_X8_give r9 l6 r6).bind fun r10 =>
  some r10
theorem rb_X9_spread_90 {E : EE} (hE : GE E) {r : GT_X9_spread} (n : Nat) (hr : GS_X9_spread E n r) (q : SS) (l1 : Int32) (l2 : Int32) (l3 : Int64) (l6 : Int32) (l7 : Int32) (s0 : Int32) : R E (κV E) (5 + n + 1) 115 90 [(0, .ref 39), (1, .int l1), (2, .int l2), (3, .long l3), (5, .ref 24), (6, .int l6), (7, .int l7)] [.int s0] q (b_X9_spread_90 r q l1 l2 l3 l6 l7 s0) := by
  unfold b_X9_spread_90
  refine r_istore (L2 := [(0, .ref 39), (1, .int l1), (2, .int l2), (3, .long l3), (5, .ref 24), (6, .int l6), (7, .int l7), (8, .int s0)]) gX9_spread_90.1 rfl rfl ?_
  refine r_aload (x := 24) gX9_spread_90.2.1 rfl ?_
  refine r_iload (x := l6) gX9_spread_90.2.2.1 rfl ?_
  refine r_calli (k := 0) (idx := 96) (y := 98) (as := [.ref 24, .int l6]) (rest := []) (L0 := [(0, .ref 24), (1, .int l6)]) gX9_spread_90.2.2.2.1 rfl rfl rfl rfl rfl (vok_v (ob_24 hE) rfl) rfl (r_dep (by omega) (e_X8_holderOf hE q l6)) (fun r6 => ?_)
  refine r_istore (L2 := [(0, .ref 39), (1, .int l1), (2, .int l2), (3, .long l3), (5, .ref 24), (6, .int l6), (7, .int l7), (8, .int s0), (9, .int r6)]) gX9_spread_90.2.2.2.2.1 rfl rfl ?_
  refine r_aload_n (x := 39) gX9_spread_90.2.2.2.2.2.1 rfl ?_
  refine r_iload_n (x := l1) gX9_spread_90.2.2.2.2.2.2.1 rfl ?_
  refine r_iconst (v := (1 : Int32)) gX9_spread_90.2.2.2.2.2.2.2.1 rfl ?_
  refine r_iadd gX9_spread_90.2.2.2.2.2.2.2.2.1 ?_
  refine r_iload_n (x := l2) gX9_spread_90.2.2.2.2.2.2.2.2.2.1 rfl ?_
  refine r_bipush (v := (12 : Int32)) gX9_spread_90.2.2.2.2.2.2.2.2.2.2.1 rfl ?_
  refine r_iload (x := s0) gX9_spread_90.2.2.2.2.2.2.2.2.2.2.2.1 rfl ?_
  refine r_isub gX9_spread_90.2.2.2.2.2.2.2.2.2.2.2.2.1 ?_
  refine r_i2l gX9_spread_90.2.2.2.2.2.2.2.2.2.2.2.2.2.1 ?_
  refine r_lload_n (x := l3) gX9_spread_90.2.2.2.2.2.2.2.2.2.2.2.2.2.2.1 rfl ?_
  refine r_lmul gX9_spread_90.2.2.2.2.2.2.2.2.2.2.2.2.2.2.2.1 ?_
  refine r_callV (k := 2) (idx := 64) (y := 115) (as := [.ref 39, .int (l1 + (1 : Int32)), .int l2, .long ((((12 : Int32) - s0).toInt64) * l3)]) (rest := []) (L0 := [(0, .ref 39), (1, .int (l1 + (1 : Int32))), (2, .int l2), (3, .long ((((12 : Int32) - s0).toInt64) * l3))]) gX9_spread_114.1 rfl rfl rfl rfl rfl vok_s rfl (hr q (l1 + (1 : Int32)) l2 ((((12 : Int32) - s0).toInt64) * l3)) (fun r7 => ?_)
  refine r_aload (x := 24) gX9_spread_114.2.1 rfl ?_
  refine r_iload (x := l6) gX9_spread_114.2.2.1 rfl ?_
  refine r_iload (x := l7) gX9_spread_114.2.2.2.1 rfl ?_
  refine r_callV (k := 0) (idx := 99) (y := 99) (as := [.ref 24, .int l6, .int l7]) (rest := []) (L0 := [(0, .ref 24), (1, .int l6), (2, .int l7)]) gX9_spread_114.2.2.2.2.1 rfl rfl rfl rfl rfl (vok_v (ob_24 hE) rfl) rfl (r_dep (by omega) (e_X8_give hE r7 l6 l7)) (fun r8 => ?_)
  refine r_aload_n (x := 39) gX9_spread_114.2.2.2.2.2.1 rfl ?_
  refine r_iload_n (x := l1) gX9_spread_114.2.2.2.2.2.2.1 rfl ?_
  refine r_iconst (v := (1 : Int32)) gX9_spread_114.2.2.2.2.2.2.2.1 rfl ?_
  refine r_iadd gX9_spread_114.2.2.2.2.2.2.2.2.1 ?_
  refine r_iload_n (x := l2) gX9_spread_114.2.2.2.2.2.2.2.2.2.1 rfl ?_
  refine r_iconst (v := (1 : Int32)) gX9_spread_114.2.2.2.2.2.2.2.2.2.2.1 rfl ?_
  refine r_iload_n (x := l1) gX9_spread_114.2.2.2.2.2.2.2.2.2.2.2.1 rfl ?_
  refine r_ishl gX9_spread_114.2.2.2.2.2.2.2.2.2.2.2.2.1 ?_
  refine r_ior gX9_spread_114.2.2.2.2.2.2.2.2.2.2.2.2.2.1 ?_
  refine r_iload (x := s0) gX9_spread_114.2.2.2.2.2.2.2.2.2.2.2.2.2.2.1 rfl ?_
  refine r_i2l gX9_spread_114.2.2.2.2.2.2.2.2.2.2.2.2.2.2.2.1 ?_
  refine r_lload_n (x := l3) gX9_spread_138.1 rfl ?_
  refine r_lmul gX9_spread_138.2.1 ?_
  refine r_callV (k := 2) (idx := 64) (y := 115) (as := [.ref 39, .int (l1 + (1 : Int32)), .int (l2 ||| (jshl (1 : Int32) l1)), .long ((s0.toInt64) * l3)]) (rest := []) (L0 := [(0, .ref 39), (1, .int (l1 + (1 : Int32))), (2, .int (l2 ||| (jshl (1 : Int32) l1))), (3, .long ((s0.toInt64) * l3))]) gX9_spread_138.2.2.1 rfl rfl rfl rfl rfl vok_s rfl (hr r8 (l1 + (1 : Int32)) (l2 ||| (jshl (1 : Int32) l1)) ((s0.toInt64) * l3)) (fun r9 => ?_)
  refine r_aload (x := 24) gX9_spread_138.2.2.2.1 rfl ?_
  refine r_iload (x := l6) gX9_spread_138.2.2.2.2.1 rfl ?_
  refine r_iload (x := r6) gX9_spread_138.2.2.2.2.2.1 rfl ?_
  refine r_callV (k := 0) (idx := 99) (y := 99) (as := [.ref 24, .int l6, .int r6]) (rest := []) (L0 := [(0, .ref 24), (1, .int l6), (2, .int r6)]) gX9_spread_138.2.2.2.2.2.2.1 rfl rfl rfl rfl rfl (vok_v (ob_24 hE) rfl) rfl (r_dep (by omega) (e_X8_give hE r9 l6 r6)) (fun r10 => ?_)
  exact r_return gX9_spread_138.2.2.2.2.2.2.2.1 rfl rfl
def fb_X9_spread (r : GT_X9_spread) (q : SS) (a1 : Int32) (a2 : Int32) (a3 : Int64) : Option SS :=
  (f_X2_size q).bind fun r1 =>
  if a1 < r1 then
  ((f_X2_ticketAt q a1).bind fun r2 =>
  (f_X2_toAt q a1).bind fun r3 =>
  (f_X8_canSlip q r2 r3).bind fun r4 =>
  if r4 = 0 then
  ((r q (a1 + (1 : Int32)) a2 ((12 : Int64) * a3)).bind fun r5 =>
  some r5)
  else
  (if (q.1 39 5) = 0 then
  (b_X9_spread_90 r q a1 a2 a3 r2 r3 (0 : Int32))
  else
  ((f_X9_oddsAt q a1 r2 r3).bind fun r11 =>
  b_X9_spread_90 r r11.2 a1 a2 a3 r2 r3 r11.1)))
  else
  ((f_X9_arrive q a2 a3).bind fun r14 =>
  some r14)
theorem eb_X9_spread {E : EE} (hE : GE E) {r : GT_X9_spread} (n : Nat) (hr : GS_X9_spread E n r) (q : SS) (a1 : Int32) (a2 : Int32) (a3 : Int64) : R E (κV E) (5 + n + 1) 115 0 [(0, .ref 39), (1, .int a1), (2, .int a2), (3, .long a3)] [] q (fb_X9_spread r q a1 a2 a3) := by
  unfold fb_X9_spread
  refine r_iload_n (x := a1) gX9_spread_0.1 rfl ?_
  refine r_aload_n (x := 39) gX9_spread_0.2.1 rfl ?_
  refine r_getA gX9_spread_0.2.2.1 (fa_9_19_39 hE) ?_
  refine r_calli (k := 0) (idx := 68) (y := 15) (as := [.ref 37]) (rest := [.int a1]) (L0 := [(0, .ref 37)]) gX9_spread_0.2.2.2.1 rfl rfl rfl rfl rfl (vok_v (ob_37 hE) rfl) rfl (r_dep (by omega) (e_X2_size hE q)) (fun r1 => ?_)
  refine r_icmp_lt (t := 18) gX9_spread_0.2.2.2.2.1 rfl (fun h15 => ?_) (fun h15 => ?_)
  · refine r_aload_n (x := 39) gX9_spread_0.2.2.2.2.2.2.2.2.2.2.1 rfl ?_
    refine r_getA gX9_spread_0.2.2.2.2.2.2.2.2.2.2.2.1 (fa_9_15_39 hE) ?_
    refine r_astore (L2 := [(0, .ref 39), (1, .int a1), (2, .int a2), (3, .long a3), (5, .ref 24)]) gX9_spread_0.2.2.2.2.2.2.2.2.2.2.2.2.1 rfl rfl ?_
    refine r_aload_n (x := 39) gX9_spread_0.2.2.2.2.2.2.2.2.2.2.2.2.2.1 rfl ?_
    refine r_getA gX9_spread_0.2.2.2.2.2.2.2.2.2.2.2.2.2.2.1 (fa_9_19_39 hE) ?_
    refine r_iload_n (x := a1) gX9_spread_0.2.2.2.2.2.2.2.2.2.2.2.2.2.2.2.1 rfl ?_
    refine r_calli (k := 0) (idx := 78) (y := 16) (as := [.ref 37, .int a1]) (rest := []) (L0 := [(0, .ref 37), (1, .int a1)]) gX9_spread_29.1 rfl rfl rfl rfl rfl (vok_v (ob_37 hE) rfl) rfl (r_dep (by omega) (e_X2_ticketAt hE q a1)) (fun r2 => ?_)
    refine r_istore (L2 := [(0, .ref 39), (1, .int a1), (2, .int a2), (3, .long a3), (5, .ref 24), (6, .int r2)]) gX9_spread_29.2.1 rfl rfl ?_
    refine r_aload_n (x := 39) gX9_spread_29.2.2.1 rfl ?_
    refine r_getA gX9_spread_29.2.2.2.1 (fa_9_19_39 hE) ?_
    refine r_iload_n (x := a1) gX9_spread_29.2.2.2.2.1 rfl ?_
    refine r_calli (k := 0) (idx := 81) (y := 17) (as := [.ref 37, .int a1]) (rest := []) (L0 := [(0, .ref 37), (1, .int a1)]) gX9_spread_29.2.2.2.2.2.1 rfl rfl rfl rfl rfl (vok_v (ob_37 hE) rfl) rfl (r_dep (by omega) (e_X2_toAt hE q a1)) (fun r3 => ?_)
    refine r_istore (L2 := [(0, .ref 39), (1, .int a1), (2, .int a2), (3, .long a3), (5, .ref 24), (6, .int r2), (7, .int r3)]) gX9_spread_29.2.2.2.2.2.2.1 rfl rfl ?_
    refine r_aload (x := 24) gX9_spread_29.2.2.2.2.2.2.2.1 rfl ?_
    refine r_iload (x := r2) gX9_spread_29.2.2.2.2.2.2.2.2.1 rfl ?_
    refine r_iload (x := r3) gX9_spread_29.2.2.2.2.2.2.2.2.2.1 rfl ?_
    refine r_calli (k := 0) (idx := 84) (y := 107) (as := [.ref 24, .int r2, .int r3]) (rest := []) (L0 := [(0, .ref 24), (1, .int r2), (2, .int r3)]) gX9_spread_29.2.2.2.2.2.2.2.2.2.2.1 rfl rfl rfl rfl rfl (vok_v (ob_24 hE) rfl) rfl (r_dep (by omega) (e_X8_canSlip hE q r2 r3)) (fun r4 => ?_)
    refine r_if_ne (t := 70) gX9_spread_29.2.2.2.2.2.2.2.2.2.2.2.1 rfl (fun h13 => ?_) (fun h13 => ?_)
    · refine r_aload_n (x := 39) gX9_spread_29.2.2.2.2.2.2.2.2.2.2.2.2.1 rfl ?_
      refine r_iload_n (x := a1) gX9_spread_29.2.2.2.2.2.2.2.2.2.2.2.2.2.1 rfl ?_
      refine r_iconst (v := (1 : Int32)) gX9_spread_29.2.2.2.2.2.2.2.2.2.2.2.2.2.2.1 rfl ?_
      refine r_iadd gX9_spread_29.2.2.2.2.2.2.2.2.2.2.2.2.2.2.2.1 ?_
      refine r_iload_n (x := a2) gX9_spread_60.1 rfl ?_
      refine r_ldc2 (v := (12 : Int64)) gX9_spread_60.2.1 rfl ?_
      refine r_lload_n (x := a3) gX9_spread_60.2.2.1 rfl ?_
      refine r_lmul gX9_spread_60.2.2.2.1 ?_
      refine r_callV (k := 2) (idx := 64) (y := 115) (as := [.ref 39, .int (a1 + (1 : Int32)), .int a2, .long ((12 : Int64) * a3)]) (rest := []) (L0 := [(0, .ref 39), (1, .int (a1 + (1 : Int32))), (2, .int a2), (3, .long ((12 : Int64) * a3))]) gX9_spread_60.2.2.2.2.1 rfl rfl rfl rfl rfl vok_s rfl (hr q (a1 + (1 : Int32)) a2 ((12 : Int64) * a3)) (fun r5 => ?_)
      exact r_return gX9_spread_60.2.2.2.2.2.1 rfl rfl
    · refine r_aload_n (x := 39) gX9_spread_60.2.2.2.2.2.2.1 rfl ?_
      refine r_getI gX9_spread_60.2.2.2.2.2.2.2.1 (ff_9_40_39 hE) (by decide) ?_
      refine r_if_eq (t := 89) gX9_spread_60.2.2.2.2.2.2.2.2.1 rfl (fun h12 => ?_) (fun h12 => ?_)
      · refine r_iconst (v := (0 : Int32)) gX9_spread_60.2.2.2.2.2.2.2.2.2.2.2.2.2.2.2.1 rfl ?_
        exact r_sub (L' := [(0, .ref 39), (1, .int a1), (2, .int a2), (3, .long a3), (5, .ref 24), (6, .int r2), (7, .int r3)]) (sub_c rfl (sub_c rfl (sub_c rfl (sub_c rfl (sub_c rfl (sub_c rfl (sub_c rfl sub_n))))))) (rb_X9_spread_90 hE n hr q a1 a2 a3 r2 r3 (0 : Int32))
      · refine r_aload_n (x := 39) gX9_spread_60.2.2.2.2.2.2.2.2.2.1 rfl ?_
        refine r_iload_n (x := a1) gX9_spread_60.2.2.2.2.2.2.2.2.2.2.1 rfl ?_
        refine r_iload (x := r2) gX9_spread_60.2.2.2.2.2.2.2.2.2.2.2.1 rfl ?_
        refine r_iload (x := r3) gX9_spread_60.2.2.2.2.2.2.2.2.2.2.2.2.1 rfl ?_
        refine r_callI (k := 0) (idx := 92) (y := 116) (as := [.ref 39, .int a1, .int r2, .int r3]) (rest := []) (L0 := [(0, .ref 39), (1, .int a1), (2, .int r2), (3, .int r3)]) gX9_spread_60.2.2.2.2.2.2.2.2.2.2.2.2.2.1 rfl rfl rfl rfl rfl (vok_v (ob_39 hE) rfl) rfl (r_dep (by omega) (e_X9_oddsAt hE q a1 r2 r3)) (fun r11 => ?_)
        refine r_goto (t := 90) gX9_spread_60.2.2.2.2.2.2.2.2.2.2.2.2.2.2.1 rfl ?_
        exact r_sub (L' := [(0, .ref 39), (1, .int a1), (2, .int a2), (3, .long a3), (5, .ref 24), (6, .int r2), (7, .int r3)]) (sub_c rfl (sub_c rfl (sub_c rfl (sub_c rfl (sub_c rfl (sub_c rfl (sub_c rfl sub_n))))))) (rb_X9_spread_90 hE n hr r11.2 a1 a2 a3 r2 r3 r11.1)
  · refine r_aload_n (x := 39) gX9_spread_0.2.2.2.2.2.1 rfl ?_
    refine r_iload_n (x := a2) gX9_spread_0.2.2.2.2.2.2.1 rfl ?_
    refine r_lload_n (x := a3) gX9_spread_0.2.2.2.2.2.2.2.1 rfl ?_
    refine r_callV (k := 0) (idx := 74) (y := 117) (as := [.ref 39, .int a2, .long a3]) (rest := []) (L0 := [(0, .ref 39), (1, .int a2), (2, .long a3)]) gX9_spread_0.2.2.2.2.2.2.2.2.1 rfl rfl rfl rfl rfl (vok_v (ob_39 hE) rfl) rfl (r_dep (by omega) (e_X9_arrive hE q a2 a3)) (fun r14 => ?_)
    exact r_return gX9_spread_0.2.2.2.2.2.2.2.2.2.1 rfl rfl
def g_X9_spread : Nat → GT_X9_spread
  | 0 => (fun _ _ _ _ => none)
  | n + 1 => (fb_X9_spread (g_X9_spread n))
theorem gs_X9_spread {E : EE} (hE : GE E) : ∀ n, GS_X9_spread E n (g_X9_spread n)
  | 0 => fun _ _ _ _ => r_no
  | n + 1 => eb_X9_spread hE n (gs_X9_spread hE n)
def f_X9_spread : SS → Int32 → Int32 → Int64 → Option SS := (g_X9_spread 60)
theorem e_X9_spread {E : EE} (hE : GE E) : ∀ (q : SS) (a1 : Int32) (a2 : Int32) (a3 : Int64), R E (κV E) 65 115 0 [(0, .ref 39), (1, .int a1), (2, .int a2), (3, .long a3)] [] q (f_X9_spread q a1 a2 a3) := (gs_X9_spread hE 60)
def b_X9_goThrough_76 (q : SS) (l3 : Int32) : Option SS :=
  if l3 = 0 ∨ l3 = 1 then
  nm (sI q 39 5 l3) fun q1 =>
  nm (sI q1 39 6 (0 : Int32)) fun q2 =>
  nm (sI q2 39 7 (-2 : Int32)) fun q3 =>
  nm (sI q3 39 8 (-2 : Int32)) fun q4 =>
  nm (sI q4 39 9 (4095 : Int32)) fun q5 =>
  nm (sL q5 39 10 (0 : Int64)) fun q6 =>
  nm (sI q6 39 11 (-2 : Int32)) fun q7 =>
  (f_X9_spread q7 (0 : Int32) (0 : Int32) (1 : Int64)).bind fun r8 =>
  some r8
  else none
theorem rb_X9_goThrough_76 {E : EE} (hE : GE E) (q : SS) (l3 : Int32) : R E (κV E) 66 114 76 [(0, .ref 39), (3, .int l3)] [] q (b_X9_goThrough_76 q l3) := by
  unfold b_X9_goThrough_76
  refine r_aload_n (x := 39) gX9_goThrough_62.2.2.2.2.2.2.2.1 rfl ?_
  refine r_iload_n (x := l3) gX9_goThrough_62.2.2.2.2.2.2.2.2.1 rfl ?_
  refine r_putZ gX9_goThrough_62.2.2.2.2.2.2.2.2.2.1 (ff_9_40_39 hE) ?_
  refine r_nmS fun q1 _ => ?_
  refine r_aload_n (x := 39) gX9_goThrough_62.2.2.2.2.2.2.2.2.2.2.1 rfl ?_
  refine r_iconst (v := (0 : Int32)) gX9_goThrough_62.2.2.2.2.2.2.2.2.2.2.2.1 rfl ?_
  refine r_putI gX9_goThrough_62.2.2.2.2.2.2.2.2.2.2.2.2.1 (ff_9_44_39 hE) ?_
  refine r_nmS fun q2 _ => ?_
  refine r_aload_n (x := 39) gX9_goThrough_62.2.2.2.2.2.2.2.2.2.2.2.2.2.1 rfl ?_
  refine r_bipush (v := (-2 : Int32)) gX9_goThrough_62.2.2.2.2.2.2.2.2.2.2.2.2.2.2.1 rfl ?_
  refine r_putI gX9_goThrough_62.2.2.2.2.2.2.2.2.2.2.2.2.2.2.2.1 (ff_9_48_39 hE) ?_
  refine r_nmS fun q3 _ => ?_
  refine r_aload_n (x := 39) gX9_goThrough_92.1 rfl ?_
  refine r_bipush (v := (-2 : Int32)) gX9_goThrough_92.2.1 rfl ?_
  refine r_putI gX9_goThrough_92.2.2.1 (ff_9_51_39 hE) ?_
  refine r_nmS fun q4 _ => ?_
  refine r_aload_n (x := 39) gX9_goThrough_92.2.2.2.1 rfl ?_
  refine r_sipush (v := (4095 : Int32)) gX9_goThrough_92.2.2.2.2.1 rfl ?_
  refine r_putI gX9_goThrough_92.2.2.2.2.2.1 (ff_9_54_39 hE) ?_
  refine r_nmS fun q5 _ => ?_
  refine r_aload_n (x := 39) gX9_goThrough_92.2.2.2.2.2.2.1 rfl ?_
  refine r_lconst (v := (0 : Int64)) gX9_goThrough_92.2.2.2.2.2.2.2.1 rfl ?_
  refine r_putL gX9_goThrough_92.2.2.2.2.2.2.2.2.1 (ff_9_57_39 hE) ?_
  refine r_nmS fun q6 _ => ?_
  refine r_aload_n (x := 39) gX9_goThrough_92.2.2.2.2.2.2.2.2.2.1 rfl ?_
  refine r_bipush (v := (-2 : Int32)) gX9_goThrough_92.2.2.2.2.2.2.2.2.2.2.1 rfl ?_
  refine r_putI gX9_goThrough_92.2.2.2.2.2.2.2.2.2.2.2.1 (ff_9_61_39 hE) ?_
  refine r_nmS fun q7 _ => ?_
  refine r_aload_n (x := 39) gX9_goThrough_92.2.2.2.2.2.2.2.2.2.2.2.2.1 rfl ?_
  refine r_iconst (v := (0 : Int32)) gX9_goThrough_92.2.2.2.2.2.2.2.2.2.2.2.2.2.1 rfl ?_
  refine r_iconst (v := (0 : Int32)) gX9_goThrough_92.2.2.2.2.2.2.2.2.2.2.2.2.2.2.1 rfl ?_
  refine r_lconst (v := (1 : Int64)) gX9_goThrough_92.2.2.2.2.2.2.2.2.2.2.2.2.2.2.2.1 rfl ?_
  refine r_callV (k := 2) (idx := 64) (y := 115) (as := [.ref 39, .int (0 : Int32), .int (0 : Int32), .long (1 : Int64)]) (rest := []) (L0 := [(0, .ref 39), (1, .int (0 : Int32)), (2, .int (0 : Int32)), (3, .long (1 : Int64))]) gX9_goThrough_120.1 rfl rfl rfl rfl rfl vok_s rfl (r_dep (by decide) (e_X9_spread hE q7 (0 : Int32) (0 : Int32) (1 : Int64))) (fun r8 => ?_)
  exact r_return gX9_goThrough_120.2.1 rfl rfl
def b_X9_goThrough_48 : SS → Int32 → Int32 → Option SS :=
  fx3 (fun (rec_48 : SS → Int32 → Int32 → Option SS) (q : SS) (l3 : Int32) (l4 : Int32) =>
  if (864 : Int32) ≤ l4 then
  (b_X9_goThrough_76 q l3)
  else
  (if l3 = 0 then
  (b_X9_goThrough_76 q l3)
  else
  (if vin l4 864 then
  nm (sI q 41 l4.toNatClampNeg (-1 : Int32)) fun q9 =>
  rec_48 q9 l3 (l4 + (1 : Int32))
  else none))) FU
theorem rb_X9_goThrough_48 {E : EE} (hE : GE E) (q : SS) (l3 : Int32) (l4 : Int32) : R E (κV E) 66 114 48 [(0, .ref 39), (3, .int l3), (4, .int l4)] [] q (b_X9_goThrough_48 q l3 l4) := by
  unfold b_X9_goThrough_48
  refine fx3_ok (P := fun q l3 l4 o => R E (κV E) 66 114 48 [(0, .ref 39), (3, .int l3), (4, .int l4)] [] q o) (fun _ _ _ => r_no) (fun rec_48 hrec_48 q l3 l4 => ?_) _ _ _ _
  refine r_iload (x := l4) gX9_goThrough_30.2.2.2.2.2.2.2.2.2.1 rfl ?_
  refine r_aload_n (x := 39) gX9_goThrough_30.2.2.2.2.2.2.2.2.2.2.1 rfl ?_
  refine r_getA gX9_goThrough_30.2.2.2.2.2.2.2.2.2.2.2.1 (fa_9_27_39 hE) ?_
  refine r_len (v := (864 : Int32)) gX9_goThrough_30.2.2.2.2.2.2.2.2.2.2.2.2.1 (ar_41 hE) (by decide) rfl ?_
  refine r_icmp_ge (t := 76) gX9_goThrough_30.2.2.2.2.2.2.2.2.2.2.2.2.2.1 rfl (fun h11 => ?_) (fun h11 => ?_)
  · exact r_sub (L' := [(0, .ref 39), (3, .int l3)]) (sub_c rfl (sub_c rfl sub_n)) (rb_X9_goThrough_76 hE q l3)
  · refine r_iload_n (x := l3) gX9_goThrough_30.2.2.2.2.2.2.2.2.2.2.2.2.2.2.1 rfl ?_
    refine r_if_eq (t := 76) gX9_goThrough_30.2.2.2.2.2.2.2.2.2.2.2.2.2.2.2.1 rfl (fun h10 => ?_) (fun h10 => ?_)
    · exact r_sub (L' := [(0, .ref 39), (3, .int l3)]) (sub_c rfl (sub_c rfl sub_n)) (rb_X9_goThrough_76 hE q l3)
    · refine r_aload_n (x := 39) gX9_goThrough_62.1 rfl ?_
      refine r_getA gX9_goThrough_62.2.1 (fa_9_27_39 hE) ?_
      refine r_iload (x := l4) gX9_goThrough_62.2.2.1 rfl ?_
      refine r_iconst (v := (-1 : Int32)) gX9_goThrough_62.2.2.2.1 rfl ?_
      refine r_iastore gX9_goThrough_62.2.2.2.2.1 (ar_41 hE) ?_
      refine r_nmS fun q9 _ => ?_
      refine r_iinc (x := l4) (v := (l4 + (1 : Int32))) (L2 := [(0, .ref 39), (3, .int l3), (4, .int (l4 + (1 : Int32)))]) gX9_goThrough_62.2.2.2.2.2.1 rfl rfl rfl rfl ?_
      refine r_goto (t := 48) gX9_goThrough_62.2.2.2.2.2.2.1 rfl ?_
      exact r_sub (L' := [(0, .ref 39), (3, .int l3), (4, .int (l4 + (1 : Int32)))]) (sub_c rfl (sub_c rfl (sub_c rfl sub_n))) (hrec_48 q9 l3 (l4 + (1 : Int32)))
def b_X9_goThrough_38 (rec_3 : SS → Int32 → Int32 → Int32 → Option SS) (q : SS) (l2 : Int32) (l3 : Int32) (l4 : Int32) (s0 : Int32) (s1 : Int32) : Option SS :=
  if vin s1 12 then
  nm (sI q 40 s1.toNatClampNeg s0) fun q13 =>
  rec_3 q13 l2 l3 (l4 + (1 : Int32))
  else none
theorem rb_X9_goThrough_38 {E : EE} (hE : GE E) {rec_3 : SS → Int32 → Int32 → Int32 → Option SS} (hrec_3 : ∀ (yq : SS) (yl2 : Int32) (yl3 : Int32) (yl4 : Int32), R E (κV E) 66 114 3 [(0, .ref 39), (1, .ref 26), (2, .int yl2), (3, .int yl3), (4, .int yl4)] [] yq (rec_3 yq yl2 yl3 yl4)) (q : SS) (l2 : Int32) (l3 : Int32) (l4 : Int32) (s0 : Int32) (s1 : Int32) : R E (κV E) 66 114 38 [(0, .ref 39), (1, .ref 26), (2, .int l2), (3, .int l3), (4, .int l4)] [.int s0, .int s1, .ref 40] q (b_X9_goThrough_38 rec_3 q l2 l3 l4 s0 s1) := by
  unfold b_X9_goThrough_38
  refine r_iastore gX9_goThrough_30.2.2.2.2.1 (ar_40 hE) ?_
  refine r_nmS fun q13 _ => ?_
  refine r_iinc (x := l4) (v := (l4 + (1 : Int32))) (L2 := [(0, .ref 39), (1, .ref 26), (2, .int l2), (3, .int l3), (4, .int (l4 + (1 : Int32)))]) gX9_goThrough_30.2.2.2.2.2.1 rfl rfl rfl rfl ?_
  refine r_goto (t := 3) gX9_goThrough_30.2.2.2.2.2.2.1 rfl ?_
  exact r_sub (L' := [(0, .ref 39), (1, .ref 26), (2, .int l2), (3, .int l3), (4, .int (l4 + (1 : Int32)))]) (sub_c rfl (sub_c rfl (sub_c rfl (sub_c rfl (sub_c rfl sub_n))))) (hrec_3 q13 l2 l3 (l4 + (1 : Int32)))
def b_X9_goThrough_3 : SS → Int32 → Int32 → Int32 → Option SS :=
  fx4 (fun (rec_3 : SS → Int32 → Int32 → Int32 → Option SS) (q : SS) (l2 : Int32) (l3 : Int32) (l4 : Int32) =>
  if (12 : Int32) ≤ l4 then
  (b_X9_goThrough_48 q l3 (0 : Int32))
  else
  ((f_X7_sizeOf q l2).bind fun r12 =>
  if r12 ≤ l4 then
  (b_X9_goThrough_38 rec_3 q l2 l3 l4 (-1 : Int32) l4)
  else
  ((f_X7_get q l2 l4).bind fun r14 =>
  b_X9_goThrough_38 rec_3 q l2 l3 l4 (r14.toInt32) l4))) FU
theorem rb_X9_goThrough_3 {E : EE} (hE : GE E) (q : SS) (l2 : Int32) (l3 : Int32) (l4 : Int32) : R E (κV E) 66 114 3 [(0, .ref 39), (1, .ref 26), (2, .int l2), (3, .int l3), (4, .int l4)] [] q (b_X9_goThrough_3 q l2 l3 l4) := by
  unfold b_X9_goThrough_3
  refine fx4_ok (P := fun q l2 l3 l4 o => R E (κV E) 66 114 3 [(0, .ref 39), (1, .ref 26), (2, .int l2), (3, .int l3), (4, .int l4)] [] q o) (fun _ _ _ _ => r_no) (fun rec_3 hrec_3 q l2 l3 l4 => ?_) _ _ _ _ _
  refine r_iload (x := l4) gX9_goThrough_0.2.2.1 rfl ?_
  refine r_bipush (v := (12 : Int32)) gX9_goThrough_0.2.2.2.1 rfl ?_
  refine r_icmp_ge (t := 45) gX9_goThrough_0.2.2.2.2.1 rfl (fun h16 => ?_) (fun h16 => ?_)
  · refine r_iconst (v := (0 : Int32)) gX9_goThrough_30.2.2.2.2.2.2.2.1 rfl ?_
    refine r_istore (L2 := [(0, .ref 39), (1, .ref 26), (2, .int l2), (3, .int l3), (4, .int (0 : Int32))]) gX9_goThrough_30.2.2.2.2.2.2.2.2.1 rfl rfl ?_
    exact r_sub (L' := [(0, .ref 39), (3, .int l3), (4, .int (0 : Int32))]) (sub_c rfl (sub_c rfl (sub_c rfl sub_n))) (rb_X9_goThrough_48 hE q l3 (0 : Int32))
  · refine r_aload_n (x := 39) gX9_goThrough_0.2.2.2.2.2.1 rfl ?_
    refine r_getA gX9_goThrough_0.2.2.2.2.2.2.1 (fa_9_23_39 hE) ?_
    refine r_iload (x := l4) gX9_goThrough_0.2.2.2.2.2.2.2.1 rfl ?_
    refine r_iload (x := l4) gX9_goThrough_0.2.2.2.2.2.2.2.2.1 rfl ?_
    refine r_aload_n (x := 26) gX9_goThrough_0.2.2.2.2.2.2.2.2.2.1 rfl ?_
    refine r_iload_n (x := l2) gX9_goThrough_0.2.2.2.2.2.2.2.2.2.2.1 rfl ?_
    refine r_calli (k := 0) (idx := 30) (y := 82) (as := [.ref 26, .int l2]) (rest := [.int l4, .int l4, .ref 40]) (L0 := [(0, .ref 26), (1, .int l2)]) gX9_goThrough_0.2.2.2.2.2.2.2.2.2.2.2.1 rfl rfl rfl rfl rfl (vok_v (ob_26 hE) rfl) rfl (r_dep (by decide) (e_X7_sizeOf hE q l2)) (fun r12 => ?_)
    refine r_icmp_ge (t := 37) gX9_goThrough_0.2.2.2.2.2.2.2.2.2.2.2.2.1 rfl (fun h15 => ?_) (fun h15 => ?_)
    · refine r_iconst (v := (-1 : Int32)) gX9_goThrough_30.2.2.2.1 rfl ?_
      exact r_sub (L' := [(0, .ref 39), (1, .ref 26), (2, .int l2), (3, .int l3), (4, .int l4)]) (sub_c rfl (sub_c rfl (sub_c rfl (sub_c rfl (sub_c rfl sub_n))))) (rb_X9_goThrough_38 hE hrec_3 q l2 l3 l4 (-1 : Int32) l4)
    · refine r_aload_n (x := 26) gX9_goThrough_0.2.2.2.2.2.2.2.2.2.2.2.2.2.1 rfl ?_
      refine r_iload_n (x := l2) gX9_goThrough_0.2.2.2.2.2.2.2.2.2.2.2.2.2.2.1 rfl ?_
      refine r_iload (x := l4) gX9_goThrough_0.2.2.2.2.2.2.2.2.2.2.2.2.2.2.2.1 rfl ?_
      refine r_calll (k := 0) (idx := 36) (y := 92) (as := [.ref 26, .int l2, .int l4]) (rest := [.int l4, .ref 40]) (L0 := [(0, .ref 26), (1, .int l2), (2, .int l4)]) gX9_goThrough_30.1 rfl rfl rfl rfl rfl (vok_v (ob_26 hE) rfl) rfl (r_dep (by decide) (e_X7_get hE q l2 l4)) (fun r14 => ?_)
      refine r_l2i gX9_goThrough_30.2.1 ?_
      refine r_goto (t := 38) gX9_goThrough_30.2.2.1 rfl ?_
      exact r_sub (L' := [(0, .ref 39), (1, .ref 26), (2, .int l2), (3, .int l3), (4, .int l4)]) (sub_c rfl (sub_c rfl (sub_c rfl (sub_c rfl (sub_c rfl sub_n))))) (rb_X9_goThrough_38 hE hrec_3 q l2 l3 l4 (r14.toInt32) l4)
def f_X9_goThrough (q : SS) (a2 : Int32) (a3 : Int32) : Option SS :=
  b_X9_goThrough_3 q a2 a3 (0 : Int32)
theorem e_X9_goThrough {E : EE} (hE : GE E) (q : SS) (a2 : Int32) (a3 : Int32) : R E (κV E) 66 114 0 [(0, .ref 39), (1, .ref 26), (2, .int a2), (3, .int a3)] [] q (f_X9_goThrough q a2 a3) := by
  unfold f_X9_goThrough
  refine r_iconst (v := (0 : Int32)) gX9_goThrough_0.1 rfl ?_
  refine r_istore (L2 := [(0, .ref 39), (1, .ref 26), (2, .int a2), (3, .int a3), (4, .int (0 : Int32))]) gX9_goThrough_0.2.1 rfl rfl ?_
  exact r_sub (L' := [(0, .ref 39), (1, .ref 26), (2, .int a2), (3, .int a3), (4, .int (0 : Int32))]) (sub_c rfl (sub_c rfl (sub_c rfl (sub_c rfl (sub_c rfl sub_n))))) (rb_X9_goThrough_3 hE q a2 a3 (0 : Int32))
def f_X9_likeliestBits (q : SS)  : Option Int32 :=
  some (q.1 39 11)
theorem e_X9_likeliestBits {E : EE} (hE : GE E) (q : SS)  : R E (κi E q) 0 123 0 [(0, .ref 39)] [] q (f_X9_likeliestBits q) := by
  unfold f_X9_likeliestBits
  refine r_aload_n (x := 39) gX9_likeliestBits_0.1 rfl ?_
  refine r_getI gX9_likeliestBits_0.2.1 (ff_9_61_39 hE) (by decide) ?_
  exact r_ireturn gX9_likeliestBits_0.2.2.1 rfl rfl
def f_X9_certain (q : SS)  : Option Int32 :=
  if (q.1 39 6) = 0 then
  (some (0 : Int32))
  else
  (some (q.1 39 9))
theorem e_X9_certain {E : EE} (hE : GE E) (q : SS)  : R E (κi E q) 0 122 0 [(0, .ref 39)] [] q (f_X9_certain q) := by
  unfold f_X9_certain
  refine r_aload_n (x := 39) gX9_certain_0.1 rfl ?_
  refine r_getI gX9_certain_0.2.1 (ff_9_44_39 hE) (by decide) ?_
  refine r_if_ne (t := 11) gX9_certain_0.2.2.1 rfl (fun h1 => ?_) (fun h1 => ?_)
  · refine r_iconst (v := (0 : Int32)) gX9_certain_0.2.2.2.1 rfl ?_
    refine r_goto (t := 15) gX9_certain_0.2.2.2.2.1 rfl ?_
    exact r_ireturn gX9_certain_0.2.2.2.2.2.2.2.1 rfl rfl
  · refine r_aload_n (x := 39) gX9_certain_0.2.2.2.2.2.1 rfl ?_
    refine r_getI gX9_certain_0.2.2.2.2.2.2.1 (ff_9_54_39 hE) (by decide) ?_
    exact r_ireturn gX9_certain_0.2.2.2.2.2.2.2.1 rfl rfl
def f_X9_fewestBits (q : SS)  : Option Int32 :=
  some (q.1 39 8)
theorem e_X9_fewestBits {E : EE} (hE : GE E) (q : SS)  : R E (κi E q) 0 121 0 [(0, .ref 39)] [] q (f_X9_fewestBits q) := by
  unfold f_X9_fewestBits
  refine r_aload_n (x := 39) gX9_fewestBits_0.1 rfl ?_
  refine r_getI gX9_fewestBits_0.2.1 (ff_9_51_39 hE) (by decide) ?_
  exact r_ireturn gX9_fewestBits_0.2.2.1 rfl rfl
def f_X9_fewest (q : SS)  : Option Int32 :=
  some (q.1 39 7)
theorem e_X9_fewest {E : EE} (hE : GE E) (q : SS)  : R E (κi E q) 0 120 0 [(0, .ref 39)] [] q (f_X9_fewest q) := by
  unfold f_X9_fewest
  refine r_aload_n (x := 39) gX9_fewest_0.1 rfl ?_
  refine r_getI gX9_fewest_0.2.1 (ff_9_48_39 hE) (by decide) ?_
  exact r_ireturn gX9_fewest_0.2.2.1 rfl rfl
def f_X9_howMany (q : SS)  : Option Int32 :=
  some (q.1 39 6)
theorem e_X9_howMany {E : EE} (hE : GE E) (q : SS)  : R E (κi E q) 0 119 0 [(0, .ref 39)] [] q (f_X9_howMany q) := by
  unfold f_X9_howMany
  refine r_aload_n (x := 39) gX9_howMany_0.1 rfl ?_
  refine r_getI gX9_howMany_0.2.1 (ff_9_44_39 hE) (by decide) ?_
  exact r_ireturn gX9_howMany_0.2.2.1 rfl rfl
def b_X11_behind_114 (q : SS) (l3 : Int32) (s0 : Int32) (s1 : Int32) : Option (Int32 × SS) :=
  (f_X9_goThrough q s1 s0).bind fun r8 =>
  sw l3 [(0, ((f_X9_howMany r8).bind fun r10 =>
  some (r10, r8))), (1, ((f_X9_fewest r8).bind fun r12 =>
  some (r12, r8))), (2, ((f_X9_fewestBits r8).bind fun r14 =>
  some (r14, r8))), (3, ((f_X9_certain r8).bind fun r16 =>
  some (r16, r8)))]
  ((f_X9_likeliestBits r8).bind fun r17 =>
  some (r17, r8))
theorem rb_X11_behind_114 {E : EE} (hE : GE E) (q : SS) (l3 : Int32) (s0 : Int32) (s1 : Int32) : R E (κI E) 67 167 114 [(0, .ref 0), (3, .int l3)] [.int s0, .int s1, .ref 26, .ref 39] q (b_X11_behind_114 q l3 s0 s1) := by
  unfold b_X11_behind_114
  refine r_callV (k := 0) (idx := 276) (y := 114) (as := [.ref 39, .ref 26, .int s1, .int s0]) (rest := []) (L0 := [(0, .ref 39), (1, .ref 26), (2, .int s1), (3, .int s0)]) gX11_behind_96.2.2.2.2.2.2.2.2.2.2.1 rfl rfl rfl rfl rfl (vok_v (ob_39 hE) rfl) rfl (r_dep (by decide) (e_X9_goThrough hE q s1 s0)) (fun r8 => ?_)
  refine r_iload_n (x := l3) gX11_behind_96.2.2.2.2.2.2.2.2.2.2.2.1 rfl ?_
  refine r_sw1 (fun h9 => ?_) (fun h9 => ?_)
  · refine r_jmp (t := 148) dX11_behind_118 rfl (by rw [h9]; rfl) ?_
    refine r_aload_n (x := 0) gX11_behind_148.1 rfl ?_
    refine r_getA gX11_behind_148.2.1 (fa_11_60_0 hE) ?_
    refine r_calli (k := 0) (idx := 280) (y := 119) (as := [.ref 39]) (rest := []) (L0 := [(0, .ref 39)]) gX11_behind_148.2.2.1 rfl rfl rfl rfl rfl (vok_v (ob_39 hE) rfl) rfl (r_dep (by decide) (e_X9_howMany hE r8)) (fun r10 => ?_)
    exact r_ireturn gX11_behind_148.2.2.2.1 rfl rfl
  refine r_sw1 (fun h11 => ?_) (fun h11 => ?_)
  · refine r_jmp (t := 156) dX11_behind_118 rfl (by rw [h11]; rfl) ?_
    refine r_aload_n (x := 0) gX11_behind_148.2.2.2.2.1 rfl ?_
    refine r_getA gX11_behind_148.2.2.2.2.2.1 (fa_11_60_0 hE) ?_
    refine r_calli (k := 0) (idx := 283) (y := 120) (as := [.ref 39]) (rest := []) (L0 := [(0, .ref 39)]) gX11_behind_148.2.2.2.2.2.2.1 rfl rfl rfl rfl rfl (vok_v (ob_39 hE) rfl) rfl (r_dep (by decide) (e_X9_fewest hE r8)) (fun r12 => ?_)
    exact r_ireturn gX11_behind_148.2.2.2.2.2.2.2.1 rfl rfl
  refine r_sw1 (fun h13 => ?_) (fun h13 => ?_)
  · refine r_jmp (t := 164) dX11_behind_118 rfl (by rw [h13]; rfl) ?_
    refine r_aload_n (x := 0) gX11_behind_148.2.2.2.2.2.2.2.2.1 rfl ?_
    refine r_getA gX11_behind_148.2.2.2.2.2.2.2.2.2.1 (fa_11_60_0 hE) ?_
    refine r_calli (k := 0) (idx := 286) (y := 121) (as := [.ref 39]) (rest := []) (L0 := [(0, .ref 39)]) gX11_behind_148.2.2.2.2.2.2.2.2.2.2.1 rfl rfl rfl rfl rfl (vok_v (ob_39 hE) rfl) rfl (r_dep (by decide) (e_X9_fewestBits hE r8)) (fun r14 => ?_)
    exact r_ireturn gX11_behind_148.2.2.2.2.2.2.2.2.2.2.2.1 rfl rfl
  refine r_sw1 (fun h15 => ?_) (fun h15 => ?_)
  · refine r_jmp (t := 172) dX11_behind_118 rfl (by rw [h15]; rfl) ?_
    refine r_aload_n (x := 0) gX11_behind_148.2.2.2.2.2.2.2.2.2.2.2.2.1 rfl ?_
    refine r_getA gX11_behind_148.2.2.2.2.2.2.2.2.2.2.2.2.2.1 (fa_11_60_0 hE) ?_
    refine r_calli (k := 0) (idx := 289) (y := 122) (as := [.ref 39]) (rest := []) (L0 := [(0, .ref 39)]) gX11_behind_148.2.2.2.2.2.2.2.2.2.2.2.2.2.2.1 rfl rfl rfl rfl rfl (vok_v (ob_39 hE) rfl) rfl (r_dep (by decide) (e_X9_certain hE r8)) (fun r16 => ?_)
    exact r_ireturn gX11_behind_148.2.2.2.2.2.2.2.2.2.2.2.2.2.2.2.1 rfl rfl
  refine r_jmp (t := 180) dX11_behind_118 rfl ?_ ?_
  · have h18 := sw_lo (v := l3.toInt) 0
    have h18 := sw_st h18 h9
    have h18 := sw_st h18 h11
    have h18 := sw_st h18 h13
    have h18 := sw_st h18 h15
    exact sw_df h18 (by decide) rfl
  refine r_aload_n (x := 0) gX11_behind_180.1 rfl ?_
  refine r_getA gX11_behind_180.2.1 (fa_11_60_0 hE) ?_
  refine r_calli (k := 0) (idx := 292) (y := 123) (as := [.ref 39]) (rest := []) (L0 := [(0, .ref 39)]) gX11_behind_180.2.2.1 rfl rfl rfl rfl rfl (vok_v (ob_39 hE) rfl) rfl (r_dep (by decide) (e_X9_likeliestBits hE r8)) (fun r17 => ?_)
  exact r_ireturn gX11_behind_180.2.2.2.1 rfl rfl
def f_X11_behind (q : SS) (a1 : Int32) (a2 : Int32) (a3 : Int32) : Option (Int32 × SS) :=
  (f_X7_isShelf q a1).bind fun r1 =>
  if r1 = 0 then
  (some ((-1 : Int32), q))
  else
  ((f_X7_isShelf q a2).bind fun r2 =>
  if r2 = 0 then
  (some ((-1 : Int32), q))
  else
  (if a3 < 0 then
  (some ((-1 : Int32), q))
  else
  (if a3 ≤ (4 : Int32) then
  ((f_X7_isEmpty q a1).bind fun r3 =>
  if r3 = 0 then
  ((f_X7_isEmpty q a2).bind fun r4 =>
  if r4 = 0 then
  ((f_X7_refusalOfBytes q a1).bind fun r5 =>
  if r5 = 0 then
  ((f_X7_refusalOfBytes q a2).bind fun r6 =>
  if r6 = 0 then
  ((f_X2_begin q a1).bind fun r7 =>
  if a3 = (4 : Int32) then
  (b_X11_behind_114 r7 a3 (1 : Int32) a2)
  else
  (b_X11_behind_114 r7 a3 (0 : Int32) a2))
  else
  (some ((-12 : Int32), q)))
  else
  (some ((-12 : Int32), q)))
  else
  (some ((-11 : Int32), q)))
  else
  (some ((-11 : Int32), q)))
  else
  (some ((-1 : Int32), q)))))
theorem e_X11_behind {E : EE} (hE : GE E) (q : SS) (a1 : Int32) (a2 : Int32) (a3 : Int32) : R E (κI E) 67 167 0 [(0, .ref 0), (1, .int a1), (2, .int a2), (3, .int a3)] [] q (f_X11_behind q a1 a2 a3) := by
  unfold f_X11_behind
  refine r_aload_n (x := 0) gX11_behind_0.1 rfl ?_
  refine r_getA gX11_behind_0.2.1 (fa_11_42_0 hE) ?_
  refine r_iload_n (x := a1) gX11_behind_0.2.2.1 rfl ?_
  refine r_calli (k := 0) (idx := 106) (y := 79) (as := [.ref 26, .int a1]) (rest := []) (L0 := [(0, .ref 26), (1, .int a1)]) gX11_behind_0.2.2.2.1 rfl rfl rfl rfl rfl (vok_v (ob_26 hE) rfl) rfl (r_dep (by decide) (e_X7_isShelf hE q a1)) (fun r1 => ?_)
  refine r_if_eq (t := 31) gX11_behind_0.2.2.2.2.1 rfl (fun h27 => ?_) (fun h27 => ?_)
  · refine r_iconst (v := (-1 : Int32)) gX11_behind_0.2.2.2.2.2.2.2.2.2.2.2.2.2.2.2.1 rfl ?_
    exact r_ireturn gX11_behind_32.1 rfl rfl
  · refine r_aload_n (x := 0) gX11_behind_0.2.2.2.2.2.1 rfl ?_
    refine r_getA gX11_behind_0.2.2.2.2.2.2.1 (fa_11_42_0 hE) ?_
    refine r_iload_n (x := a2) gX11_behind_0.2.2.2.2.2.2.2.1 rfl ?_
    refine r_calli (k := 0) (idx := 106) (y := 79) (as := [.ref 26, .int a2]) (rest := []) (L0 := [(0, .ref 26), (1, .int a2)]) gX11_behind_0.2.2.2.2.2.2.2.2.1 rfl rfl rfl rfl rfl (vok_v (ob_26 hE) rfl) rfl (r_dep (by decide) (e_X7_isShelf hE q a2)) (fun r2 => ?_)
    refine r_if_eq (t := 31) gX11_behind_0.2.2.2.2.2.2.2.2.2.1 rfl (fun h26 => ?_) (fun h26 => ?_)
    · refine r_iconst (v := (-1 : Int32)) gX11_behind_0.2.2.2.2.2.2.2.2.2.2.2.2.2.2.2.1 rfl ?_
      exact r_ireturn gX11_behind_32.1 rfl rfl
    · refine r_iload_n (x := a3) gX11_behind_0.2.2.2.2.2.2.2.2.2.2.1 rfl ?_
      refine r_if_lt (t := 31) gX11_behind_0.2.2.2.2.2.2.2.2.2.2.2.1 rfl (fun h25 => ?_) (fun h25 => ?_)
      · refine r_iconst (v := (-1 : Int32)) gX11_behind_0.2.2.2.2.2.2.2.2.2.2.2.2.2.2.2.1 rfl ?_
        exact r_ireturn gX11_behind_32.1 rfl rfl
      · refine r_iload_n (x := a3) gX11_behind_0.2.2.2.2.2.2.2.2.2.2.2.2.1 rfl ?_
        refine r_iconst (v := (4 : Int32)) gX11_behind_0.2.2.2.2.2.2.2.2.2.2.2.2.2.1 rfl ?_
        refine r_icmp_le (t := 33) gX11_behind_0.2.2.2.2.2.2.2.2.2.2.2.2.2.2.1 rfl (fun h24 => ?_) (fun h24 => ?_)
        · refine r_aload_n (x := 0) gX11_behind_32.2.1 rfl ?_
          refine r_getA gX11_behind_32.2.2.1 (fa_11_42_0 hE) ?_
          refine r_iload_n (x := a1) gX11_behind_32.2.2.2.1 rfl ?_
          refine r_calli (k := 0) (idx := 273) (y := 80) (as := [.ref 26, .int a1]) (rest := []) (L0 := [(0, .ref 26), (1, .int a1)]) gX11_behind_32.2.2.2.2.1 rfl rfl rfl rfl rfl (vok_v (ob_26 hE) rfl) rfl (r_dep (by decide) (e_X7_isEmpty hE q a1)) (fun r3 => ?_)
          refine r_if_ne (t := 55) gX11_behind_32.2.2.2.2.2.1 rfl (fun h23 => ?_) (fun h23 => ?_)
          · refine r_aload_n (x := 0) gX11_behind_32.2.2.2.2.2.2.1 rfl ?_
            refine r_getA gX11_behind_32.2.2.2.2.2.2.2.1 (fa_11_42_0 hE) ?_
            refine r_iload_n (x := a2) gX11_behind_32.2.2.2.2.2.2.2.2.1 rfl ?_
            refine r_calli (k := 0) (idx := 273) (y := 80) (as := [.ref 26, .int a2]) (rest := []) (L0 := [(0, .ref 26), (1, .int a2)]) gX11_behind_32.2.2.2.2.2.2.2.2.2.1 rfl rfl rfl rfl rfl (vok_v (ob_26 hE) rfl) rfl (r_dep (by decide) (e_X7_isEmpty hE q a2)) (fun r4 => ?_)
            refine r_if_eq (t := 58) gX11_behind_32.2.2.2.2.2.2.2.2.2.2.1 rfl (fun h22 => ?_) (fun h22 => ?_)
            · refine r_aload_n (x := 0) gX11_behind_32.2.2.2.2.2.2.2.2.2.2.2.2.2.1 rfl ?_
              refine r_getA gX11_behind_32.2.2.2.2.2.2.2.2.2.2.2.2.2.2.1 (fa_11_42_0 hE) ?_
              refine r_iload_n (x := a1) gX11_behind_32.2.2.2.2.2.2.2.2.2.2.2.2.2.2.2.1 rfl ?_
              refine r_calli (k := 0) (idx := 110) (y := 85) (as := [.ref 26, .int a1]) (rest := []) (L0 := [(0, .ref 26), (1, .int a1)]) gX11_behind_63.1 rfl rfl rfl rfl rfl (vok_v (ob_26 hE) rfl) rfl (r_dep (by decide) (e_X7_refusalOfBytes hE q a1)) (fun r5 => ?_)
              refine r_if_ne (t := 80) gX11_behind_63.2.1 rfl (fun h21 => ?_) (fun h21 => ?_)
              · refine r_aload_n (x := 0) gX11_behind_63.2.2.1 rfl ?_
                refine r_getA gX11_behind_63.2.2.2.1 (fa_11_42_0 hE) ?_
                refine r_iload_n (x := a2) gX11_behind_63.2.2.2.2.1 rfl ?_
                refine r_calli (k := 0) (idx := 110) (y := 85) (as := [.ref 26, .int a2]) (rest := []) (L0 := [(0, .ref 26), (1, .int a2)]) gX11_behind_63.2.2.2.2.2.1 rfl rfl rfl rfl rfl (vok_v (ob_26 hE) rfl) rfl (r_dep (by decide) (e_X7_refusalOfBytes hE q a2)) (fun r6 => ?_)
                refine r_if_eq (t := 83) gX11_behind_63.2.2.2.2.2.2.1 rfl (fun h20 => ?_) (fun h20 => ?_)
                · refine r_aload_n (x := 0) gX11_behind_63.2.2.2.2.2.2.2.2.2.1 rfl ?_
                  refine r_getA gX11_behind_63.2.2.2.2.2.2.2.2.2.2.1 (fa_11_51_0 hE) ?_
                  refine r_aload_n (x := 0) gX11_behind_63.2.2.2.2.2.2.2.2.2.2.2.1 rfl ?_
                  refine r_getA gX11_behind_63.2.2.2.2.2.2.2.2.2.2.2.2.1 (fa_11_42_0 hE) ?_
                  refine r_iload_n (x := a1) gX11_behind_63.2.2.2.2.2.2.2.2.2.2.2.2.2.1 rfl ?_
                  refine r_callV (k := 0) (idx := 183) (y := 14) (as := [.ref 37, .ref 26, .int a1]) (rest := []) (L0 := [(0, .ref 37), (1, .ref 26), (2, .int a1)]) gX11_behind_63.2.2.2.2.2.2.2.2.2.2.2.2.2.2.1 rfl rfl rfl rfl rfl (vok_v (ob_37 hE) rfl) rfl (r_dep (by decide) (e_X2_begin hE q a1)) (fun r7 => ?_)
                  refine r_aload_n (x := 0) gX11_behind_63.2.2.2.2.2.2.2.2.2.2.2.2.2.2.2.1 rfl ?_
                  refine r_getA gX11_behind_96.1 (fa_11_60_0 hE) ?_
                  refine r_aload_n (x := 0) gX11_behind_96.2.1 rfl ?_
                  refine r_getA gX11_behind_96.2.2.1 (fa_11_42_0 hE) ?_
                  refine r_iload_n (x := a2) gX11_behind_96.2.2.2.1 rfl ?_
                  refine r_iload_n (x := a3) gX11_behind_96.2.2.2.2.1 rfl ?_
                  refine r_iconst (v := (4 : Int32)) gX11_behind_96.2.2.2.2.2.1 rfl ?_
                  refine r_icmp_ne (t := 113) gX11_behind_96.2.2.2.2.2.2.1 rfl (fun h19 => ?_) (fun h19 => ?_)
                  · refine r_iconst (v := (1 : Int32)) gX11_behind_96.2.2.2.2.2.2.2.1 rfl ?_
                    refine r_goto (t := 114) gX11_behind_96.2.2.2.2.2.2.2.2.1 rfl ?_
                    exact r_sub (L' := [(0, .ref 0), (3, .int a3)]) (sub_c rfl (sub_c rfl sub_n)) (rb_X11_behind_114 hE r7 a3 (1 : Int32) a2)
                  · refine r_iconst (v := (0 : Int32)) gX11_behind_96.2.2.2.2.2.2.2.2.2.1 rfl ?_
                    exact r_sub (L' := [(0, .ref 0), (3, .int a3)]) (sub_c rfl (sub_c rfl sub_n)) (rb_X11_behind_114 hE r7 a3 (0 : Int32) a2)
                · refine r_bipush (v := (-12 : Int32)) gX11_behind_63.2.2.2.2.2.2.2.1 rfl ?_
                  exact r_ireturn gX11_behind_63.2.2.2.2.2.2.2.2.1 rfl rfl
              · refine r_bipush (v := (-12 : Int32)) gX11_behind_63.2.2.2.2.2.2.2.1 rfl ?_
                exact r_ireturn gX11_behind_63.2.2.2.2.2.2.2.2.1 rfl rfl
            · refine r_bipush (v := (-11 : Int32)) gX11_behind_32.2.2.2.2.2.2.2.2.2.2.2.1 rfl ?_
              exact r_ireturn gX11_behind_32.2.2.2.2.2.2.2.2.2.2.2.2.1 rfl rfl
          · refine r_bipush (v := (-11 : Int32)) gX11_behind_32.2.2.2.2.2.2.2.2.2.2.2.1 rfl ?_
            exact r_ireturn gX11_behind_32.2.2.2.2.2.2.2.2.2.2.2.2.1 rfl rfl
        · refine r_iconst (v := (-1 : Int32)) gX11_behind_0.2.2.2.2.2.2.2.2.2.2.2.2.2.2.2.1 rfl ?_
          exact r_ireturn gX11_behind_32.1 rfl rfl

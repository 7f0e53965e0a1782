theorem kc_b_X8_begin_2 (q0 : SS)  (x0 : SS) (x1 : Int32) (h : Fr wQ vQ q0 x0) : KC q0 (b_X8_begin_2 x0 x1) (fun r => r) := by
  unfold b_X8_begin_2
  refine KC_fx2 (fun rec_2 h_rec_2 q l1 h => ?_) FU x0 x1 h
  exact (KC_i (KC_some h) (KC_bp (fun r1 => (KC_ic (fun c0 => (KC_ns (Fr_sI h rfl) (fun q2 h_q2 => (h_rec_2 q2 (l1 + (1 : Int32)) h_q2)))) KC_none))))
theorem kc_f_X8_begin (q0 : SS) (q : SS) (h : Fr wQ vQ q0 q) : KC q0 (f_X8_begin q) (fun r => r) := by
  unfold f_X8_begin
  exact (kc_b_X8_begin_2 q0 q (0 : Int32) h)
theorem kc_f_X11_now (q0 : SS) (q : SS) (h : Fr wQ vQ q0 q) : KC q0 (f_X11_now q) (fun r => r) := by
  unfold f_X11_now
  exact (KC_b (kc_f_X8_begin q0 q h) (fun r1 h_r1 => (KC_some h_r1)))
theorem kc_f_X4_pop (q0 : SS) (q : SS) (h : Fr wQ vQ q0 q) : KC q0 (f_X4_pop q) (fun r => r.2) := by
  unfold f_X4_pop
  exact (KC_i (KC_some h) (KC_i (KC_ns (Fr_sI h rfl) (fun q1 h_q1 => (KC_i (KC_some h_q1) KC_none))) (KC_some h)))
theorem kc_f_X4_push (q0 : SS) (q : SS) (a1 : Int32) (h : Fr wQ vQ q0 q) : KC q0 (f_X4_push q a1) (fun r => r) := by
  unfold f_X4_push
  exact (KC_i (KC_some h) (KC_i (KC_some h) (KC_i (KC_ns (Fr_sI h rfl) (fun q1 h_q1 => (KC_ns (Fr_sI h_q1 rfl) (fun q2 h_q2 => (KC_some h_q2))))) KC_none)))
theorem kc_b_X4_doStep_44 (q0 : SS) (q : SS) (s0 : Int32) (h : Fr wQ vQ q0 q) : KC q0 (b_X4_doStep_44 q s0) (fun r => r) := by
  unfold b_X4_doStep_44
  exact (KC_b (kc_f_X4_push q0 q s0 h) (fun r2 h_r2 => (KC_some h_r2)))
theorem kc_b_X4_doStep_43 (q0 : SS) (q : SS) (h : Fr wQ vQ q0 q) : KC q0 (b_X4_doStep_43 q) (fun r => r) := by
  unfold b_X4_doStep_43
  exact (kc_b_X4_doStep_44 q0 q (0 : Int32) h)
theorem kc_b_X4_doStep_87 (q0 : SS) (q : SS) (s0 : Int32) (h : Fr wQ vQ q0 q) : KC q0 (b_X4_doStep_87 q s0) (fun r => r) := by
  unfold b_X4_doStep_87
  exact (KC_b (kc_f_X4_push q0 q s0 h) (fun r8 h_r8 => (KC_some h_r8)))
theorem kc_f_X4_doStep (q0 : SS) (q : SS) (a1 : Int32) (a2 : Int32) (h : Fr wQ vQ q0 q) : KC q0 (f_X4_doStep q a1 a2) (fun r => r) := by
  unfold f_X4_doStep
  exact (KC_i (KC_b (kc_f_X4_push q0 q a2 h) (fun r1 h_r1 => (KC_some h_r1))) (KC_i (KC_i (kc_b_X4_doStep_43 q0 q h) (KC_i (kc_b_X4_doStep_43 q0 q h) (KC_ic (fun c0 => (kc_b_X4_doStep_44 q0 q (q.1 16 a2.toNatClampNeg) h)) KC_none))) (KC_i (KC_b (kc_f_X4_pop q0 q h) (fun r5 h_r5 => (KC_b (kc_f_X4_push q0 r5.2 (-r5.1) h_r5) (fun r6 h_r6 => (KC_some h_r6))))) (KC_i (KC_b (kc_f_X4_pop q0 q h) (fun r7 h_r7 => (KC_i (kc_b_X4_doStep_87 q0 r7.2 (1 : Int32) h_r7) (kc_b_X4_doStep_87 q0 r7.2 (0 : Int32) h_r7)))) (KC_b (kc_f_X4_pop q0 q h) (fun r10 h_r10 => (KC_b (kc_f_X4_pop q0 r10.2 h_r10) (fun r11 h_r11 => (KC_bp (fun r12 => (KC_b (kc_f_X4_push q0 r11.2 r12 h_r11) (fun r13 h_r13 => (KC_some h_r13)))))))))))))
theorem kc_b_X4_workOut_145 (q0 : SS) (rec_56 : SS → Int32 → Int32 → Option (Int32 × SS)) (h_rec_56 : ∀ (a0 : SS) (a1 : Int32) (a2 : Int32), Fr wQ vQ q0 a0 → KC q0 (rec_56 a0 a1 a2) (fun r => r.2)) (q : SS) (l7 : Int32) (l8 : Int32) (h : Fr wQ vQ q0 q) : KC q0 (b_X4_workOut_145 rec_56 q l7 l8) (fun r => r.2) := by
  unfold b_X4_workOut_145
  exact (h_rec_56 q l7 (l8 + (1 : Int32)) h)
theorem kc_b_X4_workOut_100 (q0 : SS) (rec_56 : SS → Int32 → Int32 → Option (Int32 × SS)) (h_rec_56 : ∀ (a0 : SS) (a1 : Int32) (a2 : Int32), Fr wQ vQ q0 a0 → KC q0 (rec_56 a0 a1 a2) (fun r => r.2)) (q : SS) (l8 : Int32) (s0 : Int32) (h : Fr wQ vQ q0 q) : KC q0 (b_X4_workOut_100 rec_56 q l8 s0) (fun r => r.2) := by
  unfold b_X4_workOut_100
  exact (kc_b_X4_workOut_145 q0 rec_56 h_rec_56 q s0 l8 h)
theorem kc_b_X4_workOut_56 (q0 : SS)  (x0 : SS) (x1 : Int32) (x2 : Int32) (h : Fr wQ vQ q0 x0) : KC q0 (b_X4_workOut_56 x0 x1 x2) (fun r => r.2) := by
  unfold b_X4_workOut_56
  refine KC_fx3 (fun rec_56 h_rec_56 q l7 l8 h => ?_) FU x0 x1 x2 h
  exact (KC_i (KC_some h) (KC_i (KC_some h) (KC_ic (fun c0 => (KC_nv (fun v8 => (KC_i (KC_b (kc_f_X4_pop q0 q h) (fun r9 h_r9 => (KC_i (kc_b_X4_workOut_100 q0 rec_56 h_rec_56 r9.2 l8 (0 : Int32) h_r9) (kc_b_X4_workOut_100 q0 rec_56 h_rec_56 r9.2 l8 (1 : Int32) h_r9)))) (KC_i (KC_b (kc_f_X4_pop q0 q h) (fun r11 h_r11 => (KC_i (kc_b_X4_workOut_145 q0 rec_56 h_rec_56 r11.2 (1 : Int32) l8 h_r11) (KC_some h_r11)))) (KC_ic (fun c1 => (KC_b (kc_f_X4_doStep q0 q v8 (q.1 14 l8.toNatClampNeg) h) (fun r13 h_r13 => (kc_b_X4_workOut_145 q0 rec_56 h_rec_56 r13 l7 l8 h_r13)))) KC_none)))))) KC_none)))
theorem kc_f_X4_workOut (q0 : SS) (q : SS) (a1 : Int32) (a2 : Int32) (a3 : Int32) (a4 : Int32) (a5 : Int32) (a6 : Int32) (h : Fr wQ vQ q0 q) : KC q0 (f_X4_workOut q a1 a2 a3 a4 a5 a6) (fun r => r.2) := by
  unfold f_X4_workOut
  exact (KC_i (KC_ns (Fr_sI h rfl) (fun q1 h_q1 => (KC_i (KC_ns (Fr_sI h_q1 rfl) (fun q2 h_q2 => (KC_i (KC_ns (Fr_sI h_q2 rfl) (fun q3 h_q3 => (KC_i (KC_ns (Fr_sI h_q3 rfl) (fun q4 h_q4 => (KC_i (KC_ns (Fr_sI h_q4 rfl) (fun q5 h_q5 => (KC_i (KC_ns (Fr_sI h_q5 rfl) (fun q6 h_q6 => (KC_ns (Fr_sI h_q6 rfl) (fun q7 h_q7 => (kc_b_X4_workOut_56 q0 q7 (1 : Int32) (0 : Int32) h_q7))))) KC_none))) KC_none))) KC_none))) KC_none))) KC_none))) KC_none)
theorem kc_b_X8_oddsBy_87 (q0 : SS) (q : SS) (l8 : Int32) (h : Fr wQ vQ q0 q) : KC q0 (b_X8_oddsBy_87 q l8) (fun r => r.2) := by
  unfold b_X8_oddsBy_87
  exact (KC_some h)
theorem kc_f_X8_oddsBy (q0 : SS) (q : SS) (a1 : Int32) (a2 : Int32) (a3 : Int32) (a4 : Int32) (a5 : Int32) (h : Fr wQ vQ q0 q) : KC q0 (f_X8_oddsBy q a1 a2 a3 a4 a5) (fun r => r.2) := by
  unfold f_X8_oddsBy
  exact (KC_bp (fun r1 => (KC_i (KC_some h) (KC_i (KC_bp (fun r2 => (KC_bp (fun r3 => (KC_nv (fun v4 => (KC_bp (fun r5 => (KC_i (kc_b_X8_oddsBy_87 q0 q v4 h) (KC_bp (fun r6 => (KC_b (kc_f_X4_workOut q0 q r2 r6 a3 a4 a5 r3 h) (fun r7 h_r7 => (kc_b_X8_oddsBy_87 q0 r7.2 r7.1 h_r7)))))))))))))) (KC_some h)))))
theorem kc_f_X8_oddsOf (q0 : SS) (q : SS) (a1 : Int32) (a2 : Int32) (h : Fr wQ vQ q0 q) : KC q0 (f_X8_oddsOf q a1 a2) (fun r => r.2) := by
  unfold f_X8_oddsOf
  exact (KC_bp (fun r1 => (KC_i (KC_some h) (KC_bp (fun r2 => (KC_bp (fun r3 => (KC_bp (fun r4 => (KC_bp (fun r5 => (KC_b (kc_f_X8_oddsBy q0 q r2 a2 r3 r4 r5 h) (fun r6 h_r6 => (KC_some h_r6))))))))))))))
theorem kc_f_X8_give (q0 : SS) (q : SS) (a1 : Int32) (a2 : Int32) (h : Fr wQ vQ q0 q) : KC q0 (f_X8_give q a1 a2) (fun r => r) := by
  unfold f_X8_give
  exact (KC_bp (fun r1 => (KC_i (KC_some h) (KC_ic (fun c0 => (KC_ns (Fr_sI h rfl) (fun q2 h_q2 => (KC_some h_q2)))) KC_none))))
theorem kc_b_X8_slipDrawn_65 (q0 : SS) (q : SS) (l4 : Int32) (l5 : Int32) (s0 : Int32) (h : Fr wQ vQ q0 q) : KC q0 (b_X8_slipDrawn_65 q l4 l5 s0) (fun r => r.2) := by
  unfold b_X8_slipDrawn_65
  exact (KC_i (KC_i (KC_some h) KC_none) (KC_b (kc_f_X8_give q0 q l4 l5 h) (fun r6 h_r6 => (KC_i (KC_some h_r6) KC_none))))
theorem kc_f_X8_slipDrawn (q0 : SS) (q : SS) (a1 : Int32) (h : Fr wQ vQ q0 q) : KC q0 (f_X8_slipDrawn q a1) (fun r => r.2) := by
  unfold f_X8_slipDrawn
  exact (KC_bp (fun r1 => (KC_bp (fun r2 => (KC_i (KC_some h) (KC_i (KC_i KC_none (KC_nv (fun v3 => (KC_i KC_none (KC_nv (fun v4 => (KC_b (kc_f_X8_oddsOf q0 q v3 v4 h) (fun r5 h_r5 => (KC_i (kc_b_X8_slipDrawn_65 q0 r5.2 v3 v4 (0 : Int32) h_r5) (kc_b_X8_slipDrawn_65 q0 r5.2 v3 v4 (1 : Int32) h_r5)))))))))) (KC_some h)))))))
theorem kc_b_X11_drawn_156 (q0 : SS) (rec_70 : SS → Int32 → Int32 → Int32 → Int32 → Int32 → Int32 → Int32 → Option (Int32 × SS)) (h_rec_70 : ∀ (a0 : SS) (a1 : Int32) (a2 : Int32) (a3 : Int32) (a4 : Int32) (a5 : Int32) (a6 : Int32) (a7 : Int32), Fr wQ vQ q0 a0 → KC q0 (rec_70 a0 a1 a2 a3 a4 a5 a6 a7) (fun r => r.2)) (q : SS) (l3 : Int32) (l4 : Int32) (l5 : Int32) (l6 : Int32) (l7 : Int32) (l9 : Int32) (s0 : Int32) (s1 : Int32) (h : Fr wQ vQ q0 q) : KC q0 (b_X11_drawn_156 rec_70 q l3 l4 l5 l6 l7 l9 s0 s1) (fun r => r.2) := by
  unfold b_X11_drawn_156
  exact (KC_nv (fun v7 => (h_rec_70 q l3 l4 l5 l6 l7 v7 (l9 + (1 : Int32)) h)))
theorem kc_b_X11_drawn_120 (q0 : SS) (rec_70 : SS → Int32 → Int32 → Int32 → Int32 → Int32 → Int32 → Int32 → Option (Int32 × SS)) (h_rec_70 : ∀ (a0 : SS) (a1 : Int32) (a2 : Int32) (a3 : Int32) (a4 : Int32) (a5 : Int32) (a6 : Int32) (a7 : Int32), Fr wQ vQ q0 a0 → KC q0 (rec_70 a0 a1 a2 a3 a4 a5 a6 a7) (fun r => r.2)) (rec_87 : SS → Int32 → Int32 → Int32 → Int32 → Int32 → Int32 → Int32 → Int32 → Option (Int32 × SS)) (h_rec_87 : ∀ (a0 : SS) (a1 : Int32) (a2 : Int32) (a3 : Int32) (a4 : Int32) (a5 : Int32) (a6 : Int32) (a7 : Int32) (a8 : Int32), Fr wQ vQ q0 a0 → KC q0 (rec_87 a0 a1 a2 a3 a4 a5 a6 a7 a8) (fun r => r.2)) (q : SS) (l3 : Int32) (l4 : Int32) (l5 : Int32) (l6 : Int32) (l8 : Int32) (l9 : Int32) (l10 : Int32) (s0 : Int32) (s1 : Int32) (h : Fr wQ vQ q0 q) : KC q0 (b_X11_drawn_120 rec_70 rec_87 q l3 l4 l5 l6 l8 l9 l10 s0 s1) (fun r => r.2) := by
  unfold b_X11_drawn_120
  exact (KC_nv (fun v11 => (h_rec_87 q l3 l4 l5 l6 v11 l8 l9 (l10 + (1 : Int32)) h)))
theorem kc_b_X11_drawn_87 (q0 : SS) (rec_70 : SS → Int32 → Int32 → Int32 → Int32 → Int32 → Int32 → Int32 → Option (Int32 × SS)) (h_rec_70 : ∀ (a0 : SS) (a1 : Int32) (a2 : Int32) (a3 : Int32) (a4 : Int32) (a5 : Int32) (a6 : Int32) (a7 : Int32), Fr wQ vQ q0 a0 → KC q0 (rec_70 a0 a1 a2 a3 a4 a5 a6 a7) (fun r => r.2)) (x0 : SS) (x1 : Int32) (x2 : Int32) (x3 : Int32) (x4 : Int32) (x5 : Int32) (x6 : Int32) (x7 : Int32) (x8 : Int32) (h : Fr wQ vQ q0 x0) : KC q0 (b_X11_drawn_87 rec_70 x0 x1 x2 x3 x4 x5 x6 x7 x8) (fun r => r.2) := by
  unfold b_X11_drawn_87
  refine KC_fx9 (fun rec_87 h_rec_87 q l3 l4 l5 l6 l7 l8 l9 l10 h => ?_) FU x0 x1 x2 x3 x4 x5 x6 x7 x8 h
  exact (KC_i (KC_bp (fun r5 => (KC_bp (fun r6 => (KC_i (kc_b_X11_drawn_156 q0 rec_70 h_rec_70 q l3 l4 l5 r5 l7 l9 (1 : Int32) l8 h) (kc_b_X11_drawn_156 q0 rec_70 h_rec_70 q l3 l4 l5 r5 l7 l9 (0 : Int32) l8 h)))))) (KC_bp (fun r9 => (KC_b (kc_f_X8_slipDrawn q0 q r9 h) (fun r10 h_r10 => (KC_i (kc_b_X11_drawn_120 q0 rec_70 h_rec_70 rec_87 h_rec_87 r10.2 l3 l4 l5 r9 l8 l9 l10 (0 : Int32) l7 h_r10) (kc_b_X11_drawn_120 q0 rec_70 h_rec_70 rec_87 h_rec_87 r10.2 l3 l4 l5 r9 l8 l9 l10 (1 : Int32) l7 h_r10)))))))
theorem kc_b_X11_drawn_70 (q0 : SS)  (x0 : SS) (x1 : Int32) (x2 : Int32) (x3 : Int32) (x4 : Int32) (x5 : Int32) (x6 : Int32) (x7 : Int32) (h : Fr wQ vQ q0 x0) : KC q0 (b_X11_drawn_70 x0 x1 x2 x3 x4 x5 x6 x7) (fun r => r.2) := by
  unfold b_X11_drawn_70
  refine KC_fx8 (fun rec_70 h_rec_70 q l3 l4 l5 l6 l7 l8 l9 h => ?_) FU x0 x1 x2 x3 x4 x5 x6 x7 h
  exact (KC_i (KC_i (KC_some h) (KC_some h)) (KC_b (kc_f_X8_begin q0 q h) (fun r4 h_r4 => (kc_b_X11_drawn_87 q0 rec_70 h_rec_70 r4 l3 l4 l5 l6 l7 l8 l9 (0 : Int32) h_r4))))
theorem kc_b_X11_drawn_58 (q0 : SS) (q : SS) (l1 : Int32) (l3 : Int32) (l4 : Int32) (l5 : Int32) (h : Fr wQ vQ q0 q) : KC q0 (b_X11_drawn_58 q l1 l3 l4 l5) (fun r => r.2) := by
  unfold b_X11_drawn_58
  exact (kc_b_X11_drawn_70 q0 q l3 l4 l5 l1 (0 : Int32) (0 : Int32) (0 : Int32) h)
theorem kc_f_X11_drawn (q0 : SS) (q : SS) (a1 : Int32) (a2 : Int32) (a3 : Int32) (h : Fr wQ vQ q0 q) : KC q0 (f_X11_drawn q a1 a2 a3) (fun r => r.2) := by
  unfold f_X11_drawn
  exact (KC_nv (fun v1 => (KC_nv (fun v2 => (KC_i (KC_some h) (KC_i (KC_some h) (KC_i (KC_some h) (KC_i (KC_i (kc_b_X11_drawn_58 q0 q a1 a3 v1 v2 h) (KC_bp (fun r15 => (KC_i (KC_some h) (kc_b_X11_drawn_58 q0 q a1 a3 v1 v2 h))))) (KC_some h)))))))))
theorem kc_b_X2_begin_26 (q0 : SS)  (x0 : SS) (x1 : Int32) (x2 : Int32) (x3 : Int32) (h : Fr wQ vQ q0 x0) : KC q0 (b_X2_begin_26 x0 x1 x2 x3) (fun r => r) := by
  unfold b_X2_begin_26
  refine KC_fx4 (fun rec_26 h_rec_26 q l2 l3 l4 h => ?_) FU x0 x1 x2 x3 h
  exact (KC_i (KC_some h) (KC_bp (fun r5 => (KC_nv (fun v6 => (KC_bp (fun r7 => (KC_i (KC_some h) (KC_ic (fun c0 => (KC_ns (Fr_sI h rfl) (fun q8 h_q8 => (KC_ns (Fr_sI h_q8 rfl) (fun q9 h_q9 => (h_rec_26 q9 l2 l3 (l4 + (1 : Int32)) h_q9)))))) KC_none)))))))))
theorem kc_f_X2_begin (q0 : SS) (q : SS) (a2 : Int32) (h : Fr wQ vQ q0 q) : KC q0 (f_X2_begin q a2) (fun r => r) := by
  unfold f_X2_begin
  exact (KC_b (kc_f_X8_begin q0 q h) (fun r1 h_r1 => (KC_bp (fun r2 => (KC_nv (fun v3 => (KC_ns (Fr_sI h_r1 rfl) (fun q4 h_q4 => (kc_b_X2_begin_26 q0 q4 a2 v3 (0 : Int32) h_q4)))))))))
theorem kc_b_X9_arrive_100 (q0 : SS) (q : SS) (l1 : Int32) (h : Fr wQ vQ q0 q) : KC q0 (b_X9_arrive_100 q l1) (fun r => r) := by
  unfold b_X9_arrive_100
  exact (KC_ns (Fr_sI h rfl) (fun q7 h_q7 => (KC_ns (Fr_sI h_q7 rfl) (fun q8 h_q8 => (KC_some h_q8)))))
theorem kc_b_X9_arrive_90 (q0 : SS) (q : SS) (l1 : Int32) (l2 : Int64) (h : Fr wQ vQ q0 q) : KC q0 (b_X9_arrive_90 q l1 l2) (fun r => r) := by
  unfold b_X9_arrive_90
  exact (KC_ns (Fr_sL h rfl) (fun q5 h_q5 => (KC_ns (Fr_sI h_q5 rfl) (fun q6 h_q6 => (kc_b_X9_arrive_100 q0 q6 l1 h_q6)))))
theorem kc_b_X9_arrive_58 (q0 : SS) (q : SS) (l1 : Int32) (l2 : Int64) (h : Fr wQ vQ q0 q) : KC q0 (b_X9_arrive_58 q l1 l2) (fun r => r) := by
  unfold b_X9_arrive_58
  exact (KC_i (kc_b_X9_arrive_90 q0 q l1 l2 h) (KC_i (kc_b_X9_arrive_100 q0 q l1 h) (KC_i (KC_i (kc_b_X9_arrive_100 q0 q l1 h) (kc_b_X9_arrive_90 q0 q l1 l2 h)) (kc_b_X9_arrive_100 q0 q l1 h))))
theorem kc_b_X9_arrive_47 (q0 : SS) (q : SS) (l1 : Int32) (l2 : Int64) (l4 : Int32) (h : Fr wQ vQ q0 q) : KC q0 (b_X9_arrive_47 q l1 l2 l4) (fun r => r) := by
  unfold b_X9_arrive_47
  exact (KC_ns (Fr_sI h rfl) (fun q3 h_q3 => (KC_ns (Fr_sI h_q3 rfl) (fun q4 h_q4 => (kc_b_X9_arrive_58 q0 q4 l1 l2 h_q4)))))
theorem kc_f_X9_arrive (q0 : SS) (q : SS) (a1 : Int32) (a2 : Int64) (h : Fr wQ vQ q0 q) : KC q0 (f_X9_arrive q a1 a2) (fun r => r) := by
  unfold f_X9_arrive
  exact (KC_bp (fun r1 => (KC_i (KC_some h) (KC_bp (fun r2 => (KC_i (kc_b_X9_arrive_47 q0 q a1 a2 r2 h) (KC_i (kc_b_X9_arrive_47 q0 q a1 a2 r2 h) (KC_i (KC_i (kc_b_X9_arrive_58 q0 q a1 a2 h) (kc_b_X9_arrive_47 q0 q a1 a2 r2 h)) (kc_b_X9_arrive_58 q0 q a1 a2 h)))))))))
theorem kc_b_X9_oddsAt_99 (q0 : SS) (q : SS) (l6 : Int32) (h : Fr wQ vQ q0 q) : KC q0 (b_X9_oddsAt_99 q l6) (fun r => r.2) := by
  unfold b_X9_oddsAt_99
  exact (KC_ic (fun c0 => (KC_some h)) KC_none)
theorem kc_f_X9_oddsAt (q0 : SS) (q : SS) (a1 : Int32) (a2 : Int32) (a3 : Int32) (h : Fr wQ vQ q0 q) : KC q0 (f_X9_oddsAt q a1 a2 a3) (fun r => r.2) := by
  unfold f_X9_oddsAt
  exact (KC_bp (fun r1 => (KC_bp (fun r2 => (KC_nv (fun v3 => (KC_i (KC_some h) (KC_i (KC_ic (fun c0 => (KC_i (KC_bp (fun r4 => (KC_bp (fun r5 => (KC_b (kc_f_X8_oddsBy q0 q r1 a3 r2 r4 r5 h) (fun r6 h_r6 => (KC_ic (fun c1 => (KC_ns (Fr_sI h_r6 rfl) (fun q7 h_q7 => (kc_b_X9_oddsAt_99 q0 q7 v3 h_q7)))) KC_none))))))) (kc_b_X9_oddsAt_99 q0 q v3 h))) KC_none) (KC_some h)))))))))
def KGc_X9_spread (q0 : SS) (r : GT_X9_spread) : Prop := (∀ (a0 : SS) (a1 : Int32) (a2 : Int32) (a3 : Int64), Fr wQ vQ q0 a0 → KC q0 (r a0 a1 a2 a3) (fun r => r))
theorem kc_b_X9_spread_90 (q0 : SS) (r : GT_X9_spread) (hr : KGc_X9_spread q0 r) (q : SS) (l1 : Int32) (l2 : Int32) (l3 : Int64) (l6 : Int32) (l7 : Int32) (s0 : Int32) (h : Fr wQ vQ q0 q) : KC q0 (b_X9_spread_90 r q l1 l2 l3 l6 l7 s0) (fun r => r) := by
  unfold b_X9_spread_90
  exact (KC_bp (fun r6 => (KC_b (hr q (l1 + (1 : Int32)) l2 ((((12 : Int32) - s0).toInt64) * l3) h) (fun r7 h_r7 => (KC_b (kc_f_X8_give q0 r7 l6 l7 h_r7) (fun r8 h_r8 => (KC_b (hr r8 (l1 + (1 : Int32)) (l2 ||| (jshl (1 : Int32) l1)) ((s0.toInt64) * l3) h_r8) (fun r9 h_r9 => (KC_b (kc_f_X8_give q0 r9 l6 r6 h_r9) (fun r10 h_r10 => (KC_some h_r10)))))))))))
theorem kc_fb_X9_spread (q0 : SS) (r : GT_X9_spread) (hr : KGc_X9_spread q0 r) (q : SS) (a1 : Int32) (a2 : Int32) (a3 : Int64) (h : Fr wQ vQ q0 q) : KC q0 (fb_X9_spread r q a1 a2 a3) (fun r => r) := by
  unfold fb_X9_spread
  exact (KC_bp (fun r1 => (KC_i (KC_bp (fun r2 => (KC_bp (fun r3 => (KC_bp (fun r4 => (KC_i (KC_b (hr q (a1 + (1 : Int32)) a2 ((12 : Int64) * a3) h) (fun r5 h_r5 => (KC_some h_r5))) (KC_i (kc_b_X9_spread_90 q0 r hr q a1 a2 a3 r2 r3 (0 : Int32) h) (KC_b (kc_f_X9_oddsAt q0 q a1 r2 r3 h) (fun r11 h_r11 => (kc_b_X9_spread_90 q0 r hr r11.2 a1 a2 a3 r2 r3 r11.1 h_r11))))))))))) (KC_b (kc_f_X9_arrive q0 q a2 a3 h) (fun r14 h_r14 => (KC_some h_r14))))))
theorem kgc_X9_spread (q0 : SS) : ∀ n, KGc_X9_spread q0 (g_X9_spread n)
  | 0 => (fun _ _ _ _ _ => KC_none)
  | n + 1 => (fun a0 a1 a2 a3 h => kc_fb_X9_spread q0 (g_X9_spread n) (kgc_X9_spread q0 n) a0 a1 a2 a3 h)
theorem kc_f_X9_spread (q0 : SS) (x0 : SS) (x1 : Int32) (x2 : Int32) (x3 : Int64) (h : Fr wQ vQ q0 x0) : KC q0 (f_X9_spread x0 x1 x2 x3) (fun r => r) := kgc_X9_spread q0 60 x0 x1 x2 x3 h
theorem kc_b_X9_goThrough_76 (q0 : SS) (q : SS) (l3 : Int32) (h : Fr wQ vQ q0 q) : KC q0 (b_X9_goThrough_76 q l3) (fun r => r) := by
  unfold b_X9_goThrough_76
  exact (KC_i (KC_ns (Fr_sI h rfl) (fun q1 h_q1 => (KC_ns (Fr_sI h_q1 rfl) (fun q2 h_q2 => (KC_ns (Fr_sI h_q2 rfl) (fun q3 h_q3 => (KC_ns (Fr_sI h_q3 rfl) (fun q4 h_q4 => (KC_ns (Fr_sI h_q4 rfl) (fun q5 h_q5 => (KC_ns (Fr_sL h_q5 rfl) (fun q6 h_q6 => (KC_ns (Fr_sI h_q6 rfl) (fun q7 h_q7 => (KC_b (kc_f_X9_spread q0 q7 (0 : Int32) (0 : Int32) (1 : Int64) h_q7) (fun r8 h_r8 => (KC_some h_r8))))))))))))))))) KC_none)
theorem kc_b_X9_goThrough_48 (q0 : SS)  (x0 : SS) (x1 : Int32) (x2 : Int32) (h : Fr wQ vQ q0 x0) : KC q0 (b_X9_goThrough_48 x0 x1 x2) (fun r => r) := by
  unfold b_X9_goThrough_48
  refine KC_fx3 (fun rec_48 h_rec_48 q l3 l4 h => ?_) FU x0 x1 x2 h
  exact (KC_i (kc_b_X9_goThrough_76 q0 q l3 h) (KC_i (kc_b_X9_goThrough_76 q0 q l3 h) (KC_ic (fun c0 => (KC_ns (Fr_sI h rfl) (fun q9 h_q9 => (h_rec_48 q9 l3 (l4 + (1 : Int32)) h_q9)))) KC_none)))
theorem kc_b_X9_goThrough_38 (q0 : SS) (rec_3 : SS → Int32 → Int32 → Int32 → Option SS) (h_rec_3 : ∀ (a0 : SS) (a1 : Int32) (a2 : Int32) (a3 : Int32), Fr wQ vQ q0 a0 → KC q0 (rec_3 a0 a1 a2 a3) (fun r => r)) (q : SS) (l2 : Int32) (l3 : Int32) (l4 : Int32) (s0 : Int32) (s1 : Int32) (h : Fr wQ vQ q0 q) : KC q0 (b_X9_goThrough_38 rec_3 q l2 l3 l4 s0 s1) (fun r => r) := by
  unfold b_X9_goThrough_38
  exact (KC_ic (fun c0 => (KC_ns (Fr_sI h rfl) (fun q13 h_q13 => (h_rec_3 q13 l2 l3 (l4 + (1 : Int32)) h_q13)))) KC_none)
theorem kc_b_X9_goThrough_3 (q0 : SS)  (x0 : SS) (x1 : Int32) (x2 : Int32) (x3 : Int32) (h : Fr wQ vQ q0 x0) : KC q0 (b_X9_goThrough_3 x0 x1 x2 x3) (fun r => r) := by
  unfold b_X9_goThrough_3
  refine KC_fx4 (fun rec_3 h_rec_3 q l2 l3 l4 h => ?_) FU x0 x1 x2 x3 h
  exact (KC_i (kc_b_X9_goThrough_48 q0 q l3 (0 : Int32) h) (KC_bp (fun r12 => (KC_i (kc_b_X9_goThrough_38 q0 rec_3 h_rec_3 q l2 l3 l4 (-1 : Int32) l4 h) (KC_bp (fun r14 => (kc_b_X9_goThrough_38 q0 rec_3 h_rec_3 q l2 l3 l4 (r14.toInt32) l4 h)))))))
theorem kc_f_X9_goThrough (q0 : SS) (q : SS) (a2 : Int32) (a3 : Int32) (h : Fr wQ vQ q0 q) : KC q0 (f_X9_goThrough q a2 a3) (fun r => r) := by
  unfold f_X9_goThrough
  exact (kc_b_X9_goThrough_3 q0 q a2 a3 (0 : Int32) h)
theorem kc_b_X11_behind_114 (q0 : SS) (q : SS) (l3 : Int32) (s0 : Int32) (s1 : Int32) (h : Fr wQ vQ q0 q) : KC q0 (b_X11_behind_114 q l3 s0 s1) (fun r => r.2) := by
  unfold b_X11_behind_114
  exact (KC_b (kc_f_X9_goThrough q0 q s1 s0 h) (fun r8 h_r8 => (KC_sw (KC_bp (fun r10 => (KC_some h_r8))) (KC_sw (KC_bp (fun r12 => (KC_some h_r8))) (KC_sw (KC_bp (fun r14 => (KC_some h_r8))) (KC_sw (KC_bp (fun r16 => (KC_some h_r8))) (KC_s0 (KC_bp (fun r17 => (KC_some h_r8))))))))))
theorem kc_f_X11_behind (q0 : SS) (q : SS) (a1 : Int32) (a2 : Int32) (a3 : Int32) (h : Fr wQ vQ q0 q) : KC q0 (f_X11_behind q a1 a2 a3) (fun r => r.2) := by
  unfold f_X11_behind
  exact (KC_bp (fun r1 => (KC_i (KC_some h) (KC_bp (fun r2 => (KC_i (KC_some h) (KC_i (KC_some h) (KC_i (KC_bp (fun r3 => (KC_i (KC_bp (fun r4 => (KC_i (KC_bp (fun r5 => (KC_i (KC_bp (fun r6 => (KC_i (KC_b (kc_f_X2_begin q0 q a1 h) (fun r7 h_r7 => (KC_i (kc_b_X11_behind_114 q0 r7 a3 (1 : Int32) a2 h_r7) (kc_b_X11_behind_114 q0 r7 a3 (0 : Int32) a2 h_r7)))) (KC_some h)))) (KC_some h)))) (KC_some h)))) (KC_some h)))) (KC_some h)))))))))
theorem kc_b_X11_hire_146 (q0 : SS) (q : SS) (l3 : Int32) (l4 : Int32) (l5 : Int32) (l6 : Int32) (h : Fr wQ vQ q0 q) : KC q0 (b_X11_hire_146 q l3 l4 l5 l6) (fun r => r.2) := by
  unfold b_X11_hire_146
  exact (KC_i (KC_i (KC_some h) (KC_some h)) (KC_some h))
theorem kc_b_X11_hire_140 (q0 : SS) (rec_60 : SS → Int32 → Int32 → Int32 → Int32 → Int32 → Int32 → Option (Int32 × SS)) (h_rec_60 : ∀ (a0 : SS) (a1 : Int32) (a2 : Int32) (a3 : Int32) (a4 : Int32) (a5 : Int32) (a6 : Int32), Fr wQ vQ q0 a0 → KC q0 (rec_60 a0 a1 a2 a3 a4 a5 a6) (fun r => r.2)) (q : SS) (l1 : Int32) (l3 : Int32) (l4 : Int32) (l5 : Int32) (l6 : Int32) (l7 : Int32) (h : Fr wQ vQ q0 q) : KC q0 (b_X11_hire_140 rec_60 q l1 l3 l4 l5 l6 l7) (fun r => r.2) := by
  unfold b_X11_hire_140
  exact (h_rec_60 q l1 l3 l4 l5 l6 (l7 + (1 : Int32)) h)
theorem kc_b_X11_hire_134 (q0 : SS) (rec_60 : SS → Int32 → Int32 → Int32 → Int32 → Int32 → Int32 → Option (Int32 × SS)) (h_rec_60 : ∀ (a0 : SS) (a1 : Int32) (a2 : Int32) (a3 : Int32) (a4 : Int32) (a5 : Int32) (a6 : Int32), Fr wQ vQ q0 a0 → KC q0 (rec_60 a0 a1 a2 a3 a4 a5 a6) (fun r => r.2)) (rec_75 : SS → Int32 → Int32 → Int32 → Int32 → Int32 → Int32 → Int32 → Option (Int32 × SS)) (h_rec_75 : ∀ (a0 : SS) (a1 : Int32) (a2 : Int32) (a3 : Int32) (a4 : Int32) (a5 : Int32) (a6 : Int32) (a7 : Int32), Fr wQ vQ q0 a0 → KC q0 (rec_75 a0 a1 a2 a3 a4 a5 a6 a7) (fun r => r.2)) (q : SS) (l1 : Int32) (l3 : Int32) (l4 : Int32) (l5 : Int32) (l6 : Int32) (l7 : Int32) (l8 : Int32) (h : Fr wQ vQ q0 q) : KC q0 (b_X11_hire_134 rec_60 rec_75 q l1 l3 l4 l5 l6 l7 l8) (fun r => r.2) := by
  unfold b_X11_hire_134
  exact (h_rec_75 q l1 l3 l4 l5 l6 l7 (l8 + (1 : Int32)) h)
theorem kc_b_X11_hire_75 (q0 : SS) (rec_60 : SS → Int32 → Int32 → Int32 → Int32 → Int32 → Int32 → Option (Int32 × SS)) (h_rec_60 : ∀ (a0 : SS) (a1 : Int32) (a2 : Int32) (a3 : Int32) (a4 : Int32) (a5 : Int32) (a6 : Int32), Fr wQ vQ q0 a0 → KC q0 (rec_60 a0 a1 a2 a3 a4 a5 a6) (fun r => r.2)) (x0 : SS) (x1 : Int32) (x2 : Int32) (x3 : Int32) (x4 : Int32) (x5 : Int32) (x6 : Int32) (x7 : Int32) (h : Fr wQ vQ q0 x0) : KC q0 (b_X11_hire_75 rec_60 x0 x1 x2 x3 x4 x5 x6 x7) (fun r => r.2) := by
  unfold b_X11_hire_75
  refine KC_fx8 (fun rec_75 h_rec_75 q l1 l3 l4 l5 l6 l7 l8 h => ?_) FU x0 x1 x2 x3 x4 x5 x6 x7 h
  exact (KC_bp (fun r6 => (KC_i (kc_b_X11_hire_140 q0 rec_60 h_rec_60 q l1 l3 l4 l5 l6 l7 h) (KC_i (kc_b_X11_hire_140 q0 rec_60 h_rec_60 q l1 l3 l4 l5 l6 l7 h) (KC_bp (fun r7 => (KC_nv (fun v8 => (KC_i (kc_b_X11_hire_134 q0 rec_60 h_rec_60 rec_75 h_rec_75 q l1 l3 l4 l5 l6 l7 l8 h) (KC_nv (fun v9 => (KC_nv (fun v10 => (kc_b_X11_hire_134 q0 rec_60 h_rec_60 rec_75 h_rec_75 q l1 l3 v9 v10 l8 l7 l8 h))))))))))))))
theorem kc_b_X11_hire_60 (q0 : SS)  (x0 : SS) (x1 : Int32) (x2 : Int32) (x3 : Int32) (x4 : Int32) (x5 : Int32) (x6 : Int32) (h : Fr wQ vQ q0 x0) : KC q0 (b_X11_hire_60 x0 x1 x2 x3 x4 x5 x6) (fun r => r.2) := by
  unfold b_X11_hire_60
  refine KC_fx7 (fun rec_60 h_rec_60 q l1 l3 l4 l5 l6 l7 h => ?_) FU x0 x1 x2 x3 x4 x5 x6 h
  exact (KC_i (kc_b_X11_hire_146 q0 q l3 l4 l5 l6 h) (KC_i (kc_b_X11_hire_146 q0 q l3 l4 l5 l6 h) (kc_b_X11_hire_75 q0 rec_60 h_rec_60 q l1 l3 l4 l5 l6 l7 (0 : Int32) h)))
theorem kc_f_X11_hire (q0 : SS) (q : SS) (a1 : Int32) (a2 : Int32) (a3 : Int32) (h : Fr wQ vQ q0 q) : KC q0 (f_X11_hire q a1 a2 a3) (fun r => r.2) := by
  unfold f_X11_hire
  exact (KC_bp (fun r1 => (KC_i (KC_some h) (KC_i (KC_some h) (KC_i (KC_some h) (KC_i (KC_some h) (KC_i (KC_b (kc_f_X11_now q0 q h) (fun r2 h_r2 => (KC_bp (fun r3 => (KC_i (kc_b_X11_hire_60 q0 r2 a1 a3 a2 (0 : Int32) (-2 : Int32) (0 : Int32) h_r2) (KC_some h_r2)))))) (KC_some h))))))))
theorem kc_b_X6_sortTickets_101 (q0 : SS) (rec_38 : SS → Int32 → Option SS) (h_rec_38 : ∀ (a0 : SS) (a1 : Int32), Fr wQ vQ q0 a0 → KC q0 (rec_38 a0 a1) (fun r => r)) (q : SS) (l1 : Int32) (h : Fr wQ vQ q0 q) : KC q0 (b_X6_sortTickets_101 rec_38 q l1) (fun r => r) := by
  unfold b_X6_sortTickets_101
  exact (h_rec_38 q (l1 + (-1 : Int32)) h)
theorem kc_b_X6_sortTickets_38 (q0 : SS)  (x0 : SS) (x1 : Int32) (h : Fr wQ vQ q0 x0) : KC q0 (b_X6_sortTickets_38 x0 x1) (fun r => r) := by
  unfold b_X6_sortTickets_38
  refine KC_fx2 (fun rec_38 h_rec_38 q l1 h => ?_) FU x0 x1 h
  exact (KC_i (KC_some h) (KC_bp (fun r3 => (KC_i (kc_b_X6_sortTickets_101 q0 rec_38 h_rec_38 q l1 h) (KC_bp (fun r4 => (KC_i (kc_b_X6_sortTickets_101 q0 rec_38 h_rec_38 q l1 h) (KC_bp (fun r5 => (KC_i (KC_ic (fun c0 => (KC_ic (fun c1 => (KC_ns (Fr_sI h rfl) (fun q6 h_q6 => (KC_ic (fun c2 => (KC_ns (Fr_sI h_q6 rfl) (fun q7 h_q7 => (kc_b_X6_sortTickets_101 q0 rec_38 h_rec_38 q7 l1 h_q7)))) KC_none)))) KC_none)) KC_none) (kc_b_X6_sortTickets_101 q0 rec_38 h_rec_38 q l1 h)))))))))))
theorem kc_b_X6_sortTickets_2 (q0 : SS)  (x0 : SS) (x1 : Int32) (h : Fr wQ vQ q0 x0) : KC q0 (b_X6_sortTickets_2 x0 x1) (fun r => r) := by
  unfold b_X6_sortTickets_2
  refine KC_fx2 (fun rec_2 h_rec_2 q l1 h => ?_) FU x0 x1 h
  exact (KC_i (KC_bp (fun r1 => (KC_nv (fun v2 => (kc_b_X6_sortTickets_38 q0 q v2 h))))) (KC_ic (fun c0 => (KC_ns (Fr_sI h rfl) (fun q12 h_q12 => (KC_ic (fun c1 => (KC_ns (Fr_sI h_q12 rfl) (fun q13 h_q13 => (h_rec_2 q13 (l1 + (1 : Int32)) h_q13)))) KC_none)))) KC_none))
theorem kc_f_X6_sortTickets (q0 : SS) (q : SS) (h : Fr wQ vQ q0 q) : KC q0 (f_X6_sortTickets q) (fun r => r) := by
  unfold f_X6_sortTickets
  exact (kc_b_X6_sortTickets_2 q0 q (0 : Int32) h)
theorem kc_b_X6_workOutHour_114 (q0 : SS) (rec_17 : SS → Int32 → Int32 → Int32 → Option SS) (h_rec_17 : ∀ (a0 : SS) (a1 : Int32) (a2 : Int32) (a3 : Int32), Fr wQ vQ q0 a0 → KC q0 (rec_17 a0 a1 a2 a3) (fun r => r)) (rec_41 : SS → Int32 → Int32 → Int32 → Int32 → Int32 → Option SS) (h_rec_41 : ∀ (a0 : SS) (a1 : Int32) (a2 : Int32) (a3 : Int32) (a4 : Int32) (a5 : Int32), Fr wQ vQ q0 a0 → KC q0 (rec_41 a0 a1 a2 a3 a4 a5) (fun r => r)) (rec_50 : SS → Int32 → Int32 → Int32 → Int32 → Int32 → Int32 → Option SS) (h_rec_50 : ∀ (a0 : SS) (a1 : Int32) (a2 : Int32) (a3 : Int32) (a4 : Int32) (a5 : Int32) (a6 : Int32), Fr wQ vQ q0 a0 → KC q0 (rec_50 a0 a1 a2 a3 a4 a5 a6) (fun r => r)) (q : SS) (l1 : Int32) (l2 : Int32) (l3 : Int32) (l4 : Int32) (l5 : Int32) (l6 : Int32) (h : Fr wQ vQ q0 q) : KC q0 (b_X6_workOutHour_114 rec_17 rec_41 rec_50 q l1 l2 l3 l4 l5 l6) (fun r => r) := by
  unfold b_X6_workOutHour_114
  exact (h_rec_50 q l1 l2 l3 l4 l5 (l6 + (1 : Int32)) h)
theorem kc_b_X6_workOutHour_50 (q0 : SS) (rec_17 : SS → Int32 → Int32 → Int32 → Option SS) (h_rec_17 : ∀ (a0 : SS) (a1 : Int32) (a2 : Int32) (a3 : Int32), Fr wQ vQ q0 a0 → KC q0 (rec_17 a0 a1 a2 a3) (fun r => r)) (rec_41 : SS → Int32 → Int32 → Int32 → Int32 → Int32 → Option SS) (h_rec_41 : ∀ (a0 : SS) (a1 : Int32) (a2 : Int32) (a3 : Int32) (a4 : Int32) (a5 : Int32), Fr wQ vQ q0 a0 → KC q0 (rec_41 a0 a1 a2 a3 a4 a5) (fun r => r)) (x0 : SS) (x1 : Int32) (x2 : Int32) (x3 : Int32) (x4 : Int32) (x5 : Int32) (x6 : Int32) (h : Fr wQ vQ q0 x0) : KC q0 (b_X6_workOutHour_50 rec_17 rec_41 x0 x1 x2 x3 x4 x5 x6) (fun r => r) := by
  unfold b_X6_workOutHour_50
  refine KC_fx7 (fun rec_50 h_rec_50 q l1 l2 l3 l4 l5 l6 h => ?_) FU x0 x1 x2 x3 x4 x5 x6 h
  exact (KC_i (h_rec_41 q l1 l2 l3 l4 (l5 + (1 : Int32)) h) (KC_bp (fun r5 => (KC_i (kc_b_X6_workOutHour_114 q0 rec_17 h_rec_17 rec_41 h_rec_41 rec_50 h_rec_50 q l1 l2 l3 l4 l5 l6 h) (KC_ic (fun c0 => (KC_i (kc_b_X6_workOutHour_114 q0 rec_17 h_rec_17 rec_41 h_rec_41 rec_50 h_rec_50 q l1 l2 l3 l4 l5 l6 h) (KC_b (kc_f_X8_oddsBy q0 q (q.1 42 6) l3 (l4 + l5) l6 l2 h) (fun r6 h_r6 => (KC_ic (fun c1 => (KC_ns (Fr_sI h_r6 rfl) (fun q7 h_q7 => (kc_b_X6_workOutHour_114 q0 rec_17 h_rec_17 rec_41 h_rec_41 rec_50 h_rec_50 q7 l1 l2 l3 l4 l5 l6 h_q7)))) KC_none))))) KC_none)))))
theorem kc_b_X6_workOutHour_41 (q0 : SS) (rec_17 : SS → Int32 → Int32 → Int32 → Option SS) (h_rec_17 : ∀ (a0 : SS) (a1 : Int32) (a2 : Int32) (a3 : Int32), Fr wQ vQ q0 a0 → KC q0 (rec_17 a0 a1 a2 a3) (fun r => r)) (x0 : SS) (x1 : Int32) (x2 : Int32) (x3 : Int32) (x4 : Int32) (x5 : Int32) (h : Fr wQ vQ q0 x0) : KC q0 (b_X6_workOutHour_41 rec_17 x0 x1 x2 x3 x4 x5) (fun r => r) := by
  unfold b_X6_workOutHour_41
  refine KC_fx6 (fun rec_41 h_rec_41 q l1 l2 l3 l4 l5 h => ?_) FU x0 x1 x2 x3 x4 x5 h
  exact (KC_i (h_rec_17 q l1 l2 (l3 + (1 : Int32)) h) (kc_b_X6_workOutHour_50 q0 rec_17 h_rec_17 rec_41 h_rec_41 q l1 l2 l3 l4 l5 (0 : Int32) h))
theorem kc_b_X6_workOutHour_17 (q0 : SS)  (x0 : SS) (x1 : Int32) (x2 : Int32) (x3 : Int32) (h : Fr wQ vQ q0 x0) : KC q0 (b_X6_workOutHour_17 x0 x1 x2 x3) (fun r => r) := by
  unfold b_X6_workOutHour_17
  refine KC_fx4 (fun rec_17 h_rec_17 q l1 l2 l3 h => ?_) FU x0 x1 x2 x3 h
  exact (KC_bp (fun r3 => (KC_i (KC_some h) (KC_bp (fun r4 => (kc_b_X6_workOutHour_41 q0 rec_17 h_rec_17 q l1 l2 l3 r4 (0 : Int32) h))))))
theorem kc_f_X6_workOutHour (q0 : SS) (q : SS) (a1 : Int32) (h : Fr wQ vQ q0 q) : KC q0 (f_X6_workOutHour q a1) (fun r => r) := by
  unfold f_X6_workOutHour
  exact (KC_bp (fun r1 => (KC_nv (fun v2 => (kc_b_X6_workOutHour_17 q0 q a1 v2 (0 : Int32) h)))))
theorem kc_b_X6_begin_72 (q0 : SS)  (x0 : SS) (x1 : Int32) (h : Fr wQ vQ q0 x0) : KC q0 (b_X6_begin_72 x0 x1) (fun r => r) := by
  unfold b_X6_begin_72
  refine KC_fx2 (fun rec_72 h_rec_72 q l3 h => ?_) FU x0 x1 h
  exact (KC_i (KC_some h) (KC_b (kc_f_X6_workOutHour q0 q l3 h) (fun r9 h_r9 => (h_rec_72 r9 (l3 + (1 : Int32)) h_r9))))
theorem kc_b_X6_begin_47 (q0 : SS)  (x0 : SS) (x1 : Int32) (h : Fr wQ vQ q0 x0) : KC q0 (b_X6_begin_47 x0 x1) (fun r => r) := by
  unfold b_X6_begin_47
  refine KC_fx2 (fun rec_47 h_rec_47 q l3 h => ?_) FU x0 x1 h
  exact (KC_i (KC_b (kc_f_X6_sortTickets q0 q h) (fun r8 h_r8 => (kc_b_X6_begin_72 q0 r8 (0 : Int32) h_r8))) (KC_ic (fun c0 => (KC_ns (Fr_sI h rfl) (fun q11 h_q11 => (h_rec_47 q11 (l3 + (1 : Int32)) h_q11)))) KC_none))
theorem kc_f_X6_begin (q0 : SS) (q : SS) (a1 : Int32) (a2 : Int32) (h : Fr wQ vQ q0 q) : KC q0 (f_X6_begin q a1 a2) (fun r => r) := by
  unfold f_X6_begin
  exact (KC_b (kc_f_X8_begin q0 q h) (fun r1 h_r1 => (KC_ns (Fr_sI h_r1 rfl) (fun q2 h_q2 => (KC_ns (Fr_sI h_q2 rfl) (fun q3 h_q3 => (KC_bp (fun r4 => (KC_ns (Fr_sI h_q3 rfl) (fun q5 h_q5 => (KC_bp (fun r6 => (KC_ns (Fr_sI h_q5 rfl) (fun q7 h_q7 => (kc_b_X6_begin_47 q0 q7 (0 : Int32) h_q7)))))))))))))))
def KGc_X6_best (q0 : SS) (r : GT_X6_best) : Prop := (∀ (a0 : SS) (a1 : Int32) (a2 : Int32), Fr wQ vQ q0 a0 → KC q0 (r.1 a0 a1 a2) (fun r => r.2)) ∧ (∀ (a0 : SS) (a1 : Int32) (a2 : Int32) (a3 : Int32) (a4 : Int32) (a5 : Int32), Fr wQ vQ q0 a0 → KC q0 (r.2 a0 a1 a2 a3 a4 a5) (fun r => r.2))
theorem kc_b_X6_best_13 (q0 : SS) (r : GT_X6_best) (hr : KGc_X6_best q0 r) (q : SS) (l2 : Int32) (h : Fr wQ vQ q0 q) : KC q0 (b_X6_best_13 r q l2) (fun r => r.2) := by
  unfold b_X6_best_13
  exact (KC_some h)
theorem kc_b_X6_best_47 (q0 : SS) (r : GT_X6_best) (hr : KGc_X6_best q0 r) (rec_38 : SS → Int32 → Int32 → Int32 → Int32 → Int32 → Option (Int32 × SS)) (h_rec_38 : ∀ (a0 : SS) (a1 : Int32) (a2 : Int32) (a3 : Int32) (a4 : Int32) (a5 : Int32), Fr wQ vQ q0 a0 → KC q0 (rec_38 a0 a1 a2 a3 a4 a5) (fun r => r.2)) (x0 : SS) (x1 : Int32) (x2 : Int32) (x3 : Int32) (x4 : Int32) (x5 : Int32) (x6 : Int32) (h : Fr wQ vQ q0 x0) : KC q0 (b_X6_best_47 r rec_38 x0 x1 x2 x3 x4 x5 x6) (fun r => r.2) := by
  unfold b_X6_best_47
  refine KC_fx7 (fun rec_47 h_rec_47 q l1 l2 l3 l4 l5 l6 h => ?_) FU x0 x1 x2 x3 x4 x5 x6 h
  exact (KC_bp (fun r3 => (KC_i (h_rec_38 q l1 l2 l3 l4 (l5 + (1 : Int32)) h) (KC_b (hr.2 q l1 l2 l5 l6 l3 h) (fun r4 h_r4 => (KC_nv (fun v5 => (h_rec_47 r4.2 l1 l2 l3 v5 l5 (l6 + (1 : Int32)) h_r4))))))))
theorem kc_b_X6_best_38 (q0 : SS) (r : GT_X6_best) (hr : KGc_X6_best q0 r) (x0 : SS) (x1 : Int32) (x2 : Int32) (x3 : Int32) (x4 : Int32) (x5 : Int32) (h : Fr wQ vQ q0 x0) : KC q0 (b_X6_best_38 r x0 x1 x2 x3 x4 x5) (fun r => r.2) := by
  unfold b_X6_best_38
  refine KC_fx6 (fun rec_38 h_rec_38 q l1 l2 l3 l4 l5 h => ?_) FU x0 x1 x2 x3 x4 x5 h
  exact (KC_i (KC_some h) (kc_b_X6_best_47 q0 r hr rec_38 h_rec_38 q l1 l2 l3 l4 l5 (0 : Int32) h))
theorem kc_fb_X6_best (q0 : SS) (r : GT_X6_best) (hr : KGc_X6_best q0 r) (q : SS) (a1 : Int32) (a2 : Int32) (h : Fr wQ vQ q0 q) : KC q0 (fb_X6_best r q a1 a2) (fun r => r.2) := by
  unfold fb_X6_best
  exact (KC_i (kc_b_X6_best_13 q0 r hr q a2 h) (KC_i (KC_b (hr.1 q (a1 + (1 : Int32)) a2 h) (fun r1 h_r1 => (KC_nv (fun v2 => (kc_b_X6_best_38 q0 r hr r1.2 a1 a2 r1.1 v2 (0 : Int32) h_r1))))) (kc_b_X6_best_13 q0 r hr q a2 h)))
theorem kc_fb_X6_tried (q0 : SS) (r : GT_X6_best) (hr : KGc_X6_best q0 r) (q : SS) (a1 : Int32) (a2 : Int32) (a3 : Int32) (a4 : Int32) (a5 : Int32) (h : Fr wQ vQ q0 q) : KC q0 (fb_X6_tried r q a1 a2 a3 a4 a5) (fun r => r.2) := by
  unfold fb_X6_tried
  exact (KC_bp (fun r1 => (KC_i (KC_some h) (KC_ic (fun c0 => (KC_ic (fun c1 => (KC_ns (Fr_sI h rfl) (fun q2 h_q2 => (KC_ic (fun c2 => (KC_ic (fun c3 => (KC_ns (Fr_sI h_q2 rfl) (fun q3 h_q3 => (KC_b (hr.1 q3 (a1 + (1 : Int32)) (a2 + (1 : Int32)) h_q3) (fun r4 h_r4 => (KC_ic (fun c4 => (KC_ic (fun c5 => (KC_ns (Fr_sI h_r4 rfl) (fun q5 h_q5 => (KC_ic (fun c6 => (KC_ic (fun c7 => (KC_ns (Fr_sI h_q5 rfl) (fun q6 h_q6 => (KC_some h_q6)))) KC_none)) KC_none)))) KC_none)) KC_none)))))) KC_none)) KC_none)))) KC_none)) KC_none))))
theorem kgc_X6_best (q0 : SS) : ∀ n, KGc_X6_best q0 (g_X6_best n)
  | 0 => ⟨(fun _ _ _ _ => KC_none), (fun _ _ _ _ _ _ _ => KC_none)⟩
  | n + 1 => ⟨(fun a0 a1 a2 h => kc_fb_X6_best q0 (g_X6_best n) (kgc_X6_best q0 n) a0 a1 a2 h), (fun a0 a1 a2 a3 a4 a5 h => kc_fb_X6_tried q0 (g_X6_best n) (kgc_X6_best q0 n) a0 a1 a2 a3 a4 a5 h)⟩
theorem kc_f_X6_best (q0 : SS) (x0 : SS) (x1 : Int32) (x2 : Int32) (h : Fr wQ vQ q0 x0) : KC q0 (f_X6_best x0 x1 x2) (fun r => r.2) := (kgc_X6_best q0 60).1 x0 x1 x2 h
theorem kc_f_X6_tried (q0 : SS) (x0 : SS) (x1 : Int32) (x2 : Int32) (x3 : Int32) (x4 : Int32) (x5 : Int32) (h : Fr wQ vQ q0 x0) : KC q0 (f_X6_tried x0 x1 x2 x3 x4 x5) (fun r => r.2) := (kgc_X6_best q0 60).2 x0 x1 x2 x3 x4 x5 h
theorem kc_b_X6_firstSlipping_105 (q0 : SS) (rec_28 : SS → Int32 → Int32 → Int32 → Int32 → Option (Int32 × SS)) (h_rec_28 : ∀ (a0 : SS) (a1 : Int32) (a2 : Int32) (a3 : Int32) (a4 : Int32), Fr wQ vQ q0 a0 → KC q0 (rec_28 a0 a1 a2 a3 a4) (fun r => r.2)) (rec_37 : SS → Int32 → Int32 → Int32 → Int32 → Int32 → Option (Int32 × SS)) (h_rec_37 : ∀ (a0 : SS) (a1 : Int32) (a2 : Int32) (a3 : Int32) (a4 : Int32) (a5 : Int32), Fr wQ vQ q0 a0 → KC q0 (rec_37 a0 a1 a2 a3 a4 a5) (fun r => r.2)) (q : SS) (l1 : Int32) (l2 : Int32) (l3 : Int32) (l4 : Int32) (l5 : Int32) (h : Fr wQ vQ q0 q) : KC q0 (b_X6_firstSlipping_105 rec_28 rec_37 q l1 l2 l3 l4 l5) (fun r => r.2) := by
  unfold b_X6_firstSlipping_105
  exact (h_rec_37 q l1 l2 l3 l4 (l5 + (1 : Int32)) h)
theorem kc_b_X6_firstSlipping_99 (q0 : SS) (rec_28 : SS → Int32 → Int32 → Int32 → Int32 → Option (Int32 × SS)) (h_rec_28 : ∀ (a0 : SS) (a1 : Int32) (a2 : Int32) (a3 : Int32) (a4 : Int32), Fr wQ vQ q0 a0 → KC q0 (rec_28 a0 a1 a2 a3 a4) (fun r => r.2)) (rec_37 : SS → Int32 → Int32 → Int32 → Int32 → Int32 → Option (Int32 × SS)) (h_rec_37 : ∀ (a0 : SS) (a1 : Int32) (a2 : Int32) (a3 : Int32) (a4 : Int32) (a5 : Int32), Fr wQ vQ q0 a0 → KC q0 (rec_37 a0 a1 a2 a3 a4 a5) (fun r => r.2)) (q : SS) (l1 : Int32) (l4 : Int32) (l5 : Int32) (l6 : Int32) (l7 : Int32) (h : Fr wQ vQ q0 q) : KC q0 (b_X6_firstSlipping_99 rec_28 rec_37 q l1 l4 l5 l6 l7) (fun r => r.2) := by
  unfold b_X6_firstSlipping_99
  exact (kc_b_X6_firstSlipping_105 q0 rec_28 h_rec_28 rec_37 h_rec_37 q l1 l6 l7 l4 l5 h)
theorem kc_b_X6_firstSlipping_37 (q0 : SS) (rec_28 : SS → Int32 → Int32 → Int32 → Int32 → Option (Int32 × SS)) (h_rec_28 : ∀ (a0 : SS) (a1 : Int32) (a2 : Int32) (a3 : Int32) (a4 : Int32), Fr wQ vQ q0 a0 → KC q0 (rec_28 a0 a1 a2 a3 a4) (fun r => r.2)) (x0 : SS) (x1 : Int32) (x2 : Int32) (x3 : Int32) (x4 : Int32) (x5 : Int32) (h : Fr wQ vQ q0 x0) : KC q0 (b_X6_firstSlipping_37 rec_28 x0 x1 x2 x3 x4 x5) (fun r => r.2) := by
  unfold b_X6_firstSlipping_37
  refine KC_fx6 (fun rec_37 h_rec_37 q l1 l2 l3 l4 l5 h => ?_) FU x0 x1 x2 x3 x4 x5 h
  exact (KC_bp (fun r3 => (KC_i (h_rec_28 q l1 l2 l3 (l4 + (1 : Int32)) h) (KC_b (kc_f_X6_tried q0 q (0 : Int32) (0 : Int32) l4 l5 l1 h) (fun r4 h_r4 => (KC_ic (fun c0 => (KC_nv (fun v5 => (KC_i (kc_b_X6_firstSlipping_99 q0 rec_28 h_rec_28 rec_37 h_rec_37 r4.2 l1 l4 l5 r4.1 v5 h_r4) (KC_i (KC_i (kc_b_X6_firstSlipping_105 q0 rec_28 h_rec_28 rec_37 h_rec_37 r4.2 l1 l2 l3 l4 l5 h_r4) (KC_i (kc_b_X6_firstSlipping_105 q0 rec_28 h_rec_28 rec_37 h_rec_37 r4.2 l1 l2 l3 l4 l5 h_r4) (kc_b_X6_firstSlipping_99 q0 rec_28 h_rec_28 rec_37 h_rec_37 r4.2 l1 l4 l5 r4.1 v5 h_r4))) (kc_b_X6_firstSlipping_105 q0 rec_28 h_rec_28 rec_37 h_rec_37 r4.2 l1 l2 l3 l4 l5 h_r4)))))) KC_none))))))
theorem kc_b_X6_firstSlipping_28 (q0 : SS)  (x0 : SS) (x1 : Int32) (x2 : Int32) (x3 : Int32) (x4 : Int32) (h : Fr wQ vQ q0 x0) : KC q0 (b_X6_firstSlipping_28 x0 x1 x2 x3 x4) (fun r => r.2) := by
  unfold b_X6_firstSlipping_28
  refine KC_fx5 (fun rec_28 h_rec_28 q l1 l2 l3 l4 h => ?_) FU x0 x1 x2 x3 x4 h
  exact (KC_i (KC_some h) (kc_b_X6_firstSlipping_37 q0 rec_28 h_rec_28 q l1 l2 l3 l4 (0 : Int32) h))
theorem kc_f_X6_firstSlipping (q0 : SS) (q : SS) (h : Fr wQ vQ q0 q) : KC q0 (f_X6_firstSlipping q) (fun r => r.2) := by
  unfold f_X6_firstSlipping
  exact (KC_i (KC_some h) (KC_b (kc_f_X6_best q0 q (1 : Int32) (0 : Int32) h) (fun r1 h_r1 => (KC_nv (fun v2 => (kc_b_X6_firstSlipping_28 q0 r1.2 r1.1 v2 (-2 : Int32) (0 : Int32) h_r1))))))
theorem kc_f_X11_first (q0 : SS) (q : SS) (a1 : Int32) (a2 : Int32) (h : Fr wQ vQ q0 q) : KC q0 (f_X11_first q a1 a2) (fun r => r.2) := by
  unfold f_X11_first
  exact (KC_bp (fun r1 => (KC_i (KC_some h) (KC_i (KC_some h) (KC_i (KC_b (kc_f_X6_begin q0 q a1 a2 h) (fun r2 h_r2 => (KC_b (kc_f_X6_firstSlipping q0 r2 h_r2) (fun r3 h_r3 => (KC_some h_r3))))) (KC_some h))))))
theorem kc_f_X6_freeAtBest (q0 : SS) (q : SS) (h : Fr wQ vQ q0 q) : KC q0 (f_X6_freeAtBest q) (fun r => r.2) := by
  unfold f_X6_freeAtBest
  exact (KC_i (KC_some h) (KC_b (kc_f_X6_best q0 q (0 : Int32) (0 : Int32) h) (fun r1 h_r1 => (KC_some h_r1))))
theorem kc_f_X11_rid (q0 : SS) (q : SS) (a1 : Int32) (a2 : Int32) (a3 : Int32) (h : Fr wQ vQ q0 q) : KC q0 (f_X11_rid q a1 a2 a3) (fun r => r.2) := by
  unfold f_X11_rid
  exact (KC_bp (fun r1 => (KC_i (KC_some h) (KC_i (KC_some h) (KC_i (KC_some h) (KC_bp (fun r2 => (KC_i (KC_some h) (KC_b (kc_f_X6_begin q0 q a1 a2 h) (fun r3 h_r3 => (KC_b (kc_f_X6_freeAtBest q0 r3 h_r3) (fun r4 h_r4 => (KC_bp (fun r5 => (KC_bp (fun r6 => (KC_some h_r4)))))))))))))))))
theorem kc_b_X11_watch_92 (q0 : SS) (rec_27 : SS → Int32 → Int32 → Int32 → Int32 → Option (Int32 × SS)) (h_rec_27 : ∀ (a0 : SS) (a1 : Int32) (a2 : Int32) (a3 : Int32) (a4 : Int32), Fr wQ vQ q0 a0 → KC q0 (rec_27 a0 a1 a2 a3 a4) (fun r => r.2)) (q : SS) (l1 : Int32) (l3 : Int32) (l4 : Int32) (l5 : Int32) (h : Fr wQ vQ q0 q) : KC q0 (b_X11_watch_92 rec_27 q l1 l3 l4 l5) (fun r => r.2) := by
  unfold b_X11_watch_92
  exact (h_rec_27 q l1 l3 l4 (l5 + (1 : Int32)) h)
theorem kc_b_X11_watch_85 (q0 : SS) (rec_27 : SS → Int32 → Int32 → Int32 → Int32 → Option (Int32 × SS)) (h_rec_27 : ∀ (a0 : SS) (a1 : Int32) (a2 : Int32) (a3 : Int32) (a4 : Int32), Fr wQ vQ q0 a0 → KC q0 (rec_27 a0 a1 a2 a3 a4) (fun r => r.2)) (q : SS) (l1 : Int32) (l5 : Int32) (l6 : Int32) (l7 : Int32) (h : Fr wQ vQ q0 q) : KC q0 (b_X11_watch_85 rec_27 q l1 l5 l6 l7) (fun r => r.2) := by
  unfold b_X11_watch_85
  exact (kc_b_X11_watch_92 q0 rec_27 h_rec_27 q l1 l6 l7 l5 h)
theorem kc_b_X11_watch_27 (q0 : SS)  (x0 : SS) (x1 : Int32) (x2 : Int32) (x3 : Int32) (x4 : Int32) (h : Fr wQ vQ q0 x0) : KC q0 (b_X11_watch_27 x0 x1 x2 x3 x4) (fun r => r.2) := by
  unfold b_X11_watch_27
  refine KC_fx5 (fun rec_27 h_rec_27 q l1 l3 l4 l5 h => ?_) FU x0 x1 x2 x3 x4 h
  exact (KC_bp (fun r3 => (KC_i (KC_i (KC_some h) (KC_some h)) (KC_bp (fun r5 => (KC_i (kc_b_X11_watch_92 q0 rec_27 h_rec_27 q l1 l3 l4 l5 h) (KC_b (kc_f_X8_oddsOf q0 q l5 l1 h) (fun r6 h_r6 => (KC_bp (fun r7 => (KC_i (kc_b_X11_watch_85 q0 rec_27 h_rec_27 r6.2 l1 l5 r6.1 r7 h_r6) (KC_i (KC_i (kc_b_X11_watch_92 q0 rec_27 h_rec_27 r6.2 l1 l3 l4 l5 h_r6) (kc_b_X11_watch_85 q0 rec_27 h_rec_27 r6.2 l1 l5 r6.1 r7 h_r6)) (kc_b_X11_watch_92 q0 rec_27 h_rec_27 r6.2 l1 l3 l4 l5 h_r6)))))))))))))
theorem kc_f_X11_watch (q0 : SS) (q : SS) (a1 : Int32) (h : Fr wQ vQ q0 q) : KC q0 (f_X11_watch q a1) (fun r => r.2) := by
  unfold f_X11_watch
  exact (KC_bp (fun r1 => (KC_i (KC_some h) (KC_b (kc_f_X11_now q0 q h) (fun r2 h_r2 => (kc_b_X11_watch_27 q0 r2 a1 (-1 : Int32) (-2 : Int32) (0 : Int32) h_r2))))))
theorem kc_b_X2_weighStep_37 (q0 : SS) (q : SS) (l1 : Int32) (l2 : Int32) (s0 : Int64) (s1 : Int64) (h : Fr wQ vQ q0 q) : KC q0 (b_X2_weighStep_37 q l1 l2 s0 s1) (fun r => r) := by
  unfold b_X2_weighStep_37
  exact (KC_ns (Fr_sL h rfl) (fun q4 h_q4 => (KC_ns (Fr_sL h_q4 rfl) (fun q5 h_q5 => (KC_i (KC_some h_q5) (KC_bp (fun r6 => (KC_bp (fun r7 => (KC_b (kc_f_X8_give q0 q5 r6 r7 h_q5) (fun r8 h_r8 => (KC_some h_r8))))))))))))
theorem kc_f_X2_weighStep (q0 : SS) (q : SS) (a1 : Int32) (a2 : Int32) (h : Fr wQ vQ q0 q) : KC q0 (f_X2_weighStep q a1 a2) (fun r => r) := by
  unfold f_X2_weighStep
  exact (KC_bp (fun r1 => (KC_bp (fun r2 => (KC_b (kc_f_X8_oddsOf q0 q r1 r2 h) (fun r3 h_r3 => (KC_i (kc_b_X2_weighStep_37 q0 r3.2 a1 a2 (((12 : Int32) - r3.1).toInt64) (r3.2.2 37 6) h_r3) (kc_b_X2_weighStep_37 q0 r3.2 a1 a2 (r3.1.toInt64) (r3.2.2 37 6) h_r3))))))))
theorem kc_b_X2_weighAllThatCan_46 (q0 : SS) (rec_12 : SS → Int32 → Option SS) (h_rec_12 : ∀ (a0 : SS) (a1 : Int32), Fr wQ vQ q0 a0 → KC q0 (rec_12 a0 a1) (fun r => r)) (q : SS) (l1 : Int32) (h : Fr wQ vQ q0 q) : KC q0 (b_X2_weighAllThatCan_46 rec_12 q l1) (fun r => r) := by
  unfold b_X2_weighAllThatCan_46
  exact (h_rec_12 q (l1 + (1 : Int32)) h)
theorem kc_b_X2_weighAllThatCan_12 (q0 : SS)  (x0 : SS) (x1 : Int32) (h : Fr wQ vQ q0 x0) : KC q0 (b_X2_weighAllThatCan_12 x0 x1) (fun r => r) := by
  unfold b_X2_weighAllThatCan_12
  refine KC_fx2 (fun rec_12 h_rec_12 q l1 h => ?_) FU x0 x1 h
  exact (KC_i (KC_some h) (KC_bp (fun r3 => (KC_bp (fun r4 => (KC_bp (fun r5 => (KC_i (kc_b_X2_weighAllThatCan_46 q0 rec_12 h_rec_12 q l1 h) (KC_b (kc_f_X2_weighStep q0 q l1 (1 : Int32) h) (fun r6 h_r6 => (kc_b_X2_weighAllThatCan_46 q0 rec_12 h_rec_12 r6 l1 h_r6)))))))))))
theorem kc_f_X2_weighAllThatCan (q0 : SS) (q : SS) (h : Fr wQ vQ q0 q) : KC q0 (f_X2_weighAllThatCan q) (fun r => r) := by
  unfold f_X2_weighAllThatCan
  exact (KC_ns (Fr_sL h rfl) (fun q1 h_q1 => (KC_ns (Fr_sL h_q1 rfl) (fun q2 h_q2 => (kc_b_X2_weighAllThatCan_12 q0 q2 (0 : Int32) h_q2)))))
theorem kc_f_X11_all (q0 : SS) (q : SS) (a1 : Int32) (a2 : Int32) (h : Fr wQ vQ q0 q) : KC q0 (f_X11_all q a1 a2) (fun r => r.2) := by
  unfold f_X11_all
  exact (KC_bp (fun r1 => (KC_i (KC_bp (fun r2 => (KC_i (KC_some h) (KC_b (kc_f_X2_begin q0 q a1 h) (fun r3 h_r3 => (KC_b (kc_f_X2_weighAllThatCan q0 r3 h_r3) (fun r4 h_r4 => (KC_bp (fun r5 => (KC_bp (fun r6 => (KC_bp (fun r7 => (KC_some h_r4)))))))))))))) (KC_some h))))
theorem kc_b_X2_weighSet_88 (q0 : SS) (rec_27 : SS → Int32 → Int32 → Int32 → Option SS) (h_rec_27 : ∀ (a0 : SS) (a1 : Int32) (a2 : Int32) (a3 : Int32), Fr wQ vQ q0 a0 → KC q0 (rec_27 a0 a1 a2 a3) (fun r => r)) (q : SS) (l1 : Int32) (l2 : Int32) (l3 : Int32) (h : Fr wQ vQ q0 q) : KC q0 (b_X2_weighSet_88 rec_27 q l1 l2 l3) (fun r => r) := by
  unfold b_X2_weighSet_88
  exact (h_rec_27 q l1 l2 (l3 + (1 : Int32)) h)
theorem kc_b_X2_weighSet_49 (q0 : SS) (rec_27 : SS → Int32 → Int32 → Int32 → Option SS) (h_rec_27 : ∀ (a0 : SS) (a1 : Int32) (a2 : Int32) (a3 : Int32), Fr wQ vQ q0 a0 → KC q0 (rec_27 a0 a1 a2 a3) (fun r => r)) (q : SS) (l1 : Int32) (l2 : Int32) (l3 : Int32) (s0 : Int32) (h : Fr wQ vQ q0 q) : KC q0 (b_X2_weighSet_49 rec_27 q l1 l2 l3 s0) (fun r => r) := by
  unfold b_X2_weighSet_49
  exact (KC_bp (fun r5 => (KC_bp (fun r6 => (KC_bp (fun r7 => (KC_i (KC_i (kc_b_X2_weighSet_88 q0 rec_27 h_rec_27 q l1 l2 l3 h) (kc_b_X2_weighSet_88 q0 rec_27 h_rec_27 q l1 (0 : Int32) l3 h)) (KC_b (kc_f_X2_weighStep q0 q l3 s0 h) (fun r9 h_r9 => (kc_b_X2_weighSet_88 q0 rec_27 h_rec_27 r9 l1 l2 l3 h_r9))))))))))
theorem kc_b_X2_weighSet_27 (q0 : SS)  (x0 : SS) (x1 : Int32) (x2 : Int32) (x3 : Int32) (h : Fr wQ vQ q0 x0) : KC q0 (b_X2_weighSet_27 x0 x1 x2 x3) (fun r => r) := by
  unfold b_X2_weighSet_27
  refine KC_fx4 (fun rec_27 h_rec_27 q l1 l2 l3 h => ?_) FU x0 x1 x2 x3 h
  exact (KC_i (KC_i (KC_ns (Fr_sL h rfl) (fun q3 h_q3 => (KC_some h_q3))) (KC_some h)) (KC_i (kc_b_X2_weighSet_49 q0 rec_27 h_rec_27 q l1 l2 l3 (1 : Int32) h) (kc_b_X2_weighSet_49 q0 rec_27 h_rec_27 q l1 l2 l3 (0 : Int32) h)))
theorem kc_b_X2_weighSet_14 (q0 : SS) (q : SS) (l1 : Int32) (s0 : Int32) (h : Fr wQ vQ q0 q) : KC q0 (b_X2_weighSet_14 q l1 s0) (fun r => r) := by
  unfold b_X2_weighSet_14
  exact (KC_ns (Fr_sL h rfl) (fun q1 h_q1 => (KC_ns (Fr_sL h_q1 rfl) (fun q2 h_q2 => (kc_b_X2_weighSet_27 q0 q2 l1 s0 (0 : Int32) h_q2)))))
theorem kc_f_X2_weighSet (q0 : SS) (q : SS) (a1 : Int32) (h : Fr wQ vQ q0 q) : KC q0 (f_X2_weighSet q a1) (fun r => r) := by
  unfold f_X2_weighSet
  exact (KC_i (kc_b_X2_weighSet_14 q0 q a1 (1 : Int32) h) (kc_b_X2_weighSet_14 q0 q a1 (0 : Int32) h))
theorem kc_f_X11_likely (q0 : SS) (q : SS) (a1 : Int32) (a2 : Int32) (a3 : Int32) (h : Fr wQ vQ q0 q) : KC q0 (f_X11_likely q a1 a2 a3) (fun r => r.2) := by
  unfold f_X11_likely
  exact (KC_bp (fun r1 => (KC_i (KC_i (KC_some h) (KC_i (KC_some h) (KC_bp (fun r2 => (KC_i (KC_some h) (KC_b (kc_f_X2_begin q0 q a1 h) (fun r3 h_r3 => (KC_b (kc_f_X2_weighSet q0 r3 a2 h_r3) (fun r4 h_r4 => (KC_bp (fun r5 => (KC_bp (fun r6 => (KC_bp (fun r7 => (KC_some h_r4)))))))))))))))) (KC_some h))))
theorem kc_b_X2_goByWell_109 (q0 : SS) (rec_12 : SS → Int32 → Int32 → Option SS) (h_rec_12 : ∀ (a0 : SS) (a1 : Int32) (a2 : Int32), Fr wQ vQ q0 a0 → KC q0 (rec_12 a0 a1 a2) (fun r => r)) (q : SS) (l1 : Int32) (l2 : Int32) (h : Fr wQ vQ q0 q) : KC q0 (b_X2_goByWell_109 rec_12 q l1 l2) (fun r => r) := by
  unfold b_X2_goByWell_109
  exact (h_rec_12 q l1 (l2 + (1 : Int32)) h)
theorem kc_b_X2_goByWell_12 (q0 : SS)  (x0 : SS) (x1 : Int32) (x2 : Int32) (h : Fr wQ vQ q0 x0) : KC q0 (b_X2_goByWell_12 x0 x1 x2) (fun r => r) := by
  unfold b_X2_goByWell_12
  refine KC_fx3 (fun rec_12 h_rec_12 q l1 l2 h => ?_) FU x0 x1 x2 h
  exact (KC_i (KC_some h) (KC_i (KC_some h) (KC_bp (fun r3 => (KC_bp (fun r4 => (KC_bp (fun r5 => (KC_i (KC_ns (Fr_sI h rfl) (fun q6 h_q6 => (kc_b_X2_goByWell_109 q0 rec_12 h_rec_12 q6 l1 l2 h_q6))) (KC_bp (fun r7 => (KC_bp (fun r8 => (KC_b (kc_f_X8_oddsOf q0 q r7 r8 h) (fun r9 h_r9 => (KC_i (kc_b_X2_goByWell_109 q0 rec_12 h_rec_12 r9.2 l1 l2 h_r9) (KC_ns (Fr_sI h_r9 rfl) (fun q10 h_q10 => (KC_bp (fun r11 => (KC_bp (fun r12 => (KC_b (kc_f_X8_give q0 q10 r11 r12 h_q10) (fun r13 h_r13 => (kc_b_X2_goByWell_109 q0 rec_12 h_rec_12 r13 l1 l2 h_r13)))))))))))))))))))))))))
theorem kc_f_X2_goByWell (q0 : SS) (q : SS) (a1 : Int32) (h : Fr wQ vQ q0 q) : KC q0 (f_X2_goByWell q a1) (fun r => r) := by
  unfold f_X2_goByWell
  exact (KC_ns (Fr_sI h rfl) (fun q1 h_q1 => (KC_ns (Fr_sI h_q1 rfl) (fun q2 h_q2 => (kc_b_X2_goByWell_12 q0 q2 a1 (0 : Int32) h_q2)))))
theorem kc_b_X11_eve_45 (q0 : SS) (q : SS) (l1 : Int32) (l2 : Int32) (l3 : Int32) (h : Fr wQ vQ q0 q) : KC q0 (b_X11_eve_45 q l1 l2 l3) (fun r => r.2) := by
  unfold b_X11_eve_45
  exact (KC_bp (fun r2 => (KC_i (KC_b (kc_f_X2_begin q0 q l1 h) (fun r3 h_r3 => (KC_b (kc_f_X2_goByWell q0 r3 l2 h_r3) (fun r4 h_r4 => (KC_i (KC_bp (fun r5 => (KC_some h_r4))) (KC_i (KC_bp (fun r6 => (KC_some h_r4))) (KC_bp (fun r7 => (KC_some h_r4))))))))) (KC_some h))))
theorem kc_f_X11_eve (q0 : SS) (q : SS) (a1 : Int32) (a2 : Int32) (a3 : Int32) (h : Fr wQ vQ q0 q) : KC q0 (f_X11_eve q a1 a2 a3) (fun r => r.2) := by
  unfold f_X11_eve
  exact (KC_bp (fun r1 => (KC_i (KC_some h) (KC_i (KC_some h) (KC_i (KC_some h) (KC_i (kc_b_X11_eve_45 q0 q a1 a2 a3 h) (KC_i (kc_b_X11_eve_45 q0 q a1 a2 a3 h) (KC_bp (fun r11 => (KC_i (KC_some h) (kc_b_X11_eve_45 q0 q a1 a2 a3 h)))))))))))
theorem kc_f_X11_later (q0 : SS) (q : SS) (a1 : Int32) (a2 : Int32) (a3 : Int32) (h : Fr wQ vQ q0 q) : KC q0 (f_X11_later q a1 a2 a3) (fun r => r.2) := by
  unfold f_X11_later
  exact (KC_bp (fun r1 => (KC_i (KC_some h) (KC_i (KC_some h) (KC_i (KC_some h) (KC_bp (fun r2 => (KC_i (KC_some h) (KC_bp (fun r3 => (KC_i (KC_b (kc_f_X2_begin q0 q a1 h) (fun r4 h_r4 => (KC_b (kc_f_X2_goByWell q0 r4 a2 h_r4) (fun r5 h_r5 => (KC_bp (fun r6 => (KC_some h_r5))))))) (KC_some h))))))))))))
theorem kc_f_X11_odds (q0 : SS) (q : SS) (a1 : Int32) (h : Fr wQ vQ q0 q) : KC q0 (f_X11_odds q a1) (fun r => r.2) := by
  unfold f_X11_odds
  exact (KC_bp (fun r1 => (KC_i (KC_some h) (KC_b (kc_f_X11_now q0 q h) (fun r2 h_r2 => (KC_b (kc_f_X8_oddsOf q0 r2 (jshr a1 (3 : Int32)) (a1 &&& (7 : Int32)) h_r2) (fun r3 h_r3 => (KC_some h_r3))))))))

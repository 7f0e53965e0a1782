theorem k_b_X4_doStep_87 (q0 : SS) (q : SS) (s0 : Int32) (h : Fr wK vK q0 q) : KO q0 (b_X4_doStep_87 q s0) (fun r => r) := by
  unfold b_X4_doStep_87
  exact (KO_b (k_f_X4_push q0 q s0 h) (fun r8 h_r8 => (KO_some h_r8)))
theorem k_f_X4_doStep (q0 : SS) (q : SS) (a1 : Int32) (a2 : Int32) (h : Fr wK vK q0 q) : KO q0 (f_X4_doStep q a1 a2) (fun r => r) := by
  unfold f_X4_doStep
  exact (KO_i (KO_b (k_f_X4_push q0 q a2 h) (fun r1 h_r1 => (KO_some h_r1))) (KO_i (KO_i (k_b_X4_doStep_43 q0 q h) (KO_i (k_b_X4_doStep_43 q0 q h) (KO_ic (fun c0 => (k_b_X4_doStep_44 q0 q (q.1 16 a2.toNatClampNeg) h)) KO_none))) (KO_i (KO_b (k_f_X4_pop q0 q h) (fun r5 h_r5 => (KO_b (k_f_X4_push q0 r5.2 (-r5.1) h_r5) (fun r6 h_r6 => (KO_some h_r6))))) (KO_i (KO_b (k_f_X4_pop q0 q h) (fun r7 h_r7 => (KO_i (k_b_X4_doStep_87 q0 r7.2 (1 : Int32) h_r7) (k_b_X4_doStep_87 q0 r7.2 (0 : Int32) h_r7)))) (KO_b (k_f_X4_pop q0 q h) (fun r10 h_r10 => (KO_b (k_f_X4_pop q0 r10.2 h_r10) (fun r11 h_r11 => (KO_bp (fun r12 => (KO_b (k_f_X4_push q0 r11.2 r12 h_r11) (fun r13 h_r13 => (KO_some h_r13)))))))))))))
theorem k_b_X4_workOut_145 (q0 : SS) (rec_56 : SS → Int32 → Int32 → Option (Int32 × SS)) (h_rec_56 : ∀ (a0 : SS) (a1 : Int32) (a2 : Int32), Fr wK vK q0 a0 → KO q0 (rec_56 a0 a1 a2) (fun r => r.2)) (q : SS) (l7 : Int32) (l8 : Int32) (h : Fr wK vK q0 q) : KO q0 (b_X4_workOut_145 rec_56 q l7 l8) (fun r => r.2) := by
  unfold b_X4_workOut_145
  exact (h_rec_56 q l7 (l8 + (1 : Int32)) h)
theorem k_b_X4_workOut_100 (q0 : SS) (rec_56 : SS → Int32 → Int32 → Option (Int32 × SS)) (h_rec_56 : ∀ (a0 : SS) (a1 : Int32) (a2 : Int32), Fr wK vK q0 a0 → KO q0 (rec_56 a0 a1 a2) (fun r => r.2)) (q : SS) (l8 : Int32) (s0 : Int32) (h : Fr wK vK q0 q) : KO q0 (b_X4_workOut_100 rec_56 q l8 s0) (fun r => r.2) := by
  unfold b_X4_workOut_100
  exact (k_b_X4_workOut_145 q0 rec_56 h_rec_56 q s0 l8 h)
theorem k_b_X4_workOut_56 (q0 : SS)  (x0 : SS) (x1 : Int32) (x2 : Int32) (h : Fr wK vK q0 x0) : KO q0 (b_X4_workOut_56 x0 x1 x2) (fun r => r.2) := by
  unfold b_X4_workOut_56
  refine KO_fx3 (fun rec_56 h_rec_56 q l7 l8 h => ?_) FU x0 x1 x2 h
  exact (KO_i (KO_some h) (KO_i (KO_some h) (KO_ic (fun c0 => (KO_nv (fun v8 => (KO_i (KO_b (k_f_X4_pop q0 q h) (fun r9 h_r9 => (KO_i (k_b_X4_workOut_100 q0 rec_56 h_rec_56 r9.2 l8 (0 : Int32) h_r9) (k_b_X4_workOut_100 q0 rec_56 h_rec_56 r9.2 l8 (1 : Int32) h_r9)))) (KO_i (KO_b (k_f_X4_pop q0 q h) (fun r11 h_r11 => (KO_i (k_b_X4_workOut_145 q0 rec_56 h_rec_56 r11.2 (1 : Int32) l8 h_r11) (KO_some h_r11)))) (KO_ic (fun c1 => (KO_b (k_f_X4_doStep q0 q v8 (q.1 14 l8.toNatClampNeg) h) (fun r13 h_r13 => (k_b_X4_workOut_145 q0 rec_56 h_rec_56 r13 l7 l8 h_r13)))) KO_none)))))) KO_none)))
theorem k_f_X4_workOut (q0 : SS) (q : SS) (a1 : Int32) (a2 : Int32) (a3 : Int32) (a4 : Int32) (a5 : Int32) (a6 : Int32) (h : Fr wK vK q0 q) : KO q0 (f_X4_workOut q a1 a2 a3 a4 a5 a6) (fun r => r.2) := by
  unfold f_X4_workOut
  exact (KO_i (KO_ns (Fr_sI h rfl) (fun q1 h_q1 => (KO_i (KO_ns (Fr_sI h_q1 rfl) (fun q2 h_q2 => (KO_i (KO_ns (Fr_sI h_q2 rfl) (fun q3 h_q3 => (KO_i (KO_ns (Fr_sI h_q3 rfl) (fun q4 h_q4 => (KO_i (KO_ns (Fr_sI h_q4 rfl) (fun q5 h_q5 => (KO_i (KO_ns (Fr_sI h_q5 rfl) (fun q6 h_q6 => (KO_ns (Fr_sI h_q6 rfl) (fun q7 h_q7 => (k_b_X4_workOut_56 q0 q7 (1 : Int32) (0 : Int32) h_q7))))) KO_none))) KO_none))) KO_none))) KO_none))) KO_none))) KO_none)
theorem k_b_X8_oddsBy_87 (q0 : SS) (q : SS) (l8 : Int32) (h : Fr wK vK q0 q) : KO q0 (b_X8_oddsBy_87 q l8) (fun r => r.2) := by
  unfold b_X8_oddsBy_87
  exact (KO_some h)
theorem k_f_X8_oddsBy (q0 : SS) (q : SS) (a1 : Int32) (a2 : Int32) (a3 : Int32) (a4 : Int32) (a5 : Int32) (h : Fr wK vK q0 q) : KO q0 (f_X8_oddsBy q a1 a2 a3 a4 a5) (fun r => r.2) := by
  unfold f_X8_oddsBy
  exact (KO_bp (fun r1 => (KO_i (KO_some h) (KO_i (KO_bp (fun r2 => (KO_bp (fun r3 => (KO_nv (fun v4 => (KO_bp (fun r5 => (KO_i (k_b_X8_oddsBy_87 q0 q v4 h) (KO_bp (fun r6 => (KO_b (k_f_X4_workOut q0 q r2 r6 a3 a4 a5 r3 h) (fun r7 h_r7 => (k_b_X8_oddsBy_87 q0 r7.2 r7.1 h_r7)))))))))))))) (KO_some h)))))
theorem k_f_X8_oddsOf (q0 : SS) (q : SS) (a1 : Int32) (a2 : Int32) (h : Fr wK vK q0 q) : KO q0 (f_X8_oddsOf q a1 a2) (fun r => r.2) := by
  unfold f_X8_oddsOf
  exact (KO_bp (fun r1 => (KO_i (KO_some h) (KO_bp (fun r2 => (KO_bp (fun r3 => (KO_bp (fun r4 => (KO_bp (fun r5 => (KO_b (k_f_X8_oddsBy q0 q r2 a2 r3 r4 r5 h) (fun r6 h_r6 => (KO_some h_r6))))))))))))))
theorem k_f_X8_give (q0 : SS) (q : SS) (a1 : Int32) (a2 : Int32) (h : Fr wK vK q0 q) : KO q0 (f_X8_give q a1 a2) (fun r => r) := by
  unfold f_X8_give
  exact (KO_bp (fun r1 => (KO_i (KO_some h) (KO_ic (fun c0 => (KO_ns (Fr_sI h rfl) (fun q2 h_q2 => (KO_some h_q2)))) KO_none))))
theorem k_b_X8_slipDrawn_65 (q0 : SS) (q : SS) (l4 : Int32) (l5 : Int32) (s0 : Int32) (h : Fr wK vK q0 q) : KO q0 (b_X8_slipDrawn_65 q l4 l5 s0) (fun r => r.2) := by
  unfold b_X8_slipDrawn_65
  exact (KO_i (KO_i (KO_some h) KO_none) (KO_b (k_f_X8_give q0 q l4 l5 h) (fun r6 h_r6 => (KO_i (KO_some h_r6) KO_none))))
theorem k_f_X8_slipDrawn (q0 : SS) (q : SS) (a1 : Int32) (h : Fr wK vK q0 q) : KO q0 (f_X8_slipDrawn q a1) (fun r => r.2) := by
  unfold f_X8_slipDrawn
  exact (KO_bp (fun r1 => (KO_bp (fun r2 => (KO_i (KO_some h) (KO_i (KO_i KO_none (KO_nv (fun v3 => (KO_i KO_none (KO_nv (fun v4 => (KO_b (k_f_X8_oddsOf q0 q v3 v4 h) (fun r5 h_r5 => (KO_i (k_b_X8_slipDrawn_65 q0 r5.2 v3 v4 (0 : Int32) h_r5) (k_b_X8_slipDrawn_65 q0 r5.2 v3 v4 (1 : Int32) h_r5)))))))))) (KO_some h)))))))
theorem k_b_X11_drawn_156 (q0 : SS) (rec_70 : SS → Int32 → Int32 → Int32 → Int32 → Int32 → Int32 → Int32 → Option (Int32 × SS)) (h_rec_70 : ∀ (a0 : SS) (a1 : Int32) (a2 : Int32) (a3 : Int32) (a4 : Int32) (a5 : Int32) (a6 : Int32) (a7 : Int32), Fr wK vK q0 a0 → KO q0 (rec_70 a0 a1 a2 a3 a4 a5 a6 a7) (fun r => r.2)) (q : SS) (l3 : Int32) (l4 : Int32) (l5 : Int32) (l6 : Int32) (l7 : Int32) (l9 : Int32) (s0 : Int32) (s1 : Int32) (h : Fr wK vK q0 q) : KO q0 (b_X11_drawn_156 rec_70 q l3 l4 l5 l6 l7 l9 s0 s1) (fun r => r.2) := by
  unfold b_X11_drawn_156
  exact (KO_nv (fun v7 => (h_rec_70 q l3 l4 l5 l6 l7 v7 (l9 + (1 : Int32)) h)))
theorem k_b_X11_drawn_120 (q0 : SS) (rec_70 : SS → Int32 → Int32 → Int32 → Int32 → Int32 → Int32 → Int32 → Option (Int32 × SS)) (h_rec_70 : ∀ (a0 : SS) (a1 : Int32) (a2 : Int32) (a3 : Int32) (a4 : Int32) (a5 : Int32) (a6 : Int32) (a7 : Int32), Fr wK vK q0 a0 → KO q0 (rec_70 a0 a1 a2 a3 a4 a5 a6 a7) (fun r => r.2)) (rec_87 : SS → Int32 → Int32 → Int32 → Int32 → Int32 → Int32 → Int32 → Int32 → Option (Int32 × SS)) (h_rec_87 : ∀ (a0 : SS) (a1 : Int32) (a2 : Int32) (a3 : Int32) (a4 : Int32) (a5 : Int32) (a6 : Int32) (a7 : Int32) (a8 : Int32), Fr wK vK q0 a0 → KO q0 (rec_87 a0 a1 a2 a3 a4 a5 a6 a7 a8) (fun r => r.2)) (q : SS) (l3 : Int32) (l4 : Int32) (l5 : Int32) (l6 : Int32) (l8 : Int32) (l9 : Int32) (l10 : Int32) (s0 : Int32) (s1 : Int32) (h : Fr wK vK q0 q) : KO q0 (b_X11_drawn_120 rec_70 rec_87 q l3 l4 l5 l6 l8 l9 l10 s0 s1) (fun r => r.2) := by
  unfold b_X11_drawn_120
  exact (KO_nv (fun v11 => (h_rec_87 q l3 l4 l5 l6 v11 l8 l9 (l10 + (1 : Int32)) h)))
theorem k_b_X11_drawn_87 (q0 : SS) (rec_70 : SS → Int32 → Int32 → Int32 → Int32 → Int32 → Int32 → Int32 → Option (Int32 × SS)) (h_rec_70 : ∀ (a0 : SS) (a1 : Int32) (a2 : Int32) (a3 : Int32) (a4 : Int32) (a5 : Int32) (a6 : Int32) (a7 : Int32), Fr wK vK q0 a0 → KO q0 (rec_70 a0 a1 a2 a3 a4 a5 a6 a7) (fun r => r.2)) (x0 : SS) (x1 : Int32) (x2 : Int32) (x3 : Int32) (x4 : Int32) (x5 : Int32) (x6 : Int32) (x7 : Int32) (x8 : Int32) (h : Fr wK vK q0 x0) : KO q0 (b_X11_drawn_87 rec_70 x0 x1 x2 x3 x4 x5 x6 x7 x8) (fun r => r.2) := by
  unfold b_X11_drawn_87
  refine KO_fx9 (fun rec_87 h_rec_87 q l3 l4 l5 l6 l7 l8 l9 l10 h => ?_) FU x0 x1 x2 x3 x4 x5 x6 x7 x8 h
  exact (KO_i (KO_bp (fun r5 => (KO_bp (fun r6 => (KO_i (k_b_X11_drawn_156 q0 rec_70 h_rec_70 q l3 l4 l5 r5 l7 l9 (1 : Int32) l8 h) (k_b_X11_drawn_156 q0 rec_70 h_rec_70 q l3 l4 l5 r5 l7 l9 (0 : Int32) l8 h)))))) (KO_bp (fun r9 => (KO_b (k_f_X8_slipDrawn q0 q r9 h) (fun r10 h_r10 => (KO_i (k_b_X11_drawn_120 q0 rec_70 h_rec_70 rec_87 h_rec_87 r10.2 l3 l4 l5 r9 l8 l9 l10 (0 : Int32) l7 h_r10) (k_b_X11_drawn_120 q0 rec_70 h_rec_70 rec_87 h_rec_87 r10.2 l3 l4 l5 r9 l8 l9 l10 (1 : Int32) l7 h_r10)))))))
theorem k_b_X11_drawn_70 (q0 : SS)  (x0 : SS) (x1 : Int32) (x2 : Int32) (x3 : Int32) (x4 : Int32) (x5 : Int32) (x6 : Int32) (x7 : Int32) (h : Fr wK vK q0 x0) : KO q0 (b_X11_drawn_70 x0 x1 x2 x3 x4 x5 x6 x7) (fun r => r.2) := by
  unfold b_X11_drawn_70
  refine KO_fx8 (fun rec_70 h_rec_70 q l3 l4 l5 l6 l7 l8 l9 h => ?_) FU x0 x1 x2 x3 x4 x5 x6 x7 h
  exact (KO_i (KO_i (KO_some h) (KO_some h)) (KO_b (k_f_X8_begin q0 q h) (fun r4 h_r4 => (k_b_X11_drawn_87 q0 rec_70 h_rec_70 r4 l3 l4 l5 l6 l7 l8 l9 (0 : Int32) h_r4))))
theorem k_b_X11_drawn_58 (q0 : SS) (q : SS) (l1 : Int32) (l3 : Int32) (l4 : Int32) (l5 : Int32) (h : Fr wK vK q0 q) : KO q0 (b_X11_drawn_58 q l1 l3 l4 l5) (fun r => r.2) := by
  unfold b_X11_drawn_58
  exact (k_b_X11_drawn_70 q0 q l3 l4 l5 l1 (0 : Int32) (0 : Int32) (0 : Int32) h)
theorem k_f_X11_drawn (q0 : SS) (q : SS) (a1 : Int32) (a2 : Int32) (a3 : Int32) (h : Fr wK vK q0 q) : KO q0 (f_X11_drawn q a1 a2 a3) (fun r => r.2) := by
  unfold f_X11_drawn
  exact (KO_nv (fun v1 => (KO_nv (fun v2 => (KO_i (KO_some h) (KO_i (KO_some h) (KO_i (KO_some h) (KO_i (KO_i (k_b_X11_drawn_58 q0 q a1 a3 v1 v2 h) (KO_bp (fun r15 => (KO_i (KO_some h) (k_b_X11_drawn_58 q0 q a1 a3 v1 v2 h))))) (KO_some h)))))))))
theorem k_b_X12_worked_182 (q0 : SS) (rec_12 : SS → Int32 → Int32 → Int32 → Int32 → Option (Int32 × SS)) (h_rec_12 : ∀ (a0 : SS) (a1 : Int32) (a2 : Int32) (a3 : Int32) (a4 : Int32), Fr wK vK q0 a0 → KO q0 (rec_12 a0 a1 a2 a3 a4) (fun r => r.2)) (q : SS) (l1 : Int32) (l3 : Int32) (l4 : Int32) (l5 : Int32) (h : Fr wK vK q0 q) : KO q0 (b_X12_worked_182 rec_12 q l1 l3 l4 l5) (fun r => r.2) := by
  unfold b_X12_worked_182
  exact (h_rec_12 q l1 l3 l4 (l5 + (1 : Int32)) h)
theorem k_b_X12_worked_79 (q0 : SS) (rec_12 : SS → Int32 → Int32 → Int32 → Int32 → Option (Int32 × SS)) (h_rec_12 : ∀ (a0 : SS) (a1 : Int32) (a2 : Int32) (a3 : Int32) (a4 : Int32), Fr wK vK q0 a0 → KO q0 (rec_12 a0 a1 a2 a3 a4) (fun r => r.2)) (q : SS) (l1 : Int32) (l3 : Int32) (l4 : Int32) (l5 : Int32) (s0 : Int32) (s1 : Int32) (h : Fr wK vK q0 q) : KO q0 (b_X12_worked_79 rec_12 q l1 l3 l4 l5 s0 s1) (fun r => r.2) := by
  unfold b_X12_worked_79
  exact (KO_ic (fun c0 => (KO_ns (Fr_sI h rfl) (fun q3 h_q3 => (k_b_X12_worked_182 q0 rec_12 h_rec_12 q3 l1 l3 (l4 + (1 : Int32)) l5 h_q3)))) KO_none)
theorem k_b_X12_worked_45 (q0 : SS) (rec_12 : SS → Int32 → Int32 → Int32 → Int32 → Option (Int32 × SS)) (h_rec_12 : ∀ (a0 : SS) (a1 : Int32) (a2 : Int32) (a3 : Int32) (a4 : Int32), Fr wK vK q0 a0 → KO q0 (rec_12 a0 a1 a2 a3 a4) (fun r => r.2)) (q : SS) (l1 : Int32) (l3 : Int32) (l4 : Int32) (l5 : Int32) (l6 : Int32) (h : Fr wK vK q0 q) : KO q0 (b_X12_worked_45 rec_12 q l1 l3 l4 l5 l6) (fun r => r.2) := by
  unfold b_X12_worked_45
  exact (KO_i (KO_ic (fun c0 => (k_b_X12_worked_79 q0 rec_12 h_rec_12 q l1 l3 l4 l5 (q.1 75 l5.toNatClampNeg) l4 h)) KO_none) (KO_ic (fun c1 => (KO_i (k_b_X12_worked_79 q0 rec_12 h_rec_12 q l1 l3 l4 l5 (q.1 79 (q.1 75 l5.toNatClampNeg).toNatClampNeg) l4 h) KO_none)) KO_none))
theorem k_b_X12_worked_117 (q0 : SS) (rec_12 : SS → Int32 → Int32 → Int32 → Int32 → Option (Int32 × SS)) (h_rec_12 : ∀ (a0 : SS) (a1 : Int32) (a2 : Int32) (a3 : Int32) (a4 : Int32), Fr wK vK q0 a0 → KO q0 (rec_12 a0 a1 a2 a3 a4) (fun r => r.2)) (q : SS) (l1 : Int32) (l3 : Int32) (l4 : Int32) (l5 : Int32) (s0 : Int32) (s1 : Int32) (h : Fr wK vK q0 q) : KO q0 (b_X12_worked_117 rec_12 q l1 l3 l4 l5 s0 s1) (fun r => r.2) := by
  unfold b_X12_worked_117
  exact (KO_ic (fun c0 => (KO_ns (Fr_sI h rfl) (fun q5 h_q5 => (k_b_X12_worked_182 q0 rec_12 h_rec_12 q5 l1 l3 l4 l5 h_q5)))) KO_none)
theorem k_b_X12_worked_12 (q0 : SS)  (x0 : SS) (x1 : Int32) (x2 : Int32) (x3 : Int32) (x4 : Int32) (h : Fr wK vK q0 x0) : KO q0 (b_X12_worked_12 x0 x1 x2 x3 x4) (fun r => r.2) := by
  unfold b_X12_worked_12
  refine KO_fx5 (fun rec_12 h_rec_12 q l1 l3 l4 l5 h => ?_) FU x0 x1 x2 x3 x4 h
  exact (KO_i (KO_i (KO_some h) KO_none) (KO_ic (fun c0 => (KO_nv (fun v2 => (KO_i (k_b_X12_worked_45 q0 rec_12 h_rec_12 q l1 l3 l4 l5 v2 h) (KO_i (k_b_X12_worked_45 q0 rec_12 h_rec_12 q l1 l3 l4 l5 v2 h) (KO_i (KO_i (KO_i (k_b_X12_worked_117 q0 rec_12 h_rec_12 q l1 l3 l4 l5 (1 : Int32) (l4 - (1 : Int32)) h) (k_b_X12_worked_117 q0 rec_12 h_rec_12 q l1 l3 l4 l5 (0 : Int32) (l4 - (1 : Int32)) h)) KO_none) (KO_i (KO_i (KO_i (KO_ns (Fr_sI h rfl) (fun q7 h_q7 => (k_b_X12_worked_182 q0 rec_12 h_rec_12 q7 l1 l3 l4 l5 h_q7))) KO_none) KO_none) (KO_i (KO_i (KO_bp (fun r8 => (KO_i (KO_ns (Fr_sI h rfl) (fun q9 h_q9 => (k_b_X12_worked_182 q0 rec_12 h_rec_12 q9 l1 l3 (l4 + (-1 : Int32)) l5 h_q9))) KO_none))) KO_none) KO_none)))))))) KO_none))
theorem k_f_X12_worked (q0 : SS) (q : SS) (a1 : Int32) (a2 : Int32) (a3 : Int32) (h : Fr wK vK q0 q) : KO q0 (f_X12_worked q a1 a2 a3) (fun r => r.2) := by
  unfold f_X12_worked
  exact (KO_nv (fun v1 => (k_b_X12_worked_12 q0 q a1 a3 (0 : Int32) v1 h)))
theorem k_b_X12_gives_47 (q0 : SS) (q : SS) (l1 : Int32) (l3 : Int32) (h : Fr wK vK q0 q) : KO q0 (b_X12_gives_47 q l1 l3) (fun r => r.2) := by
  unfold b_X12_gives_47
  exact (KO_ic (fun c0 => (KO_ic (fun c1 => (KO_b (k_f_X12_worked q0 q l1 (q.1 77 l3.toNatClampNeg) (q.1 78 l3.toNatClampNeg) h) (fun r2 h_r2 => (KO_some h_r2)))) KO_none)) KO_none)
theorem k_b_X12_gives_7 (q0 : SS)  (x0 : SS) (x1 : Int32) (x2 : Int32) (x3 : Int32) (h : Fr wK vK q0 x0) : KO q0 (b_X12_gives_7 x0 x1 x2 x3) (fun r => r.2) := by
  unfold b_X12_gives_7
  refine KO_fx4 (fun rec_7 h_rec_7 q l1 l2 l3 h => ?_) FU x0 x1 x2 x3 h
  exact (KO_ic (fun c0 => (KO_i (KO_some h) (KO_ic (fun c1 => (KO_i (k_b_X12_gives_47 q0 q l1 l3 h) (KO_ic (fun c2 => (KO_b (k_f_X12_worked q0 q l1 l2 (q.1 77 l3.toNatClampNeg) h) (fun r3 h_r3 => (KO_i (KO_ic (fun c3 => (KO_nv (fun v4 => (h_rec_7 r3.2 l1 v4 (l3 + (1 : Int32)) h_r3)))) KO_none) (k_b_X12_gives_47 q0 r3.2 l1 l3 h_r3))))) KO_none))) KO_none))) KO_none)
theorem k_f_X12_gives (q0 : SS) (q : SS) (a1 : Int32) (h : Fr wK vK q0 q) : KO q0 (f_X12_gives q a1) (fun r => r.2) := by
  unfold f_X12_gives
  exact (KO_nv (fun v1 => (k_b_X12_gives_7 q0 q a1 (0 : Int32) v1 h)))
theorem k_b_X12_oddsOf_115 (q0 : SS) (q : SS) (l3 : Int32) (h : Fr wK vK q0 q) : KO q0 (b_X12_oddsOf_115 q l3) (fun r => r.2) := by
  unfold b_X12_oddsOf_115
  exact (KO_i (KO_i (KO_some h) (KO_some h)) (KO_some h))
theorem k_f_X12_oddsOf (q0 : SS) (q : SS) (a1 : Int32) (a2 : Int32) (h : Fr wK vK q0 q) : KO q0 (f_X12_oddsOf q a1 a2) (fun r => r.2) := by
  unfold f_X12_oddsOf
  exact (KO_bp (fun r1 => (KO_i (KO_some h) (KO_ic (fun c0 => (KO_i (KO_nv (fun v2 => (KO_i (k_b_X12_oddsOf_115 q0 q v2 h) (KO_ic (fun c1 => (KO_i (KO_ns (Fr_sI h rfl) (fun q5 h_q5 => (KO_ic (fun c2 => (KO_i (KO_i (KO_ns (Fr_sI h_q5 rfl) (fun q6 h_q6 => (KO_bp (fun r7 => (KO_i (KO_ns (Fr_sI h_q6 rfl) (fun q8 h_q8 => (KO_ic (fun c3 => (KO_i (KO_ns (Fr_sI h_q8 rfl) (fun q9 h_q9 => (KO_i (KO_ns (Fr_sI h_q9 rfl) (fun q10 h_q10 => (KO_i (KO_i (KO_ns (Fr_sI h_q10 rfl) (fun q11 h_q11 => (KO_b (k_f_X12_gives q0 q11 (0 : Int32) h_q11) (fun r12 h_r12 => (k_b_X12_oddsOf_115 q0 r12.2 r12.1 h_r12))))) KO_none) KO_none))) KO_none))) KO_none)) KO_none))) KO_none))))) KO_none) KO_none)) KO_none))) KO_none)) KO_none)))) KO_none)) KO_none))))
theorem k_b_X12_drawn_232 (q0 : SS) (q : SS) (l3 : Int32) (l5 : Int32) (l6 : Int32) (h : Fr wK vK q0 q) : KO q0 (b_X12_drawn_232 q l3 l5 l6) (fun r => r.2) := by
  unfold b_X12_drawn_232
  exact (KO_i (KO_some h) (KO_some h))
theorem k_b_X12_drawn_226 (q0 : SS) (rec_58 : SS → Int32 → Int32 → Int32 → Int32 → Int32 → Int32 → Option (Int32 × SS)) (h_rec_58 : ∀ (a0 : SS) (a1 : Int32) (a2 : Int32) (a3 : Int32) (a4 : Int32) (a5 : Int32) (a6 : Int32), Fr wK vK q0 a0 → KO q0 (rec_58 a0 a1 a2 a3 a4 a5 a6) (fun r => r.2)) (q : SS) (l2 : Int32) (l3 : Int32) (l4 : Int32) (l5 : Int32) (l6 : Int32) (l7 : Int32) (h : Fr wK vK q0 q) : KO q0 (b_X12_drawn_226 rec_58 q l2 l3 l4 l5 l6 l7) (fun r => r.2) := by
  unfold b_X12_drawn_226
  exact (h_rec_58 q l2 l3 l4 l5 l6 (l7 + (1 : Int32)) h)
theorem k_b_X12_drawn_171 (q0 : SS) (rec_58 : SS → Int32 → Int32 → Int32 → Int32 → Int32 → Int32 → Option (Int32 × SS)) (h_rec_58 : ∀ (a0 : SS) (a1 : Int32) (a2 : Int32) (a3 : Int32) (a4 : Int32) (a5 : Int32) (a6 : Int32), Fr wK vK q0 a0 → KO q0 (rec_58 a0 a1 a2 a3 a4 a5 a6) (fun r => r.2)) (rec_81 : SS → Int32 → Int32 → Int32 → Int32 → Int32 → Int32 → Int32 → Option (Int32 × SS)) (h_rec_81 : ∀ (a0 : SS) (a1 : Int32) (a2 : Int32) (a3 : Int32) (a4 : Int32) (a5 : Int32) (a6 : Int32) (a7 : Int32), Fr wK vK q0 a0 → KO q0 (rec_81 a0 a1 a2 a3 a4 a5 a6 a7) (fun r => r.2)) (q : SS) (l2 : Int32) (l3 : Int32) (l4 : Int32) (l5 : Int32) (l6 : Int32) (l7 : Int32) (l8 : Int32) (h : Fr wK vK q0 q) : KO q0 (b_X12_drawn_171 rec_58 rec_81 q l2 l3 l4 l5 l6 l7 l8) (fun r => r.2) := by
  unfold b_X12_drawn_171
  exact (h_rec_81 q l2 l3 l4 l5 l6 l7 (l8 + (1 : Int32)) h)
theorem k_b_X12_drawn_81 (q0 : SS) (rec_58 : SS → Int32 → Int32 → Int32 → Int32 → Int32 → Int32 → Option (Int32 × SS)) (h_rec_58 : ∀ (a0 : SS) (a1 : Int32) (a2 : Int32) (a3 : Int32) (a4 : Int32) (a5 : Int32) (a6 : Int32), Fr wK vK q0 a0 → KO q0 (rec_58 a0 a1 a2 a3 a4 a5 a6) (fun r => r.2)) (x0 : SS) (x1 : Int32) (x2 : Int32) (x3 : Int32) (x4 : Int32) (x5 : Int32) (x6 : Int32) (x7 : Int32) (h : Fr wK vK q0 x0) : KO q0 (b_X12_drawn_81 rec_58 x0 x1 x2 x3 x4 x5 x6 x7) (fun r => r.2) := by
  unfold b_X12_drawn_81
  refine KO_fx8 (fun rec_81 h_rec_81 q l2 l3 l4 l5 l6 l7 l8 h => ?_) FU x0 x1 x2 x3 x4 x5 x6 x7 h
  exact (KO_i (KO_nv (fun v6 => (KO_i (k_b_X12_drawn_226 q0 rec_58 h_rec_58 q l2 l3 v6 l5 l6 l7 h) (KO_bp (fun r7 => (KO_i (k_b_X12_drawn_226 q0 rec_58 h_rec_58 q l2 l3 v6 l5 l6 l7 h) (KO_bp (fun r8 => (KO_i KO_none (KO_bp (fun r9 => (KO_ic (fun c0 => (KO_i (k_b_X12_drawn_226 q0 rec_58 h_rec_58 q l2 l3 v6 (l5 + (1 : Int32)) l6 l7 h) (k_b_X12_drawn_226 q0 rec_58 h_rec_58 q l2 l3 v6 l5 l6 l7 h))) KO_none)))))))))))) (KO_nv (fun v13 => (KO_i KO_none (KO_nv (fun v14 => (KO_i KO_none (KO_nv (fun v15 => (KO_bp (fun r16 => (KO_i (k_b_X12_drawn_171 q0 rec_58 h_rec_58 rec_81 h_rec_81 q l2 l3 v13 l5 l6 l7 l8 h) (KO_b (k_f_X12_oddsOf q0 q v14 v15 h) (fun r17 h_r17 => (KO_i (KO_ic (fun c1 => (KO_ns (Fr_sI h_r17 rfl) (fun q18 h_q18 => (k_b_X12_drawn_171 q0 rec_58 h_rec_58 rec_81 h_rec_81 q18 l2 l3 v13 l5 (l6 + (1 : Int32)) l7 l8 h_q18)))) KO_none) (k_b_X12_drawn_171 q0 rec_58 h_rec_58 rec_81 h_rec_81 r17.2 l2 l3 v13 l5 l6 l7 l8 h_r17))))))))))))))))
theorem k_b_X12_drawn_58 (q0 : SS)  (x0 : SS) (x1 : Int32) (x2 : Int32) (x3 : Int32) (x4 : Int32) (x5 : Int32) (x6 : Int32) (h : Fr wK vK q0 x0) : KO q0 (b_X12_drawn_58 x0 x1 x2 x3 x4 x5 x6) (fun r => r.2) := by
  unfold b_X12_drawn_58
  refine KO_fx7 (fun rec_58 h_rec_58 q l2 l3 l4 l5 l6 l7 h => ?_) FU x0 x1 x2 x3 x4 x5 x6 h
  exact (KO_i (k_b_X12_drawn_232 q0 q l3 l5 l6 h) (KO_i (k_b_X12_drawn_232 q0 q l3 l5 l6 h) (KO_b (k_f_X12_layNow q0 q h) (fun r5 h_r5 => (k_b_X12_drawn_81 q0 rec_58 h_rec_58 r5 l2 l3 l4 l5 l6 l7 (0 : Int32) h_r5)))))
theorem k_f_X12_drawn (q0 : SS) (q : SS) (a1 : Int32) (a2 : Int32) (a3 : Int32) (h : Fr wK vK q0 q) : KO q0 (f_X12_drawn q a1 a2 a3) (fun r => r.2) := by
  unfold f_X12_drawn
  exact (KO_i (KO_some h) (KO_bp (fun r1 => (KO_i (KO_some h) (KO_bp (fun r2 => (KO_i (KO_some h) (KO_bp (fun r3 => (KO_i (KO_some h) (k_b_X12_drawn_58 q0 q a2 a3 a1 (0 : Int32) (0 : Int32) (0 : Int32) h)))))))))))
theorem k_b_X2_begin_26 (q0 : SS)  (x0 : SS) (x1 : Int32) (x2 : Int32) (x3 : Int32) (h : Fr wK vK q0 x0) : KO q0 (b_X2_begin_26 x0 x1 x2 x3) (fun r => r) := by
  unfold b_X2_begin_26
  refine KO_fx4 (fun rec_26 h_rec_26 q l2 l3 l4 h => ?_) FU x0 x1 x2 x3 h
  exact (KO_i (KO_some h) (KO_bp (fun r5 => (KO_nv (fun v6 => (KO_bp (fun r7 => (KO_i (KO_some h) (KO_ic (fun c0 => (KO_ns (Fr_sI h rfl) (fun q8 h_q8 => (KO_ns (Fr_sI h_q8 rfl) (fun q9 h_q9 => (h_rec_26 q9 l2 l3 (l4 + (1 : Int32)) h_q9)))))) KO_none)))))))))
theorem k_f_X2_begin (q0 : SS) (q : SS) (a2 : Int32) (h : Fr wK vK q0 q) : KO q0 (f_X2_begin q a2) (fun r => r) := by
  unfold f_X2_begin
  exact (KO_b (k_f_X8_begin q0 q h) (fun r1 h_r1 => (KO_bp (fun r2 => (KO_nv (fun v3 => (KO_ns (Fr_sI h_r1 rfl) (fun q4 h_q4 => (k_b_X2_begin_26 q0 q4 a2 v3 (0 : Int32) h_q4)))))))))
theorem k_b_X9_arrive_100 (q0 : SS) (q : SS) (l1 : Int32) (h : Fr wK vK q0 q) : KO q0 (b_X9_arrive_100 q l1) (fun r => r) := by
  unfold b_X9_arrive_100
  exact (KO_ns (Fr_sI h rfl) (fun q7 h_q7 => (KO_ns (Fr_sI h_q7 rfl) (fun q8 h_q8 => (KO_some h_q8)))))
theorem k_b_X9_arrive_90 (q0 : SS) (q : SS) (l1 : Int32) (l2 : Int64) (h : Fr wK vK q0 q) : KO q0 (b_X9_arrive_90 q l1 l2) (fun r => r) := by
  unfold b_X9_arrive_90
  exact (KO_ns (Fr_sL h rfl) (fun q5 h_q5 => (KO_ns (Fr_sI h_q5 rfl) (fun q6 h_q6 => (k_b_X9_arrive_100 q0 q6 l1 h_q6)))))
theorem k_b_X9_arrive_58 (q0 : SS) (q : SS) (l1 : Int32) (l2 : Int64) (h : Fr wK vK q0 q) : KO q0 (b_X9_arrive_58 q l1 l2) (fun r => r) := by
  unfold b_X9_arrive_58
  exact (KO_i (k_b_X9_arrive_90 q0 q l1 l2 h) (KO_i (k_b_X9_arrive_100 q0 q l1 h) (KO_i (KO_i (k_b_X9_arrive_100 q0 q l1 h) (k_b_X9_arrive_90 q0 q l1 l2 h)) (k_b_X9_arrive_100 q0 q l1 h))))
theorem k_b_X9_arrive_47 (q0 : SS) (q : SS) (l1 : Int32) (l2 : Int64) (l4 : Int32) (h : Fr wK vK q0 q) : KO q0 (b_X9_arrive_47 q l1 l2 l4) (fun r => r) := by
  unfold b_X9_arrive_47
  exact (KO_ns (Fr_sI h rfl) (fun q3 h_q3 => (KO_ns (Fr_sI h_q3 rfl) (fun q4 h_q4 => (k_b_X9_arrive_58 q0 q4 l1 l2 h_q4)))))
theorem k_f_X9_arrive (q0 : SS) (q : SS) (a1 : Int32) (a2 : Int64) (h : Fr wK vK q0 q) : KO q0 (f_X9_arrive q a1 a2) (fun r => r) := by
  unfold f_X9_arrive
  exact (KO_bp (fun r1 => (KO_i (KO_some h) (KO_bp (fun r2 => (KO_i (k_b_X9_arrive_47 q0 q a1 a2 r2 h) (KO_i (k_b_X9_arrive_47 q0 q a1 a2 r2 h) (KO_i (KO_i (k_b_X9_arrive_58 q0 q a1 a2 h) (k_b_X9_arrive_47 q0 q a1 a2 r2 h)) (k_b_X9_arrive_58 q0 q a1 a2 h)))))))))
theorem k_b_X9_oddsAt_99 (q0 : SS) (q : SS) (l6 : Int32) (h : Fr wK vK q0 q) : KO q0 (b_X9_oddsAt_99 q l6) (fun r => r.2) := by
  unfold b_X9_oddsAt_99
  exact (KO_ic (fun c0 => (KO_some h)) KO_none)
theorem k_f_X9_oddsAt (q0 : SS) (q : SS) (a1 : Int32) (a2 : Int32) (a3 : Int32) (h : Fr wK vK q0 q) : KO q0 (f_X9_oddsAt q a1 a2 a3) (fun r => r.2) := by
  unfold f_X9_oddsAt
  exact (KO_bp (fun r1 => (KO_bp (fun r2 => (KO_nv (fun v3 => (KO_i (KO_some h) (KO_i (KO_ic (fun c0 => (KO_i (KO_bp (fun r4 => (KO_bp (fun r5 => (KO_b (k_f_X8_oddsBy q0 q r1 a3 r2 r4 r5 h) (fun r6 h_r6 => (KO_ic (fun c1 => (KO_ns (Fr_sI h_r6 rfl) (fun q7 h_q7 => (k_b_X9_oddsAt_99 q0 q7 v3 h_q7)))) KO_none))))))) (k_b_X9_oddsAt_99 q0 q v3 h))) KO_none) (KO_some h)))))))))
def KG_X9_spread (q0 : SS) (r : GT_X9_spread) : Prop := (∀ (a0 : SS) (a1 : Int32) (a2 : Int32) (a3 : Int64), Fr wK vK q0 a0 → KO q0 (r a0 a1 a2 a3) (fun r => r))
theorem k_b_X9_spread_90 (q0 : SS) (r : GT_X9_spread) (hr : KG_X9_spread q0 r) (q : SS) (l1 : Int32) (l2 : Int32) (l3 : Int64) (l6 : Int32) (l7 : Int32) (s0 : Int32) (h : Fr wK vK q0 q) : KO q0 (b_X9_spread_90 r q l1 l2 l3 l6 l7 s0) (fun r => r) := by
  unfold b_X9_spread_90
  exact (KO_bp (fun r6 => (KO_b (hr q (l1 + (1 : Int32)) l2 ((((12 : Int32) - s0).toInt64) * l3) h) (fun r7 h_r7 => (KO_b (k_f_X8_give q0 r7 l6 l7 h_r7) (fun r8 h_r8 => (KO_b (hr r8 (l1 + (1 : Int32)) (l2 ||| (jshl (1 : Int32) l1)) ((s0.toInt64) * l3) h_r8) (fun r9 h_r9 => (KO_b (k_f_X8_give q0 r9 l6 r6 h_r9) (fun r10 h_r10 => (KO_some h_r10)))))))))))
theorem k_fb_X9_spread (q0 : SS) (r : GT_X9_spread) (hr : KG_X9_spread q0 r) (q : SS) (a1 : Int32) (a2 : Int32) (a3 : Int64) (h : Fr wK vK q0 q) : KO q0 (fb_X9_spread r q a1 a2 a3) (fun r => r) := by
  unfold fb_X9_spread
  exact (KO_bp (fun r1 => (KO_i (KO_bp (fun r2 => (KO_bp (fun r3 => (KO_bp (fun r4 => (KO_i (KO_b (hr q (a1 + (1 : Int32)) a2 ((12 : Int64) * a3) h) (fun r5 h_r5 => (KO_some h_r5))) (KO_i (k_b_X9_spread_90 q0 r hr q a1 a2 a3 r2 r3 (0 : Int32) h) (KO_b (k_f_X9_oddsAt q0 q a1 r2 r3 h) (fun r11 h_r11 => (k_b_X9_spread_90 q0 r hr r11.2 a1 a2 a3 r2 r3 r11.1 h_r11))))))))))) (KO_b (k_f_X9_arrive q0 q a2 a3 h) (fun r14 h_r14 => (KO_some h_r14))))))
theorem kg_X9_spread (q0 : SS) : ∀ n, KG_X9_spread q0 (g_X9_spread n)
  | 0 => (fun _ _ _ _ _ => KO_none)
  | n + 1 => (fun a0 a1 a2 a3 h => k_fb_X9_spread q0 (g_X9_spread n) (kg_X9_spread q0 n) a0 a1 a2 a3 h)
theorem k_f_X9_spread (q0 : SS) (x0 : SS) (x1 : Int32) (x2 : Int32) (x3 : Int64) (h : Fr wK vK q0 x0) : KO q0 (f_X9_spread x0 x1 x2 x3) (fun r => r) := kg_X9_spread q0 60 x0 x1 x2 x3 h
theorem k_b_X9_goThrough_76 (q0 : SS) (q : SS) (l3 : Int32) (h : Fr wK vK q0 q) : KO q0 (b_X9_goThrough_76 q l3) (fun r => r) := by
  unfold b_X9_goThrough_76
  exact (KO_i (KO_ns (Fr_sI h rfl) (fun q1 h_q1 => (KO_ns (Fr_sI h_q1 rfl) (fun q2 h_q2 => (KO_ns (Fr_sI h_q2 rfl) (fun q3 h_q3 => (KO_ns (Fr_sI h_q3 rfl) (fun q4 h_q4 => (KO_ns (Fr_sI h_q4 rfl) (fun q5 h_q5 => (KO_ns (Fr_sL h_q5 rfl) (fun q6 h_q6 => (KO_ns (Fr_sI h_q6 rfl) (fun q7 h_q7 => (KO_b (k_f_X9_spread q0 q7 (0 : Int32) (0 : Int32) (1 : Int64) h_q7) (fun r8 h_r8 => (KO_some h_r8))))))))))))))))) KO_none)
theorem k_b_X9_goThrough_48 (q0 : SS)  (x0 : SS) (x1 : Int32) (x2 : Int32) (h : Fr wK vK q0 x0) : KO q0 (b_X9_goThrough_48 x0 x1 x2) (fun r => r) := by
  unfold b_X9_goThrough_48
  refine KO_fx3 (fun rec_48 h_rec_48 q l3 l4 h => ?_) FU x0 x1 x2 h
  exact (KO_i (k_b_X9_goThrough_76 q0 q l3 h) (KO_i (k_b_X9_goThrough_76 q0 q l3 h) (KO_ic (fun c0 => (KO_ns (Fr_sI h rfl) (fun q9 h_q9 => (h_rec_48 q9 l3 (l4 + (1 : Int32)) h_q9)))) KO_none)))
theorem k_b_X9_goThrough_38 (q0 : SS) (rec_3 : SS → Int32 → Int32 → Int32 → Option SS) (h_rec_3 : ∀ (a0 : SS) (a1 : Int32) (a2 : Int32) (a3 : Int32), Fr wK vK q0 a0 → KO q0 (rec_3 a0 a1 a2 a3) (fun r => r)) (q : SS) (l2 : Int32) (l3 : Int32) (l4 : Int32) (s0 : Int32) (s1 : Int32) (h : Fr wK vK q0 q) : KO q0 (b_X9_goThrough_38 rec_3 q l2 l3 l4 s0 s1) (fun r => r) := by
  unfold b_X9_goThrough_38
  exact (KO_ic (fun c0 => (KO_ns (Fr_sI h rfl) (fun q13 h_q13 => (h_rec_3 q13 l2 l3 (l4 + (1 : Int32)) h_q13)))) KO_none)
theorem k_b_X9_goThrough_3 (q0 : SS)  (x0 : SS) (x1 : Int32) (x2 : Int32) (x3 : Int32) (h : Fr wK vK q0 x0) : KO q0 (b_X9_goThrough_3 x0 x1 x2 x3) (fun r => r) := by
  unfold b_X9_goThrough_3
  refine KO_fx4 (fun rec_3 h_rec_3 q l2 l3 l4 h => ?_) FU x0 x1 x2 x3 h
  exact (KO_i (k_b_X9_goThrough_48 q0 q l3 (0 : Int32) h) (KO_bp (fun r12 => (KO_i (k_b_X9_goThrough_38 q0 rec_3 h_rec_3 q l2 l3 l4 (-1 : Int32) l4 h) (KO_bp (fun r14 => (k_b_X9_goThrough_38 q0 rec_3 h_rec_3 q l2 l3 l4 (r14.toInt32) l4 h)))))))
theorem k_f_X9_goThrough (q0 : SS) (q : SS) (a2 : Int32) (a3 : Int32) (h : Fr wK vK q0 q) : KO q0 (f_X9_goThrough q a2 a3) (fun r => r) := by
  unfold f_X9_goThrough
  exact (k_b_X9_goThrough_3 q0 q a2 a3 (0 : Int32) h)
theorem k_b_X11_behind_114 (q0 : SS) (q : SS) (l3 : Int32) (s0 : Int32) (s1 : Int32) (h : Fr wK vK q0 q) : KO q0 (b_X11_behind_114 q l3 s0 s1) (fun r => r.2) := by
  unfold b_X11_behind_114
  exact (KO_b (k_f_X9_goThrough q0 q s1 s0 h) (fun r8 h_r8 => (KO_sw (KO_bp (fun r10 => (KO_some h_r8))) (KO_sw (KO_bp (fun r12 => (KO_some h_r8))) (KO_sw (KO_bp (fun r14 => (KO_some h_r8))) (KO_sw (KO_bp (fun r16 => (KO_some h_r8))) (KO_s0 (KO_bp (fun r17 => (KO_some h_r8))))))))))
theorem k_f_X11_behind (q0 : SS) (q : SS) (a1 : Int32) (a2 : Int32) (a3 : Int32) (h : Fr wK vK q0 q) : KO q0 (f_X11_behind q a1 a2 a3) (fun r => r.2) := by
  unfold f_X11_behind
  exact (KO_bp (fun r1 => (KO_i (KO_some h) (KO_bp (fun r2 => (KO_i (KO_some h) (KO_i (KO_some h) (KO_i (KO_bp (fun r3 => (KO_i (KO_bp (fun r4 => (KO_i (KO_bp (fun r5 => (KO_i (KO_bp (fun r6 => (KO_i (KO_b (k_f_X2_begin q0 q a1 h) (fun r7 h_r7 => (KO_i (k_b_X11_behind_114 q0 r7 a3 (1 : Int32) a2 h_r7) (k_b_X11_behind_114 q0 r7 a3 (0 : Int32) a2 h_r7)))) (KO_some h)))) (KO_some h)))) (KO_some h)))) (KO_some h)))) (KO_some h)))))))))
theorem k_b_X12_meetWay_102 (q0 : SS) (q : SS) (l1 : Int32) (l2 : Int64) (h : Fr wK vK q0 q) : KO q0 (b_X12_meetWay_102 q l1 l2) (fun r => r) := by
  unfold b_X12_meetWay_102
  exact (KO_ns (Fr_sL h rfl) (fun q6 h_q6 => (KO_ns (Fr_sI h_q6 rfl) (fun q7 h_q7 => (KO_some h_q7)))))
theorem k_b_X12_meetWay_70 (q0 : SS) (q : SS) (l1 : Int32) (l2 : Int64) (h : Fr wK vK q0 q) : KO q0 (b_X12_meetWay_70 q l1 l2) (fun r => r) := by
  unfold b_X12_meetWay_70
  exact (KO_i (k_b_X12_meetWay_102 q0 q l1 l2 h) (KO_i (KO_i (KO_some h) (KO_i (KO_some h) (k_b_X12_meetWay_102 q0 q l1 l2 h))) (KO_some h)))
theorem k_b_X12_meetWay_59 (q0 : SS) (q : SS) (l1 : Int32) (l2 : Int64) (l4 : Int32) (h : Fr wK vK q0 q) : KO q0 (b_X12_meetWay_59 q l1 l2 l4) (fun r => r) := by
  unfold b_X12_meetWay_59
  exact (KO_ns (Fr_sI h rfl) (fun q4 h_q4 => (KO_ns (Fr_sI h_q4 rfl) (fun q5 h_q5 => (k_b_X12_meetWay_70 q0 q5 l1 l2 h_q5)))))
theorem k_f_X12_meetWay (q0 : SS) (q : SS) (a1 : Int32) (a2 : Int64) (h : Fr wK vK q0 q) : KO q0 (f_X12_meetWay q a1 a2) (fun r => r) := by
  unfold f_X12_meetWay
  exact (KO_ns (Fr_sI h rfl) (fun q1 h_q1 => (KO_ns (Fr_sI h_q1 rfl) (fun q2 h_q2 => (KO_bp (fun r3 => (KO_i (k_b_X12_meetWay_59 q0 q2 a1 a2 r3 h_q2) (KO_i (k_b_X12_meetWay_59 q0 q2 a1 a2 r3 h_q2) (KO_i (KO_i (k_b_X12_meetWay_70 q0 q2 a1 a2 h_q2) (k_b_X12_meetWay_59 q0 q2 a1 a2 r3 h_q2)) (k_b_X12_meetWay_70 q0 q2 a1 a2 h_q2))))))))))
def KG_X12_goBehind (q0 : SS) (r : GT_X12_goBehind) : Prop := (∀ (a0 : SS) (a1 : Int32) (a2 : Int32) (a3 : Int64), Fr wK vK q0 a0 → KO q0 (r a0 a1 a2 a3) (fun r => r))
theorem k_fb_X12_goBehind (q0 : SS) (r : GT_X12_goBehind) (hr : KG_X12_goBehind q0 r) (q : SS) (a1 : Int32) (a2 : Int32) (a3 : Int64) (h : Fr wK vK q0 q) : KO q0 (fb_X12_goBehind r q a1 a2 a3) (fun r => r) := by
  unfold fb_X12_goBehind
  exact (KO_i (KO_bp (fun r1 => (KO_i (KO_some h) (KO_b (k_f_X12_meetWay q0 q a2 a3 h) (fun r2 h_r2 => (KO_some h_r2)))))) (KO_bp (fun r4 => (KO_nv (fun v5 => (KO_bp (fun r6 => (KO_nv (fun v7 => (KO_bp (fun r8 => (KO_i (KO_b (hr q (a1 + (1 : Int32)) a2 (a3 * (12 : Int64)) h) (fun r9 h_r9 => (KO_some h_r9))) (KO_b (k_f_X12_oddsOf q0 q v5 v7 h) (fun r10 h_r10 => (KO_ic (fun c0 => (KO_nv (fun v11 => (KO_b (hr r10.2 (a1 + (1 : Int32)) a2 (a3 * (((12 : Int32) - r10.1).toInt64)) h_r10) (fun r12 h_r12 => (KO_ic (fun c1 => (KO_ns (Fr_sI h_r12 rfl) (fun q13 h_q13 => (KO_b (hr q13 (a1 + (1 : Int32)) (a2 ||| (jshl (1 : Int32) a1)) (a3 * (r10.1.toInt64)) h_q13) (fun r14 h_r14 => (KO_ic (fun c2 => (KO_ns (Fr_sI h_r14 rfl) (fun q15 h_q15 => (KO_some h_q15)))) KO_none)))))) KO_none)))))) KO_none)))))))))))))))
theorem kg_X12_goBehind (q0 : SS) : ∀ n, KG_X12_goBehind q0 (g_X12_goBehind n)
  | 0 => (fun _ _ _ _ _ => KO_none)
  | n + 1 => (fun a0 a1 a2 a3 h => k_fb_X12_goBehind q0 (g_X12_goBehind n) (kg_X12_goBehind q0 n) a0 a1 a2 a3 h)
theorem k_f_X12_goBehind (q0 : SS) (x0 : SS) (x1 : Int32) (x2 : Int32) (x3 : Int64) (h : Fr wK vK q0 x0) : KO q0 (f_X12_goBehind x0 x1 x2 x3) (fun r => r) := kg_X12_goBehind q0 60 x0 x1 x2 x3 h
theorem k_f_X12_behind (q0 : SS) (q : SS) (a1 : Int32) (a2 : Int32) (a3 : Int32) (h : Fr wK vK q0 q) : KO q0 (f_X12_behind q a1 a2 a3) (fun r => r.2) := by
  unfold f_X12_behind
  exact (KO_bp (fun r1 => (KO_i (KO_some h) (KO_bp (fun r2 => (KO_i (KO_some h) (KO_bp (fun r3 => (KO_i (KO_some h) (KO_bp (fun r4 => (KO_i (KO_bp (fun r5 => (KO_i (KO_ns (Fr_sI h rfl) (fun q6 h_q6 => (KO_ns (Fr_sI h_q6 rfl) (fun q7 h_q7 => (KO_bp (fun r8 => (KO_ns (Fr_sI h_q7 rfl) (fun q9 h_q9 => (KO_ns (Fr_sI h_q9 rfl) (fun q10 h_q10 => (KO_ns (Fr_sI h_q10 rfl) (fun q11 h_q11 => (KO_ns (Fr_sI h_q11 rfl) (fun q12 h_q12 => (KO_ns (Fr_sI h_q12 rfl) (fun q13 h_q13 => (KO_ns (Fr_sL h_q13 rfl) (fun q14 h_q14 => (KO_ns (Fr_sI h_q14 rfl) (fun q15 h_q15 => (KO_b (k_f_X12_layNow q0 q15 h_q15) (fun r16 h_r16 => (KO_b (k_f_X12_goBehind q0 r16 (0 : Int32) (0 : Int32) (1 : Int64) h_r16) (fun r17 h_r17 => (KO_sw (KO_some h_r17) (KO_sw (KO_some h_r17) (KO_sw (KO_some h_r17) (KO_sw (KO_i (KO_some h_r17) (KO_some h_r17)) (KO_s0 (KO_some h_r17)))))))))))))))))))))))))))))) (KO_bp (fun r24 => (KO_some h)))))) (KO_bp (fun r26 => (KO_some h)))))))))))))))
theorem k_b_X11_half_75 (q0 : SS) (rec_27 : SS → Int32 → Int32 → Int32 → Int32 → Option (Int32 × SS)) (h_rec_27 : ∀ (a0 : SS) (a1 : Int32) (a2 : Int32) (a3 : Int32) (a4 : Int32), Fr wK vK q0 a0 → KO q0 (rec_27 a0 a1 a2 a3 a4) (fun r => r.2)) (q : SS) (l2 : Int32) (l3 : Int32) (l4 : Int32) (l5 : Int32) (h : Fr wK vK q0 q) : KO q0 (b_X11_half_75 rec_27 q l2 l3 l4 l5) (fun r => r.2) := by
  unfold b_X11_half_75
  exact (h_rec_27 q l2 l3 l4 (l5 + (1 : Int32)) h)
theorem k_b_X11_half_27 (q0 : SS)  (x0 : SS) (x1 : Int32) (x2 : Int32) (x3 : Int32) (x4 : Int32) (h : Fr wK vK q0 x0) : KO q0 (b_X11_half_27 x0 x1 x2 x3 x4) (fun r => r.2) := by
  unfold b_X11_half_27
  refine KO_fx5 (fun rec_27 h_rec_27 q l2 l3 l4 l5 h => ?_) FU x0 x1 x2 x3 x4 h
  exact (KO_bp (fun r3 => (KO_i (KO_some h) (KO_bp (fun r4 => (KO_i (k_b_X11_half_75 q0 rec_27 h_rec_27 q l2 l3 l4 l5 h) (KO_bp (fun r5 => (KO_i (k_b_X11_half_75 q0 rec_27 h_rec_27 q l2 l3 l4 l5 h) (k_b_X11_half_75 q0 rec_27 h_rec_27 q l2 l5 r4 l5 h))))))))))
theorem k_f_X11_half (q0 : SS) (q : SS) (h : Fr wK vK q0 q) : KO q0 (f_X11_half q) (fun r => r.2) := by
  unfold f_X11_half
  exact (KO_b (k_f_X11_now q0 q h) (fun r1 h_r1 => (KO_bp (fun r2 => (KO_i (KO_some h_r1) (k_b_X11_half_27 q0 r1 r2 (-2 : Int32) (7 : Int32) (0 : Int32) h_r1))))))
theorem k_b_X12_half_95 (q0 : SS) (rec_14 : SS → Int32 → Int32 → Int32 → Option (Int32 × SS)) (h_rec_14 : ∀ (a0 : SS) (a1 : Int32) (a2 : Int32) (a3 : Int32), Fr wK vK q0 a0 → KO q0 (rec_14 a0 a1 a2 a3) (fun r => r.2)) (q : SS) (l1 : Int32) (l2 : Int32) (l3 : Int32) (h : Fr wK vK q0 q) : KO q0 (b_X12_half_95 rec_14 q l1 l2 l3) (fun r => r.2) := by
  unfold b_X12_half_95
  exact (h_rec_14 q l1 l2 (l3 + (1 : Int32)) h)
theorem k_b_X12_half_93 (q0 : SS) (rec_14 : SS → Int32 → Int32 → Int32 → Option (Int32 × SS)) (h_rec_14 : ∀ (a0 : SS) (a1 : Int32) (a2 : Int32) (a3 : Int32), Fr wK vK q0 a0 → KO q0 (rec_14 a0 a1 a2 a3) (fun r => r.2)) (q : SS) (l1 : Int32) (l3 : Int32) (h : Fr wK vK q0 q) : KO q0 (b_X12_half_93 rec_14 q l1 l3) (fun r => r.2) := by
  unfold b_X12_half_93
  exact (k_b_X12_half_95 q0 rec_14 h_rec_14 q l1 l3 l3 h)
theorem k_b_X12_half_64 (q0 : SS) (rec_14 : SS → Int32 → Int32 → Int32 → Option (Int32 × SS)) (h_rec_14 : ∀ (a0 : SS) (a1 : Int32) (a2 : Int32) (a3 : Int32), Fr wK vK q0 a0 → KO q0 (rec_14 a0 a1 a2 a3) (fun r => r.2)) (rec_34 : SS → Int32 → Int32 → Int32 → Int32 → Int32 → Option (Int32 × SS)) (h_rec_34 : ∀ (a0 : SS) (a1 : Int32) (a2 : Int32) (a3 : Int32) (a4 : Int32) (a5 : Int32), Fr wK vK q0 a0 → KO q0 (rec_34 a0 a1 a2 a3 a4 a5) (fun r => r.2)) (q : SS) (l1 : Int32) (l2 : Int32) (l3 : Int32) (l4 : Int32) (l5 : Int32) (h : Fr wK vK q0 q) : KO q0 (b_X12_half_64 rec_14 rec_34 q l1 l2 l3 l4 l5) (fun r => r.2) := by
  unfold b_X12_half_64
  exact (h_rec_34 q l1 l2 l3 l4 (l5 + (1 : Int32)) h)
theorem k_b_X12_half_34 (q0 : SS) (rec_14 : SS → Int32 → Int32 → Int32 → Option (Int32 × SS)) (h_rec_14 : ∀ (a0 : SS) (a1 : Int32) (a2 : Int32) (a3 : Int32), Fr wK vK q0 a0 → KO q0 (rec_14 a0 a1 a2 a3) (fun r => r.2)) (x0 : SS) (x1 : Int32) (x2 : Int32) (x3 : Int32) (x4 : Int32) (x5 : Int32) (h : Fr wK vK q0 x0) : KO q0 (b_X12_half_34 rec_14 x0 x1 x2 x3 x4 x5) (fun r => r.2) := by
  unfold b_X12_half_34
  refine KO_fx6 (fun rec_34 h_rec_34 q l1 l2 l3 l4 l5 h => ?_) FU x0 x1 x2 x3 x4 x5 h
  exact (KO_i (KO_i (k_b_X12_half_95 q0 rec_14 h_rec_14 q l1 l2 l3 h) (KO_i (k_b_X12_half_93 q0 rec_14 h_rec_14 q l1 l3 h) (KO_bp (fun r3 => (KO_bp (fun r4 => (KO_i (k_b_X12_half_95 q0 rec_14 h_rec_14 q l1 l2 l3 h) (k_b_X12_half_93 q0 rec_14 h_rec_14 q l1 l3 h)))))))) (KO_i (KO_bp (fun r8 => (KO_nv (fun v9 => (k_b_X12_half_64 q0 rec_14 h_rec_14 rec_34 h_rec_34 q l1 l2 l3 v9 l5 h))))) (k_b_X12_half_64 q0 rec_14 h_rec_14 rec_34 h_rec_34 q l1 l2 l3 l4 l5 h)))
theorem k_b_X12_half_14 (q0 : SS)  (x0 : SS) (x1 : Int32) (x2 : Int32) (x3 : Int32) (h : Fr wK vK q0 x0) : KO q0 (b_X12_half_14 x0 x1 x2 x3) (fun r => r.2) := by
  unfold b_X12_half_14
  refine KO_fx4 (fun rec_14 h_rec_14 q l1 l2 l3 h => ?_) FU x0 x1 x2 x3 h
  exact (KO_i (KO_some h) (KO_i (KO_some h) (k_b_X12_half_34 q0 rec_14 h_rec_14 q l1 l2 l3 (0 : Int32) (0 : Int32) h)))
theorem k_f_X12_half (q0 : SS) (q : SS) (h : Fr wK vK q0 q) : KO q0 (f_X12_half q) (fun r => r.2) := by
  unfold f_X12_half
  exact (KO_b (k_f_X12_layNow q0 q h) (fun r1 h_r1 => (KO_bp (fun r2 => (k_b_X12_half_14 q0 r1 r2 (-2 : Int32) (0 : Int32) h_r1)))))
theorem k_f_X11_share (q0 : SS) (q : SS) (a1 : Int32) (a2 : Int32) (h : Fr wK vK q0 q) : KO q0 (f_X11_share q a1 a2) (fun r => r.2) := by
  unfold f_X11_share
  exact (KO_bp (fun r1 => (KO_i (KO_some h) (KO_i (KO_some h) (KO_i (KO_b (k_f_X11_now q0 q h) (fun r2 h_r2 => (KO_bp (fun r3 => (KO_i (KO_some h_r2) (KO_bp (fun r4 => (KO_i KO_none (KO_some h_r2))))))))) (KO_some h))))))
theorem k_f_X12_share (q0 : SS) (q : SS) (a1 : Int32) (a2 : Int32) (h : Fr wK vK q0 q) : KO q0 (f_X12_share q a1 a2) (fun r => r.2) := by
  unfold f_X12_share
  exact (KO_bp (fun r1 => (KO_i (KO_some h) (KO_bp (fun r2 => (KO_i (KO_some h) (KO_b (k_f_X12_layNow q0 q h) (fun r3 h_r3 => (KO_bp (fun r4 => (KO_i (KO_some h_r3) (KO_bp (fun r5 => (KO_bp (fun r6 => (KO_i KO_none (KO_some h_r3)))))))))))))))))
theorem k_b_X11_friend_89 (q0 : SS)  (x0 : SS) (x1 : Int32) (x2 : Int32) (x3 : Int32) (x4 : Int32) (x5 : Int32) (h : Fr wK vK q0 x0) : KO q0 (b_X11_friend_89 x0 x1 x2 x3 x4 x5) (fun r => r.2) := by
  unfold b_X11_friend_89
  refine KO_fx6 (fun rec_89 h_rec_89 q l2 l4 l5 l6 l7 h => ?_) FU x0 x1 x2 x3 x4 x5 h
  exact (KO_i (KO_some h) (KO_i (h_rec_89 q l2 l4 l5 l6 (l7 + (1 : Int32)) h) (KO_some h)))
theorem k_b_X11_friend_84 (q0 : SS) (q : SS) (l2 : Int32) (l4 : Int32) (l5 : Int32) (s0 : Int32) (h : Fr wK vK q0 q) : KO q0 (b_X11_friend_84 q l2 l4 l5 s0) (fun r => r.2) := by
  unfold b_X11_friend_84
  exact (k_b_X11_friend_89 q0 q l2 l4 l5 s0 (0 : Int32) h)
theorem k_f_X11_friend (q0 : SS) (q : SS) (a1 : Int32) (a2 : Int32) (h : Fr wK vK q0 q) : KO q0 (f_X11_friend q a1 a2) (fun r => r.2) := by
  unfold f_X11_friend
  exact (KO_bp (fun r1 => (KO_i (KO_some h) (KO_i (KO_some h) (KO_i (KO_b (k_f_X11_now q0 q h) (fun r2 h_r2 => (KO_bp (fun r3 => (KO_i (KO_i (KO_some h_r2) (KO_some h_r2)) (KO_bp (fun r5 => (KO_bp (fun r6 => (KO_i (k_b_X11_friend_84 q0 r2 a2 r3 r5 (0 : Int32) h_r2) (KO_bp (fun r9 => (KO_bp (fun r10 => (k_b_X11_friend_84 q0 r2 a2 r3 r5 (r9 - r10) h_r2))))))))))))))) (KO_some h))))))
theorem k_b_X12_friend_91 (q0 : SS)  (x0 : SS) (x1 : Int32) (x2 : Int32) (x3 : Int32) (x4 : Int32) (x5 : Int32) (h : Fr wK vK q0 x0) : KO q0 (b_X12_friend_91 x0 x1 x2 x3 x4 x5) (fun r => r.2) := by
  unfold b_X12_friend_91
  refine KO_fx6 (fun rec_91 h_rec_91 q l1 l2 l3 l4 l5 h => ?_) FU x0 x1 x2 x3 x4 x5 h
  exact (KO_i (KO_some h) (KO_bp (fun r6 => (KO_i (h_rec_91 q l1 l2 l3 l4 (l5 + (1 : Int32)) h) (KO_some h)))))
theorem k_b_X12_friend_82 (q0 : SS) (rec_50 : SS → Int32 → Int32 → Int32 → Int32 → Int32 → Option (Int32 × SS)) (h_rec_50 : ∀ (a0 : SS) (a1 : Int32) (a2 : Int32) (a3 : Int32) (a4 : Int32) (a5 : Int32), Fr wK vK q0 a0 → KO q0 (rec_50 a0 a1 a2 a3 a4 a5) (fun r => r.2)) (q : SS) (l1 : Int32) (l2 : Int32) (l3 : Int32) (l4 : Int32) (l5 : Int32) (h : Fr wK vK q0 q) : KO q0 (b_X12_friend_82 rec_50 q l1 l2 l3 l4 l5) (fun r => r.2) := by
  unfold b_X12_friend_82
  exact (h_rec_50 q l1 l2 l3 l4 (l5 + (1 : Int32)) h)
theorem k_b_X12_friend_50 (q0 : SS)  (x0 : SS) (x1 : Int32) (x2 : Int32) (x3 : Int32) (x4 : Int32) (x5 : Int32) (h : Fr wK vK q0 x0) : KO q0 (b_X12_friend_50 x0 x1 x2 x3 x4 x5) (fun r => r.2) := by
  unfold b_X12_friend_50
  refine KO_fx6 (fun rec_50 h_rec_50 q l1 l2 l3 l4 l5 h => ?_) FU x0 x1 x2 x3 x4 x5 h
  exact (KO_i (k_b_X12_friend_91 q0 q l1 l2 l3 l4 (0 : Int32) h) (KO_ic (fun c0 => (KO_i (KO_bp (fun r9 => (KO_i (k_b_X12_friend_82 q0 rec_50 h_rec_50 q l1 l2 l3 l4 l5 h) (k_b_X12_friend_82 q0 rec_50 h_rec_50 q l1 l2 l3 (l4 + (1 : Int32)) l5 h)))) (k_b_X12_friend_82 q0 rec_50 h_rec_50 q l1 l2 l3 l4 l5 h))) KO_none))
theorem k_f_X12_friend (q0 : SS) (q : SS) (a1 : Int32) (a2 : Int32) (h : Fr wK vK q0 q) : KO q0 (f_X12_friend q a1 a2) (fun r => r.2) := by
  unfold f_X12_friend
  exact (KO_bp (fun r1 => (KO_i (KO_some h) (KO_bp (fun r2 => (KO_i (KO_some h) (KO_b (k_f_X12_layNow q0 q h) (fun r3 h_r3 => (KO_bp (fun r4 => (KO_i (KO_i (KO_some h_r3) (KO_some h_r3)) (k_b_X12_friend_50 q0 r3 a1 a2 r4 (0 : Int32) (0 : Int32) h_r3))))))))))))
theorem k_b_X11_hire_146 (q0 : SS) (q : SS) (l3 : Int32) (l4 : Int32) (l5 : Int32) (l6 : Int32) (h : Fr wK vK q0 q) : KO q0 (b_X11_hire_146 q l3 l4 l5 l6) (fun r => r.2) := by
  unfold b_X11_hire_146
  exact (KO_i (KO_i (KO_some h) (KO_some h)) (KO_some h))
theorem k_b_X11_hire_140 (q0 : SS) (rec_60 : SS → Int32 → Int32 → Int32 → Int32 → Int32 → Int32 → Option (Int32 × SS)) (h_rec_60 : ∀ (a0 : SS) (a1 : Int32) (a2 : Int32) (a3 : Int32) (a4 : Int32) (a5 : Int32) (a6 : Int32), Fr wK vK q0 a0 → KO q0 (rec_60 a0 a1 a2 a3 a4 a5 a6) (fun r => r.2)) (q : SS) (l1 : Int32) (l3 : Int32) (l4 : Int32) (l5 : Int32) (l6 : Int32) (l7 : Int32) (h : Fr wK vK q0 q) : KO q0 (b_X11_hire_140 rec_60 q l1 l3 l4 l5 l6 l7) (fun r => r.2) := by
  unfold b_X11_hire_140
  exact (h_rec_60 q l1 l3 l4 l5 l6 (l7 + (1 : Int32)) h)

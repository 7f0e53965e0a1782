theorem k_b_X11_hire_134 (q0 : SS) (rec_60 : SS → Int32 → Int32 → Int32 → Int32 → Int32 → Int32 → Option (Int32 × SS)) (h_rec_60 : ∀ (a0 : SS) (a1 : Int32) (a2 : Int32) (a3 : Int32) (a4 : Int32) (a5 : Int32) (a6 : Int32), Fr wK vK q0 a0 → KO q0 (rec_60 a0 a1 a2 a3 a4 a5 a6) (fun r => r.2)) (rec_75 : SS → Int32 → Int32 → Int32 → Int32 → Int32 → Int32 → Int32 → Option (Int32 × SS)) (h_rec_75 : ∀ (a0 : SS) (a1 : Int32) (a2 : Int32) (a3 : Int32) (a4 : Int32) (a5 : Int32) (a6 : Int32) (a7 : Int32), Fr wK vK q0 a0 → KO q0 (rec_75 a0 a1 a2 a3 a4 a5 a6 a7) (fun r => r.2)) (q : SS) (l1 : Int32) (l3 : Int32) (l4 : Int32) (l5 : Int32) (l6 : Int32) (l7 : Int32) (l8 : Int32) (h : Fr wK vK q0 q) : KO q0 (b_X11_hire_134 rec_60 rec_75 q l1 l3 l4 l5 l6 l7 l8) (fun r => r.2) := by
  unfold b_X11_hire_134
  exact (h_rec_75 q l1 l3 l4 l5 l6 l7 (l8 + (1 : Int32)) h)
theorem k_b_X11_hire_75 (q0 : SS) (rec_60 : SS → Int32 → Int32 → Int32 → Int32 → Int32 → Int32 → Option (Int32 × SS)) (h_rec_60 : ∀ (a0 : SS) (a1 : Int32) (a2 : Int32) (a3 : Int32) (a4 : Int32) (a5 : Int32) (a6 : Int32), Fr wK vK q0 a0 → KO q0 (rec_60 a0 a1 a2 a3 a4 a5 a6) (fun r => r.2)) (x0 : SS) (x1 : Int32) (x2 : Int32) (x3 : Int32) (x4 : Int32) (x5 : Int32) (x6 : Int32) (x7 : Int32) (h : Fr wK vK q0 x0) : KO q0 (b_X11_hire_75 rec_60 x0 x1 x2 x3 x4 x5 x6 x7) (fun r => r.2) := by
  unfold b_X11_hire_75
  refine KO_fx8 (fun rec_75 h_rec_75 q l1 l3 l4 l5 l6 l7 l8 h => ?_) FU x0 x1 x2 x3 x4 x5 x6 x7 h
  exact (KO_bp (fun r6 => (KO_i (k_b_X11_hire_140 q0 rec_60 h_rec_60 q l1 l3 l4 l5 l6 l7 h) (KO_i (k_b_X11_hire_140 q0 rec_60 h_rec_60 q l1 l3 l4 l5 l6 l7 h) (KO_bp (fun r7 => (KO_nv (fun v8 => (KO_i (k_b_X11_hire_134 q0 rec_60 h_rec_60 rec_75 h_rec_75 q l1 l3 l4 l5 l6 l7 l8 h) (KO_nv (fun v9 => (KO_nv (fun v10 => (k_b_X11_hire_134 q0 rec_60 h_rec_60 rec_75 h_rec_75 q l1 l3 v9 v10 l8 l7 l8 h))))))))))))))
theorem k_b_X11_hire_60 (q0 : SS)  (x0 : SS) (x1 : Int32) (x2 : Int32) (x3 : Int32) (x4 : Int32) (x5 : Int32) (x6 : Int32) (h : Fr wK vK q0 x0) : KO q0 (b_X11_hire_60 x0 x1 x2 x3 x4 x5 x6) (fun r => r.2) := by
  unfold b_X11_hire_60
  refine KO_fx7 (fun rec_60 h_rec_60 q l1 l3 l4 l5 l6 l7 h => ?_) FU x0 x1 x2 x3 x4 x5 x6 h
  exact (KO_i (k_b_X11_hire_146 q0 q l3 l4 l5 l6 h) (KO_i (k_b_X11_hire_146 q0 q l3 l4 l5 l6 h) (k_b_X11_hire_75 q0 rec_60 h_rec_60 q l1 l3 l4 l5 l6 l7 (0 : Int32) h)))
theorem k_f_X11_hire (q0 : SS) (q : SS) (a1 : Int32) (a2 : Int32) (a3 : Int32) (h : Fr wK vK q0 q) : KO q0 (f_X11_hire q a1 a2 a3) (fun r => r.2) := by
  unfold f_X11_hire
  exact (KO_bp (fun r1 => (KO_i (KO_some h) (KO_i (KO_some h) (KO_i (KO_some h) (KO_i (KO_some h) (KO_i (KO_b (k_f_X11_now q0 q h) (fun r2 h_r2 => (KO_bp (fun r3 => (KO_i (k_b_X11_hire_60 q0 r2 a1 a3 a2 (0 : Int32) (-2 : Int32) (0 : Int32) h_r2) (KO_some h_r2)))))) (KO_some h))))))))
theorem k_b_X12_hire_205 (q0 : SS) (rec_147 : SS → Int32 → Int32 → Int32 → Int32 → Int32 → Option (Int32 × SS)) (h_rec_147 : ∀ (a0 : SS) (a1 : Int32) (a2 : Int32) (a3 : Int32) (a4 : Int32) (a5 : Int32), Fr wK vK q0 a0 → KO q0 (rec_147 a0 a1 a2 a3 a4 a5) (fun r => r.2)) (rec_160 : SS → Int32 → Int32 → Int32 → Int32 → Int32 → Int32 → Option (Int32 × SS)) (h_rec_160 : ∀ (a0 : SS) (a1 : Int32) (a2 : Int32) (a3 : Int32) (a4 : Int32) (a5 : Int32) (a6 : Int32), Fr wK vK q0 a0 → KO q0 (rec_160 a0 a1 a2 a3 a4 a5 a6) (fun r => r.2)) (q : SS) (l2 : Int32) (l3 : Int32) (l5 : Int32) (l7 : Int32) (l8 : Int32) (l9 : Int32) (h : Fr wK vK q0 q) : KO q0 (b_X12_hire_205 rec_147 rec_160 q l2 l3 l5 l7 l8 l9) (fun r => r.2) := by
  unfold b_X12_hire_205
  exact (h_rec_160 q l2 l3 l5 l7 l8 (l9 + (1 : Int32)) h)
theorem k_b_X12_hire_201 (q0 : SS) (rec_147 : SS → Int32 → Int32 → Int32 → Int32 → Int32 → Option (Int32 × SS)) (h_rec_147 : ∀ (a0 : SS) (a1 : Int32) (a2 : Int32) (a3 : Int32) (a4 : Int32) (a5 : Int32), Fr wK vK q0 a0 → KO q0 (rec_147 a0 a1 a2 a3 a4 a5) (fun r => r.2)) (rec_160 : SS → Int32 → Int32 → Int32 → Int32 → Int32 → Int32 → Option (Int32 × SS)) (h_rec_160 : ∀ (a0 : SS) (a1 : Int32) (a2 : Int32) (a3 : Int32) (a4 : Int32) (a5 : Int32) (a6 : Int32), Fr wK vK q0 a0 → KO q0 (rec_160 a0 a1 a2 a3 a4 a5 a6) (fun r => r.2)) (q : SS) (l2 : Int32) (l3 : Int32) (l5 : Int32) (l7 : Int32) (l9 : Int32) (h : Fr wK vK q0 q) : KO q0 (b_X12_hire_201 rec_147 rec_160 q l2 l3 l5 l7 l9) (fun r => r.2) := by
  unfold b_X12_hire_201
  exact (k_b_X12_hire_205 q0 rec_147 h_rec_147 rec_160 h_rec_160 q l2 l3 l5 l7 l9 l9 h)
theorem k_b_X12_hire_160 (q0 : SS) (rec_147 : SS → Int32 → Int32 → Int32 → Int32 → Int32 → Option (Int32 × SS)) (h_rec_147 : ∀ (a0 : SS) (a1 : Int32) (a2 : Int32) (a3 : Int32) (a4 : Int32) (a5 : Int32), Fr wK vK q0 a0 → KO q0 (rec_147 a0 a1 a2 a3 a4 a5) (fun r => r.2)) (x0 : SS) (x1 : Int32) (x2 : Int32) (x3 : Int32) (x4 : Int32) (x5 : Int32) (x6 : Int32) (h : Fr wK vK q0 x0) : KO q0 (b_X12_hire_160 rec_147 x0 x1 x2 x3 x4 x5 x6) (fun r => r.2) := by
  unfold b_X12_hire_160
  refine KO_fx7 (fun rec_160 h_rec_160 q l2 l3 l5 l7 l8 l9 h => ?_) FU x0 x1 x2 x3 x4 x5 x6 h
  exact (KO_i (KO_i (KO_ic (fun c0 => (KO_ic (fun c1 => (KO_ns (Fr_sI h rfl) (fun q5 h_q5 => (KO_ic (fun c2 => (KO_nv (fun v6 => (h_rec_147 q5 l2 l3 v6 l8 (l7 + (1 : Int32)) h_q5)))) KO_none)))) KO_none)) KO_none) (KO_some h)) (KO_ic (fun c3 => (KO_i (k_b_X12_hire_205 q0 rec_147 h_rec_147 rec_160 h_rec_160 q l2 l3 l5 l7 l8 l9 h) (KO_i (k_b_X12_hire_201 q0 rec_147 h_rec_147 rec_160 h_rec_160 q l2 l3 l5 l7 l9 h) (KO_ic (fun c4 => (KO_ic (fun c5 => (KO_i (k_b_X12_hire_205 q0 rec_147 h_rec_147 rec_160 h_rec_160 q l2 l3 l5 l7 l8 l9 h) (k_b_X12_hire_201 q0 rec_147 h_rec_147 rec_160 h_rec_160 q l2 l3 l5 l7 l9 h))) KO_none)) KO_none)))) KO_none))
theorem k_b_X12_hire_147 (q0 : SS)  (x0 : SS) (x1 : Int32) (x2 : Int32) (x3 : Int32) (x4 : Int32) (x5 : Int32) (h : Fr wK vK q0 x0) : KO q0 (b_X12_hire_147 x0 x1 x2 x3 x4 x5) (fun r => r.2) := by
  unfold b_X12_hire_147
  refine KO_fx6 (fun rec_147 h_rec_147 q l2 l3 l5 l6 l7 h => ?_) FU x0 x1 x2 x3 x4 x5 h
  exact (KO_i (KO_i (KO_some h) (KO_some h)) (k_b_X12_hire_160 q0 rec_147 h_rec_147 q l2 l3 l5 l7 (-2 : Int32) (0 : Int32) h))
theorem k_b_X12_hire_130 (q0 : SS) (rec_87 : SS → Int32 → Int32 → Int32 → Int32 → Option (Int32 × SS)) (h_rec_87 : ∀ (a0 : SS) (a1 : Int32) (a2 : Int32) (a3 : Int32) (a4 : Int32), Fr wK vK q0 a0 → KO q0 (rec_87 a0 a1 a2 a3 a4) (fun r => r.2)) (q : SS) (l1 : Int32) (l2 : Int32) (l3 : Int32) (l5 : Int32) (s0 : Int32) (s1 : Int32) (h : Fr wK vK q0 q) : KO q0 (b_X12_hire_130 rec_87 q l1 l2 l3 l5 s0 s1) (fun r => r.2) := by
  unfold b_X12_hire_130
  exact (KO_ic (fun c0 => (KO_ns (Fr_sI h rfl) (fun q13 h_q13 => (h_rec_87 q13 l1 l2 l3 (l5 + (1 : Int32)) h_q13)))) KO_none)
theorem k_b_X12_hire_119 (q0 : SS) (rec_87 : SS → Int32 → Int32 → Int32 → Int32 → Option (Int32 × SS)) (h_rec_87 : ∀ (a0 : SS) (a1 : Int32) (a2 : Int32) (a3 : Int32) (a4 : Int32), Fr wK vK q0 a0 → KO q0 (rec_87 a0 a1 a2 a3 a4) (fun r => r.2)) (q : SS) (l1 : Int32) (l2 : Int32) (l3 : Int32) (l5 : Int32) (s0 : Int32) (h : Fr wK vK q0 q) : KO q0 (b_X12_hire_119 rec_87 q l1 l2 l3 l5 s0) (fun r => r.2) := by
  unfold b_X12_hire_119
  exact (k_b_X12_hire_130 q0 rec_87 h_rec_87 q l1 l2 l3 l5 (0 : Int32) s0 h)
theorem k_b_X12_hire_87 (q0 : SS)  (x0 : SS) (x1 : Int32) (x2 : Int32) (x3 : Int32) (x4 : Int32) (h : Fr wK vK q0 x0) : KO q0 (b_X12_hire_87 x0 x1 x2 x3 x4) (fun r => r.2) := by
  unfold b_X12_hire_87
  refine KO_fx5 (fun rec_87 h_rec_87 q l1 l2 l3 l5 h => ?_) FU x0 x1 x2 x3 x4 h
  exact (KO_i (k_b_X12_hire_147 q0 q l2 l3 (0 : Int32) (-2 : Int32) (0 : Int32) h) (KO_i (k_b_X12_hire_119 q0 rec_87 h_rec_87 q l1 l2 l3 l5 l5 h) (KO_ic (fun c0 => (KO_i (k_b_X12_hire_119 q0 rec_87 h_rec_87 q l1 l2 l3 l5 l5 h) (KO_ic (fun c1 => (k_b_X12_hire_130 q0 rec_87 h_rec_87 q l1 l2 l3 l5 (q.1 64 l5.toNatClampNeg) l5 h)) KO_none))) KO_none)))
theorem k_b_X12_hire_69 (q0 : SS) (rec_35 : SS → Int32 → Int32 → Int32 → Int32 → Int32 → Option (Int32 × SS)) (h_rec_35 : ∀ (a0 : SS) (a1 : Int32) (a2 : Int32) (a3 : Int32) (a4 : Int32) (a5 : Int32), Fr wK vK q0 a0 → KO q0 (rec_35 a0 a1 a2 a3 a4 a5) (fun r => r.2)) (q : SS) (l1 : Int32) (l2 : Int32) (l3 : Int32) (l4 : Int32) (l5 : Int32) (h : Fr wK vK q0 q) : KO q0 (b_X12_hire_69 rec_35 q l1 l2 l3 l4 l5) (fun r => r.2) := by
  unfold b_X12_hire_69
  exact (h_rec_35 q l1 l2 l3 l4 (l5 + (1 : Int32)) h)
theorem k_b_X12_hire_35 (q0 : SS)  (x0 : SS) (x1 : Int32) (x2 : Int32) (x3 : Int32) (x4 : Int32) (x5 : Int32) (h : Fr wK vK q0 x0) : KO q0 (b_X12_hire_35 x0 x1 x2 x3 x4 x5) (fun r => r.2) := by
  unfold b_X12_hire_35
  refine KO_fx6 (fun rec_35 h_rec_35 q l1 l2 l3 l4 l5 h => ?_) FU x0 x1 x2 x3 x4 x5 h
  exact (KO_i (KO_i (k_b_X12_hire_87 q0 q l1 l2 l3 (0 : Int32) h) (KO_some h)) (KO_ic (fun c0 => (KO_i (KO_ic (fun c1 => (KO_i (k_b_X12_hire_69 q0 rec_35 h_rec_35 q l1 l2 l3 l4 l5 h) (k_b_X12_hire_69 q0 rec_35 h_rec_35 q l1 l2 l3 (l4 + (1 : Int32)) l5 h))) KO_none) (k_b_X12_hire_69 q0 rec_35 h_rec_35 q l1 l2 l3 l4 l5 h))) KO_none))
theorem k_f_X12_hire (q0 : SS) (q : SS) (a1 : Int32) (a2 : Int32) (a3 : Int32) (h : Fr wK vK q0 q) : KO q0 (f_X12_hire q a1 a2 a3) (fun r => r.2) := by
  unfold f_X12_hire
  exact (KO_bp (fun r1 => (KO_i (KO_some h) (KO_bp (fun r2 => (KO_i (KO_some h) (KO_bp (fun r3 => (KO_i (KO_some h) (k_b_X12_hire_35 q0 q a1 a2 a3 (0 : Int32) (0 : Int32) h))))))))))
theorem k_b_X6_sortTickets_101 (q0 : SS) (rec_38 : SS → Int32 → Option SS) (h_rec_38 : ∀ (a0 : SS) (a1 : Int32), Fr wK vK q0 a0 → KO q0 (rec_38 a0 a1) (fun r => r)) (q : SS) (l1 : Int32) (h : Fr wK vK q0 q) : KO q0 (b_X6_sortTickets_101 rec_38 q l1) (fun r => r) := by
  unfold b_X6_sortTickets_101
  exact (h_rec_38 q (l1 + (-1 : Int32)) h)
theorem k_b_X6_sortTickets_38 (q0 : SS)  (x0 : SS) (x1 : Int32) (h : Fr wK vK q0 x0) : KO q0 (b_X6_sortTickets_38 x0 x1) (fun r => r) := by
  unfold b_X6_sortTickets_38
  refine KO_fx2 (fun rec_38 h_rec_38 q l1 h => ?_) FU x0 x1 h
  exact (KO_i (KO_some h) (KO_bp (fun r3 => (KO_i (k_b_X6_sortTickets_101 q0 rec_38 h_rec_38 q l1 h) (KO_bp (fun r4 => (KO_i (k_b_X6_sortTickets_101 q0 rec_38 h_rec_38 q l1 h) (KO_bp (fun r5 => (KO_i (KO_ic (fun c0 => (KO_ic (fun c1 => (KO_ns (Fr_sI h rfl) (fun q6 h_q6 => (KO_ic (fun c2 => (KO_ns (Fr_sI h_q6 rfl) (fun q7 h_q7 => (k_b_X6_sortTickets_101 q0 rec_38 h_rec_38 q7 l1 h_q7)))) KO_none)))) KO_none)) KO_none) (k_b_X6_sortTickets_101 q0 rec_38 h_rec_38 q l1 h)))))))))))
theorem k_b_X6_sortTickets_2 (q0 : SS)  (x0 : SS) (x1 : Int32) (h : Fr wK vK q0 x0) : KO q0 (b_X6_sortTickets_2 x0 x1) (fun r => r) := by
  unfold b_X6_sortTickets_2
  refine KO_fx2 (fun rec_2 h_rec_2 q l1 h => ?_) FU x0 x1 h
  exact (KO_i (KO_bp (fun r1 => (KO_nv (fun v2 => (k_b_X6_sortTickets_38 q0 q v2 h))))) (KO_ic (fun c0 => (KO_ns (Fr_sI h rfl) (fun q12 h_q12 => (KO_ic (fun c1 => (KO_ns (Fr_sI h_q12 rfl) (fun q13 h_q13 => (h_rec_2 q13 (l1 + (1 : Int32)) h_q13)))) KO_none)))) KO_none))
theorem k_f_X6_sortTickets (q0 : SS) (q : SS) (h : Fr wK vK q0 q) : KO q0 (f_X6_sortTickets q) (fun r => r) := by
  unfold f_X6_sortTickets
  exact (k_b_X6_sortTickets_2 q0 q (0 : Int32) h)
theorem k_b_X6_workOutHour_114 (q0 : SS) (rec_17 : SS → Int32 → Int32 → Int32 → Option SS) (h_rec_17 : ∀ (a0 : SS) (a1 : Int32) (a2 : Int32) (a3 : Int32), Fr wK vK q0 a0 → KO q0 (rec_17 a0 a1 a2 a3) (fun r => r)) (rec_41 : SS → Int32 → Int32 → Int32 → Int32 → Int32 → Option SS) (h_rec_41 : ∀ (a0 : SS) (a1 : Int32) (a2 : Int32) (a3 : Int32) (a4 : Int32) (a5 : Int32), Fr wK vK q0 a0 → KO q0 (rec_41 a0 a1 a2 a3 a4 a5) (fun r => r)) (rec_50 : SS → Int32 → Int32 → Int32 → Int32 → Int32 → Int32 → Option SS) (h_rec_50 : ∀ (a0 : SS) (a1 : Int32) (a2 : Int32) (a3 : Int32) (a4 : Int32) (a5 : Int32) (a6 : Int32), Fr wK vK q0 a0 → KO q0 (rec_50 a0 a1 a2 a3 a4 a5 a6) (fun r => r)) (q : SS) (l1 : Int32) (l2 : Int32) (l3 : Int32) (l4 : Int32) (l5 : Int32) (l6 : Int32) (h : Fr wK vK q0 q) : KO q0 (b_X6_workOutHour_114 rec_17 rec_41 rec_50 q l1 l2 l3 l4 l5 l6) (fun r => r) := by
  unfold b_X6_workOutHour_114
  exact (h_rec_50 q l1 l2 l3 l4 l5 (l6 + (1 : Int32)) h)
theorem k_b_X6_workOutHour_50 (q0 : SS) (rec_17 : SS → Int32 → Int32 → Int32 → Option SS) (h_rec_17 : ∀ (a0 : SS) (a1 : Int32) (a2 : Int32) (a3 : Int32), Fr wK vK q0 a0 → KO q0 (rec_17 a0 a1 a2 a3) (fun r => r)) (rec_41 : SS → Int32 → Int32 → Int32 → Int32 → Int32 → Option SS) (h_rec_41 : ∀ (a0 : SS) (a1 : Int32) (a2 : Int32) (a3 : Int32) (a4 : Int32) (a5 : Int32), Fr wK vK q0 a0 → KO q0 (rec_41 a0 a1 a2 a3 a4 a5) (fun r => r)) (x0 : SS) (x1 : Int32) (x2 : Int32) (x3 : Int32) (x4 : Int32) (x5 : Int32) (x6 : Int32) (h : Fr wK vK q0 x0) : KO q0 (b_X6_workOutHour_50 rec_17 rec_41 x0 x1 x2 x3 x4 x5 x6) (fun r => r) := by
  unfold b_X6_workOutHour_50
  refine KO_fx7 (fun rec_50 h_rec_50 q l1 l2 l3 l4 l5 l6 h => ?_) FU x0 x1 x2 x3 x4 x5 x6 h
  exact (KO_i (h_rec_41 q l1 l2 l3 l4 (l5 + (1 : Int32)) h) (KO_bp (fun r5 => (KO_i (k_b_X6_workOutHour_114 q0 rec_17 h_rec_17 rec_41 h_rec_41 rec_50 h_rec_50 q l1 l2 l3 l4 l5 l6 h) (KO_ic (fun c0 => (KO_i (k_b_X6_workOutHour_114 q0 rec_17 h_rec_17 rec_41 h_rec_41 rec_50 h_rec_50 q l1 l2 l3 l4 l5 l6 h) (KO_b (k_f_X8_oddsBy q0 q (q.1 42 6) l3 (l4 + l5) l6 l2 h) (fun r6 h_r6 => (KO_ic (fun c1 => (KO_ns (Fr_sI h_r6 rfl) (fun q7 h_q7 => (k_b_X6_workOutHour_114 q0 rec_17 h_rec_17 rec_41 h_rec_41 rec_50 h_rec_50 q7 l1 l2 l3 l4 l5 l6 h_q7)))) KO_none))))) KO_none)))))
theorem k_b_X6_workOutHour_41 (q0 : SS) (rec_17 : SS → Int32 → Int32 → Int32 → Option SS) (h_rec_17 : ∀ (a0 : SS) (a1 : Int32) (a2 : Int32) (a3 : Int32), Fr wK vK q0 a0 → KO q0 (rec_17 a0 a1 a2 a3) (fun r => r)) (x0 : SS) (x1 : Int32) (x2 : Int32) (x3 : Int32) (x4 : Int32) (x5 : Int32) (h : Fr wK vK q0 x0) : KO q0 (b_X6_workOutHour_41 rec_17 x0 x1 x2 x3 x4 x5) (fun r => r) := by
  unfold b_X6_workOutHour_41
  refine KO_fx6 (fun rec_41 h_rec_41 q l1 l2 l3 l4 l5 h => ?_) FU x0 x1 x2 x3 x4 x5 h
  exact (KO_i (h_rec_17 q l1 l2 (l3 + (1 : Int32)) h) (k_b_X6_workOutHour_50 q0 rec_17 h_rec_17 rec_41 h_rec_41 q l1 l2 l3 l4 l5 (0 : Int32) h))
theorem k_b_X6_workOutHour_17 (q0 : SS)  (x0 : SS) (x1 : Int32) (x2 : Int32) (x3 : Int32) (h : Fr wK vK q0 x0) : KO q0 (b_X6_workOutHour_17 x0 x1 x2 x3) (fun r => r) := by
  unfold b_X6_workOutHour_17
  refine KO_fx4 (fun rec_17 h_rec_17 q l1 l2 l3 h => ?_) FU x0 x1 x2 x3 h
  exact (KO_bp (fun r3 => (KO_i (KO_some h) (KO_bp (fun r4 => (k_b_X6_workOutHour_41 q0 rec_17 h_rec_17 q l1 l2 l3 r4 (0 : Int32) h))))))
theorem k_f_X6_workOutHour (q0 : SS) (q : SS) (a1 : Int32) (h : Fr wK vK q0 q) : KO q0 (f_X6_workOutHour q a1) (fun r => r) := by
  unfold f_X6_workOutHour
  exact (KO_bp (fun r1 => (KO_nv (fun v2 => (k_b_X6_workOutHour_17 q0 q a1 v2 (0 : Int32) h)))))
theorem k_b_X6_begin_72 (q0 : SS)  (x0 : SS) (x1 : Int32) (h : Fr wK vK q0 x0) : KO q0 (b_X6_begin_72 x0 x1) (fun r => r) := by
  unfold b_X6_begin_72
  refine KO_fx2 (fun rec_72 h_rec_72 q l3 h => ?_) FU x0 x1 h
  exact (KO_i (KO_some h) (KO_b (k_f_X6_workOutHour q0 q l3 h) (fun r9 h_r9 => (h_rec_72 r9 (l3 + (1 : Int32)) h_r9))))
theorem k_b_X6_begin_47 (q0 : SS)  (x0 : SS) (x1 : Int32) (h : Fr wK vK q0 x0) : KO q0 (b_X6_begin_47 x0 x1) (fun r => r) := by
  unfold b_X6_begin_47
  refine KO_fx2 (fun rec_47 h_rec_47 q l3 h => ?_) FU x0 x1 h
  exact (KO_i (KO_b (k_f_X6_sortTickets q0 q h) (fun r8 h_r8 => (k_b_X6_begin_72 q0 r8 (0 : Int32) h_r8))) (KO_ic (fun c0 => (KO_ns (Fr_sI h rfl) (fun q11 h_q11 => (h_rec_47 q11 (l3 + (1 : Int32)) h_q11)))) KO_none))
theorem k_f_X6_begin (q0 : SS) (q : SS) (a1 : Int32) (a2 : Int32) (h : Fr wK vK q0 q) : KO q0 (f_X6_begin q a1 a2) (fun r => r) := by
  unfold f_X6_begin
  exact (KO_b (k_f_X8_begin q0 q h) (fun r1 h_r1 => (KO_ns (Fr_sI h_r1 rfl) (fun q2 h_q2 => (KO_ns (Fr_sI h_q2 rfl) (fun q3 h_q3 => (KO_bp (fun r4 => (KO_ns (Fr_sI h_q3 rfl) (fun q5 h_q5 => (KO_bp (fun r6 => (KO_ns (Fr_sI h_q5 rfl) (fun q7 h_q7 => (k_b_X6_begin_47 q0 q7 (0 : Int32) h_q7)))))))))))))))
def KG_X6_best (q0 : SS) (r : GT_X6_best) : Prop := (∀ (a0 : SS) (a1 : Int32) (a2 : Int32), Fr wK vK q0 a0 → KO q0 (r.1 a0 a1 a2) (fun r => r.2)) ∧ (∀ (a0 : SS) (a1 : Int32) (a2 : Int32) (a3 : Int32) (a4 : Int32) (a5 : Int32), Fr wK vK q0 a0 → KO q0 (r.2 a0 a1 a2 a3 a4 a5) (fun r => r.2))
theorem k_b_X6_best_13 (q0 : SS) (r : GT_X6_best) (hr : KG_X6_best q0 r) (q : SS) (l2 : Int32) (h : Fr wK vK q0 q) : KO q0 (b_X6_best_13 r q l2) (fun r => r.2) := by
  unfold b_X6_best_13
  exact (KO_some h)
theorem k_b_X6_best_47 (q0 : SS) (r : GT_X6_best) (hr : KG_X6_best q0 r) (rec_38 : SS → Int32 → Int32 → Int32 → Int32 → Int32 → Option (Int32 × SS)) (h_rec_38 : ∀ (a0 : SS) (a1 : Int32) (a2 : Int32) (a3 : Int32) (a4 : Int32) (a5 : Int32), Fr wK vK q0 a0 → KO q0 (rec_38 a0 a1 a2 a3 a4 a5) (fun r => r.2)) (x0 : SS) (x1 : Int32) (x2 : Int32) (x3 : Int32) (x4 : Int32) (x5 : Int32) (x6 : Int32) (h : Fr wK vK q0 x0) : KO q0 (b_X6_best_47 r rec_38 x0 x1 x2 x3 x4 x5 x6) (fun r => r.2) := by
  unfold b_X6_best_47
  refine KO_fx7 (fun rec_47 h_rec_47 q l1 l2 l3 l4 l5 l6 h => ?_) FU x0 x1 x2 x3 x4 x5 x6 h
  exact (KO_bp (fun r3 => (KO_i (h_rec_38 q l1 l2 l3 l4 (l5 + (1 : Int32)) h) (KO_b (hr.2 q l1 l2 l5 l6 l3 h) (fun r4 h_r4 => (KO_nv (fun v5 => (h_rec_47 r4.2 l1 l2 l3 v5 l5 (l6 + (1 : Int32)) h_r4))))))))
theorem k_b_X6_best_38 (q0 : SS) (r : GT_X6_best) (hr : KG_X6_best q0 r) (x0 : SS) (x1 : Int32) (x2 : Int32) (x3 : Int32) (x4 : Int32) (x5 : Int32) (h : Fr wK vK q0 x0) : KO q0 (b_X6_best_38 r x0 x1 x2 x3 x4 x5) (fun r => r.2) := by
  unfold b_X6_best_38
  refine KO_fx6 (fun rec_38 h_rec_38 q l1 l2 l3 l4 l5 h => ?_) FU x0 x1 x2 x3 x4 x5 h
  exact (KO_i (KO_some h) (k_b_X6_best_47 q0 r hr rec_38 h_rec_38 q l1 l2 l3 l4 l5 (0 : Int32) h))
theorem k_fb_X6_best (q0 : SS) (r : GT_X6_best) (hr : KG_X6_best q0 r) (q : SS) (a1 : Int32) (a2 : Int32) (h : Fr wK vK q0 q) : KO q0 (fb_X6_best r q a1 a2) (fun r => r.2) := by
  unfold fb_X6_best
  exact (KO_i (k_b_X6_best_13 q0 r hr q a2 h) (KO_i (KO_b (hr.1 q (a1 + (1 : Int32)) a2 h) (fun r1 h_r1 => (KO_nv (fun v2 => (k_b_X6_best_38 q0 r hr r1.2 a1 a2 r1.1 v2 (0 : Int32) h_r1))))) (k_b_X6_best_13 q0 r hr q a2 h)))
theorem k_fb_X6_tried (q0 : SS) (r : GT_X6_best) (hr : KG_X6_best q0 r) (q : SS) (a1 : Int32) (a2 : Int32) (a3 : Int32) (a4 : Int32) (a5 : Int32) (h : Fr wK vK q0 q) : KO q0 (fb_X6_tried r q a1 a2 a3 a4 a5) (fun r => r.2) := by
  unfold fb_X6_tried
  exact (KO_bp (fun r1 => (KO_i (KO_some h) (KO_ic (fun c0 => (KO_ic (fun c1 => (KO_ns (Fr_sI h rfl) (fun q2 h_q2 => (KO_ic (fun c2 => (KO_ic (fun c3 => (KO_ns (Fr_sI h_q2 rfl) (fun q3 h_q3 => (KO_b (hr.1 q3 (a1 + (1 : Int32)) (a2 + (1 : Int32)) h_q3) (fun r4 h_r4 => (KO_ic (fun c4 => (KO_ic (fun c5 => (KO_ns (Fr_sI h_r4 rfl) (fun q5 h_q5 => (KO_ic (fun c6 => (KO_ic (fun c7 => (KO_ns (Fr_sI h_q5 rfl) (fun q6 h_q6 => (KO_some h_q6)))) KO_none)) KO_none)))) KO_none)) KO_none)))))) KO_none)) KO_none)))) KO_none)) KO_none))))
theorem kg_X6_best (q0 : SS) : ∀ n, KG_X6_best q0 (g_X6_best n)
  | 0 => ⟨(fun _ _ _ _ => KO_none), (fun _ _ _ _ _ _ _ => KO_none)⟩
  | n + 1 => ⟨(fun a0 a1 a2 h => k_fb_X6_best q0 (g_X6_best n) (kg_X6_best q0 n) a0 a1 a2 h), (fun a0 a1 a2 a3 a4 a5 h => k_fb_X6_tried q0 (g_X6_best n) (kg_X6_best q0 n) a0 a1 a2 a3 a4 a5 h)⟩
theorem k_f_X6_best (q0 : SS) (x0 : SS) (x1 : Int32) (x2 : Int32) (h : Fr wK vK q0 x0) : KO q0 (f_X6_best x0 x1 x2) (fun r => r.2) := (kg_X6_best q0 60).1 x0 x1 x2 h
theorem k_f_X6_tried (q0 : SS) (x0 : SS) (x1 : Int32) (x2 : Int32) (x3 : Int32) (x4 : Int32) (x5 : Int32) (h : Fr wK vK q0 x0) : KO q0 (f_X6_tried x0 x1 x2 x3 x4 x5) (fun r => r.2) := (kg_X6_best q0 60).2 x0 x1 x2 x3 x4 x5 h
theorem k_b_X6_firstSlipping_105 (q0 : SS) (rec_28 : SS → Int32 → Int32 → Int32 → Int32 → Option (Int32 × SS)) (h_rec_28 : ∀ (a0 : SS) (a1 : Int32) (a2 : Int32) (a3 : Int32) (a4 : Int32), Fr wK vK q0 a0 → KO q0 (rec_28 a0 a1 a2 a3 a4) (fun r => r.2)) (rec_37 : SS → Int32 → Int32 → Int32 → Int32 → Int32 → Option (Int32 × SS)) (h_rec_37 : ∀ (a0 : SS) (a1 : Int32) (a2 : Int32) (a3 : Int32) (a4 : Int32) (a5 : Int32), Fr wK vK q0 a0 → KO q0 (rec_37 a0 a1 a2 a3 a4 a5) (fun r => r.2)) (q : SS) (l1 : Int32) (l2 : Int32) (l3 : Int32) (l4 : Int32) (l5 : Int32) (h : Fr wK vK q0 q) : KO q0 (b_X6_firstSlipping_105 rec_28 rec_37 q l1 l2 l3 l4 l5) (fun r => r.2) := by
  unfold b_X6_firstSlipping_105
  exact (h_rec_37 q l1 l2 l3 l4 (l5 + (1 : Int32)) h)
theorem k_b_X6_firstSlipping_99 (q0 : SS) (rec_28 : SS → Int32 → Int32 → Int32 → Int32 → Option (Int32 × SS)) (h_rec_28 : ∀ (a0 : SS) (a1 : Int32) (a2 : Int32) (a3 : Int32) (a4 : Int32), Fr wK vK q0 a0 → KO q0 (rec_28 a0 a1 a2 a3 a4) (fun r => r.2)) (rec_37 : SS → Int32 → Int32 → Int32 → Int32 → Int32 → Option (Int32 × SS)) (h_rec_37 : ∀ (a0 : SS) (a1 : Int32) (a2 : Int32) (a3 : Int32) (a4 : Int32) (a5 : Int32), Fr wK vK q0 a0 → KO q0 (rec_37 a0 a1 a2 a3 a4 a5) (fun r => r.2)) (q : SS) (l1 : Int32) (l4 : Int32) (l5 : Int32) (l6 : Int32) (l7 : Int32) (h : Fr wK vK q0 q) : KO q0 (b_X6_firstSlipping_99 rec_28 rec_37 q l1 l4 l5 l6 l7) (fun r => r.2) := by
  unfold b_X6_firstSlipping_99
  exact (k_b_X6_firstSlipping_105 q0 rec_28 h_rec_28 rec_37 h_rec_37 q l1 l6 l7 l4 l5 h)
theorem k_b_X6_firstSlipping_37 (q0 : SS) (rec_28 : SS → Int32 → Int32 → Int32 → Int32 → Option (Int32 × SS)) (h_rec_28 : ∀ (a0 : SS) (a1 : Int32) (a2 : Int32) (a3 : Int32) (a4 : Int32), Fr wK vK q0 a0 → KO q0 (rec_28 a0 a1 a2 a3 a4) (fun r => r.2)) (x0 : SS) (x1 : Int32) (x2 : Int32) (x3 : Int32) (x4 : Int32) (x5 : Int32) (h : Fr wK vK q0 x0) : KO q0 (b_X6_firstSlipping_37 rec_28 x0 x1 x2 x3 x4 x5) (fun r => r.2) := by
  unfold b_X6_firstSlipping_37
  refine KO_fx6 (fun rec_37 h_rec_37 q l1 l2 l3 l4 l5 h => ?_) FU x0 x1 x2 x3 x4 x5 h
  exact (KO_bp (fun r3 => (KO_i (h_rec_28 q l1 l2 l3 (l4 + (1 : Int32)) h) (KO_b (k_f_X6_tried q0 q (0 : Int32) (0 : Int32) l4 l5 l1 h) (fun r4 h_r4 => (KO_ic (fun c0 => (KO_nv (fun v5 => (KO_i (k_b_X6_firstSlipping_99 q0 rec_28 h_rec_28 rec_37 h_rec_37 r4.2 l1 l4 l5 r4.1 v5 h_r4) (KO_i (KO_i (k_b_X6_firstSlipping_105 q0 rec_28 h_rec_28 rec_37 h_rec_37 r4.2 l1 l2 l3 l4 l5 h_r4) (KO_i (k_b_X6_firstSlipping_105 q0 rec_28 h_rec_28 rec_37 h_rec_37 r4.2 l1 l2 l3 l4 l5 h_r4) (k_b_X6_firstSlipping_99 q0 rec_28 h_rec_28 rec_37 h_rec_37 r4.2 l1 l4 l5 r4.1 v5 h_r4))) (k_b_X6_firstSlipping_105 q0 rec_28 h_rec_28 rec_37 h_rec_37 r4.2 l1 l2 l3 l4 l5 h_r4)))))) KO_none))))))
theorem k_b_X6_firstSlipping_28 (q0 : SS)  (x0 : SS) (x1 : Int32) (x2 : Int32) (x3 : Int32) (x4 : Int32) (h : Fr wK vK q0 x0) : KO q0 (b_X6_firstSlipping_28 x0 x1 x2 x3 x4) (fun r => r.2) := by
  unfold b_X6_firstSlipping_28
  refine KO_fx5 (fun rec_28 h_rec_28 q l1 l2 l3 l4 h => ?_) FU x0 x1 x2 x3 x4 h
  exact (KO_i (KO_some h) (k_b_X6_firstSlipping_37 q0 rec_28 h_rec_28 q l1 l2 l3 l4 (0 : Int32) h))
theorem k_f_X6_firstSlipping (q0 : SS) (q : SS) (h : Fr wK vK q0 q) : KO q0 (f_X6_firstSlipping q) (fun r => r.2) := by
  unfold f_X6_firstSlipping
  exact (KO_i (KO_some h) (KO_b (k_f_X6_best q0 q (1 : Int32) (0 : Int32) h) (fun r1 h_r1 => (KO_nv (fun v2 => (k_b_X6_firstSlipping_28 q0 r1.2 r1.1 v2 (-2 : Int32) (0 : Int32) h_r1))))))
theorem k_f_X11_first (q0 : SS) (q : SS) (a1 : Int32) (a2 : Int32) (h : Fr wK vK q0 q) : KO q0 (f_X11_first q a1 a2) (fun r => r.2) := by
  unfold f_X11_first
  exact (KO_bp (fun r1 => (KO_i (KO_some h) (KO_i (KO_some h) (KO_i (KO_b (k_f_X6_begin q0 q a1 a2 h) (fun r2 h_r2 => (KO_b (k_f_X6_firstSlipping q0 r2 h_r2) (fun r3 h_r3 => (KO_some h_r3))))) (KO_some h))))))
def KG_X12_leftBy (q0 : SS) (r : GT_X12_leftBy) : Prop := (∀ (a0 : SS) (a1 : Int32) (a2 : Int32) (a3 : Int32) (a4 : Int64), Fr wK vK q0 a0 → KO q0 (r.1 a0 a1 a2 a3 a4) (fun r => r.2)) ∧ (∀ (a0 : SS) (a1 : Int32) (a2 : Int32) (a3 : Int32) (a4 : Int64) (a5 : Int32) (a6 : Int32), Fr wK vK q0 a0 → KO q0 (r.2.1 a0 a1 a2 a3 a4 a5 a6) (fun r => r.2)) ∧ (∀ (a0 : SS) (a1 : Int32) (a2 : Int32) (a3 : Int32), Fr wK vK q0 a0 → KO q0 (r.2.2 a0 a1 a2 a3) (fun r => r.2))
theorem k_b_X12_leftBy_100 (q0 : SS) (r : GT_X12_leftBy) (hr : KG_X12_leftBy q0 r) (rec_7 : SS → Int32 → Int32 → Int32 → Int64 → Int64 → Int32 → Option (Int64 × SS)) (h_rec_7 : ∀ (a0 : SS) (a1 : Int32) (a2 : Int32) (a3 : Int32) (a4 : Int64) (a5 : Int64) (a6 : Int32), Fr wK vK q0 a0 → KO q0 (rec_7 a0 a1 a2 a3 a4 a5 a6) (fun r => r.2)) (q : SS) (l1 : Int32) (l2 : Int32) (l3 : Int32) (l4 : Int64) (l6 : Int64) (l8 : Int32) (h : Fr wK vK q0 q) : KO q0 (b_X12_leftBy_100 r rec_7 q l1 l2 l3 l4 l6 l8) (fun r => r.2) := by
  unfold b_X12_leftBy_100
  exact (h_rec_7 q l1 l2 l3 l4 l6 (l8 + (1 : Int32)) h)
theorem k_b_X12_leftBy_94 (q0 : SS) (r : GT_X12_leftBy) (hr : KG_X12_leftBy q0 r) (rec_7 : SS → Int32 → Int32 → Int32 → Int64 → Int64 → Int32 → Option (Int64 × SS)) (h_rec_7 : ∀ (a0 : SS) (a1 : Int32) (a2 : Int32) (a3 : Int32) (a4 : Int64) (a5 : Int64) (a6 : Int32), Fr wK vK q0 a0 → KO q0 (rec_7 a0 a1 a2 a3 a4 a5 a6) (fun r => r.2)) (rec_44 : SS → Int32 → Int32 → Int32 → Int64 → Int64 → Int32 → Int32 → Option (Int64 × SS)) (h_rec_44 : ∀ (a0 : SS) (a1 : Int32) (a2 : Int32) (a3 : Int32) (a4 : Int64) (a5 : Int64) (a6 : Int32) (a7 : Int32), Fr wK vK q0 a0 → KO q0 (rec_44 a0 a1 a2 a3 a4 a5 a6 a7) (fun r => r.2)) (q : SS) (l1 : Int32) (l2 : Int32) (l3 : Int32) (l4 : Int64) (l6 : Int64) (l8 : Int32) (l9 : Int32) (h : Fr wK vK q0 q) : KO q0 (b_X12_leftBy_94 r rec_7 rec_44 q l1 l2 l3 l4 l6 l8 l9) (fun r => r.2) := by
  unfold b_X12_leftBy_94
  exact (h_rec_44 q l1 l2 l3 l4 l6 l8 (l9 + (1 : Int32)) h)
theorem k_b_X12_leftBy_44 (q0 : SS) (r : GT_X12_leftBy) (hr : KG_X12_leftBy q0 r) (rec_7 : SS → Int32 → Int32 → Int32 → Int64 → Int64 → Int32 → Option (Int64 × SS)) (h_rec_7 : ∀ (a0 : SS) (a1 : Int32) (a2 : Int32) (a3 : Int32) (a4 : Int64) (a5 : Int64) (a6 : Int32), Fr wK vK q0 a0 → KO q0 (rec_7 a0 a1 a2 a3 a4 a5 a6) (fun r => r.2)) (x0 : SS) (x1 : Int32) (x2 : Int32) (x3 : Int32) (x4 : Int64) (x5 : Int64) (x6 : Int32) (x7 : Int32) (h : Fr wK vK q0 x0) : KO q0 (b_X12_leftBy_44 r rec_7 x0 x1 x2 x3 x4 x5 x6 x7) (fun r => r.2) := by
  unfold b_X12_leftBy_44
  refine KO_fx8 (fun rec_44 h_rec_44 q l1 l2 l3 l4 l6 l8 l9 h => ?_) FU x0 x1 x2 x3 x4 x5 x6 x7 h
  exact (KO_i (k_b_X12_leftBy_100 q0 r hr rec_7 h_rec_7 q l1 l2 l3 l4 l6 l8 h) (KO_bp (fun r1 => (KO_i (k_b_X12_leftBy_94 q0 r hr rec_7 h_rec_7 rec_44 h_rec_44 q l1 l2 l3 l4 l6 l8 l9 h) (KO_b (hr.2.1 q l1 l2 l3 l4 l8 l9 h) (fun r2 h_r2 => (KO_i (k_b_X12_leftBy_94 q0 r hr rec_7 h_rec_7 rec_44 h_rec_44 r2.2 l1 l2 l3 l4 l6 l8 l9 h_r2) (k_b_X12_leftBy_94 q0 r hr rec_7 h_rec_7 rec_44 h_rec_44 r2.2 l1 l2 l3 l4 r2.1 l8 l9 h_r2))))))))
theorem k_b_X12_leftBy_7 (q0 : SS) (r : GT_X12_leftBy) (hr : KG_X12_leftBy q0 r) (x0 : SS) (x1 : Int32) (x2 : Int32) (x3 : Int32) (x4 : Int64) (x5 : Int64) (x6 : Int32) (h : Fr wK vK q0 x0) : KO q0 (b_X12_leftBy_7 r x0 x1 x2 x3 x4 x5 x6) (fun r => r.2) := by
  unfold b_X12_leftBy_7
  refine KO_fx7 (fun rec_7 h_rec_7 q l1 l2 l3 l4 l6 l8 h => ?_) FU x0 x1 x2 x3 x4 x5 x6 h
  exact (KO_i (KO_some h) (KO_ic (fun c0 => (KO_i (KO_ic (fun c1 => (KO_i (k_b_X12_leftBy_100 q0 r hr rec_7 h_rec_7 q l1 l2 l3 l4 l6 l8 h) (k_b_X12_leftBy_44 q0 r hr rec_7 h_rec_7 q l1 l2 l3 l4 l6 l8 (0 : Int32) h))) KO_none) (k_b_X12_leftBy_100 q0 r hr rec_7 h_rec_7 q l1 l2 l3 l4 l6 l8 h))) KO_none))
theorem k_fb_X12_leftBy (q0 : SS) (r : GT_X12_leftBy) (hr : KG_X12_leftBy q0 r) (q : SS) (a1 : Int32) (a2 : Int32) (a3 : Int32) (a4 : Int64) (h : Fr wK vK q0 q) : KO q0 (fb_X12_leftBy r q a1 a2 a3 a4) (fun r => r.2) := by
  unfold fb_X12_leftBy
  exact (k_b_X12_leftBy_7 q0 r hr q a1 a2 a3 a4 a4 (0 : Int32) h)
theorem k_fb_X12_slipBy (q0 : SS) (r : GT_X12_leftBy) (hr : KG_X12_leftBy q0 r) (q : SS) (a1 : Int32) (a2 : Int32) (a3 : Int32) (a4 : Int64) (a6 : Int32) (a7 : Int32) (h : Fr wK vK q0 q) : KO q0 (fb_X12_slipBy r q a1 a2 a3 a4 a6 a7) (fun r => r.2) := by
  unfold fb_X12_slipBy
  exact (KO_bp (fun r1 => (KO_ns (Fr_sI h rfl) (fun q2 h_q2 => (KO_b (k_f_X12_oddsOf q0 q2 a6 a7 h_q2) (fun r3 h_r3 => (KO_i (KO_some h_r3) (KO_ic (fun c0 => (KO_ns (Fr_sI h_r3 rfl) (fun q4 h_q4 => (KO_b (hr.2.2 q4 a1 (a2 - (1 : Int32)) (a3 + (1 : Int32)) h_q4) (fun r5 h_r5 => (KO_nv (fun v6 => (KO_ic (fun c1 => (KO_ns (Fr_sI h_r5 rfl) (fun q7 h_q7 => (KO_some h_q7)))) KO_none)))))))) KO_none))))))))
theorem k_fb_X12_leftOf (q0 : SS) (r : GT_X12_leftBy) (hr : KG_X12_leftBy q0 r) (q : SS) (a1 : Int32) (a2 : Int32) (a3 : Int32) (h : Fr wK vK q0 q) : KO q0 (fb_X12_leftOf r q a1 a2 a3) (fun r => r.2) := by
  unfold fb_X12_leftOf
  exact (KO_i (KO_bp (fun r1 => (KO_some h))) (KO_b (hr.2.2 q a1 (a2 - (1 : Int32)) (a3 + (1 : Int32)) h) (fun r2 h_r2 => (KO_b (hr.1 r2.2 a1 a2 a3 ((12 : Int64) * r2.1) h_r2) (fun r3 h_r3 => (KO_some h_r3))))))
theorem kg_X12_leftBy (q0 : SS) : ∀ n, KG_X12_leftBy q0 (g_X12_leftBy n)
  | 0 => ⟨(fun _ _ _ _ _ _ => KO_none), (fun _ _ _ _ _ _ _ _ => KO_none), (fun _ _ _ _ _ => KO_none)⟩
  | n + 1 => ⟨(fun a0 a1 a2 a3 a4 h => k_fb_X12_leftBy q0 (g_X12_leftBy n) (kg_X12_leftBy q0 n) a0 a1 a2 a3 a4 h), (fun a0 a1 a2 a3 a4 a5 a6 h => k_fb_X12_slipBy q0 (g_X12_leftBy n) (kg_X12_leftBy q0 n) a0 a1 a2 a3 a4 a5 a6 h), (fun a0 a1 a2 a3 h => k_fb_X12_leftOf q0 (g_X12_leftBy n) (kg_X12_leftBy q0 n) a0 a1 a2 a3 h)⟩
theorem k_f_X12_leftBy (q0 : SS) (x0 : SS) (x1 : Int32) (x2 : Int32) (x3 : Int32) (x4 : Int64) (h : Fr wK vK q0 x0) : KO q0 (f_X12_leftBy x0 x1 x2 x3 x4) (fun r => r.2) := (kg_X12_leftBy q0 60).1 x0 x1 x2 x3 x4 h
theorem k_f_X12_slipBy (q0 : SS) (x0 : SS) (x1 : Int32) (x2 : Int32) (x3 : Int32) (x4 : Int64) (x5 : Int32) (x6 : Int32) (h : Fr wK vK q0 x0) : KO q0 (f_X12_slipBy x0 x1 x2 x3 x4 x5 x6) (fun r => r.2) := (kg_X12_leftBy q0 60).2.1 x0 x1 x2 x3 x4 x5 x6 h
theorem k_f_X12_leftOf (q0 : SS) (x0 : SS) (x1 : Int32) (x2 : Int32) (x3 : Int32) (h : Fr wK vK q0 x0) : KO q0 (f_X12_leftOf x0 x1 x2 x3) (fun r => r.2) := (kg_X12_leftBy q0 60).2.2 x0 x1 x2 x3 h
theorem k_b_X12_first_157 (q0 : SS) (rec_67 : SS → Int32 → Int32 → Int64 → Int64 → Int32 → Option (Int32 × SS)) (h_rec_67 : ∀ (a0 : SS) (a1 : Int32) (a2 : Int32) (a3 : Int64) (a4 : Int64) (a5 : Int32), Fr wK vK q0 a0 → KO q0 (rec_67 a0 a1 a2 a3 a4 a5) (fun r => r.2)) (q : SS) (l1 : Int32) (l2 : Int32) (l3 : Int64) (l5 : Int64) (l7 : Int32) (h : Fr wK vK q0 q) : KO q0 (b_X12_first_157 rec_67 q l1 l2 l3 l5 l7) (fun r => r.2) := by
  unfold b_X12_first_157
  exact (h_rec_67 q l1 l2 l3 l5 (l7 + (1 : Int32)) h)
theorem k_b_X12_first_151 (q0 : SS) (rec_67 : SS → Int32 → Int32 → Int64 → Int64 → Int32 → Option (Int32 × SS)) (h_rec_67 : ∀ (a0 : SS) (a1 : Int32) (a2 : Int32) (a3 : Int64) (a4 : Int64) (a5 : Int32), Fr wK vK q0 a0 → KO q0 (rec_67 a0 a1 a2 a3 a4 a5) (fun r => r.2)) (rec_104 : SS → Int32 → Int32 → Int64 → Int64 → Int32 → Int32 → Option (Int32 × SS)) (h_rec_104 : ∀ (a0 : SS) (a1 : Int32) (a2 : Int32) (a3 : Int64) (a4 : Int64) (a5 : Int32) (a6 : Int32), Fr wK vK q0 a0 → KO q0 (rec_104 a0 a1 a2 a3 a4 a5 a6) (fun r => r.2)) (q : SS) (l1 : Int32) (l2 : Int32) (l3 : Int64) (l5 : Int64) (l7 : Int32) (l8 : Int32) (h : Fr wK vK q0 q) : KO q0 (b_X12_first_151 rec_67 rec_104 q l1 l2 l3 l5 l7 l8) (fun r => r.2) := by
  unfold b_X12_first_151
  exact (h_rec_104 q l1 l2 l3 l5 l7 (l8 + (1 : Int32)) h)
theorem k_b_X12_first_104 (q0 : SS) (rec_67 : SS → Int32 → Int32 → Int64 → Int64 → Int32 → Option (Int32 × SS)) (h_rec_67 : ∀ (a0 : SS) (a1 : Int32) (a2 : Int32) (a3 : Int64) (a4 : Int64) (a5 : Int32), Fr wK vK q0 a0 → KO q0 (rec_67 a0 a1 a2 a3 a4 a5) (fun r => r.2)) (x0 : SS) (x1 : Int32) (x2 : Int32) (x3 : Int64) (x4 : Int64) (x5 : Int32) (x6 : Int32) (h : Fr wK vK q0 x0) : KO q0 (b_X12_first_104 rec_67 x0 x1 x2 x3 x4 x5 x6) (fun r => r.2) := by
  unfold b_X12_first_104
  refine KO_fx7 (fun rec_104 h_rec_104 q l1 l2 l3 l5 l7 l8 h => ?_) FU x0 x1 x2 x3 x4 x5 x6 h
  exact (KO_i (k_b_X12_first_157 q0 rec_67 h_rec_67 q l1 l2 l3 l5 l7 h) (KO_bp (fun r7 => (KO_i (k_b_X12_first_151 q0 rec_67 h_rec_67 rec_104 h_rec_104 q l1 l2 l3 l5 l7 l8 h) (KO_b (k_f_X12_slipBy q0 q l1 l2 (0 : Int32) l3 l7 l8 h) (fun r8 h_r8 => (KO_i (KO_some h_r8) (k_b_X12_first_151 q0 rec_67 h_rec_67 rec_104 h_rec_104 r8.2 l1 l2 l3 l5 l7 l8 h_r8))))))))
theorem k_b_X12_first_67 (q0 : SS)  (x0 : SS) (x1 : Int32) (x2 : Int32) (x3 : Int64) (x4 : Int64) (x5 : Int32) (h : Fr wK vK q0 x0) : KO q0 (b_X12_first_67 x0 x1 x2 x3 x4 x5) (fun r => r.2) := by
  unfold b_X12_first_67
  refine KO_fx6 (fun rec_67 h_rec_67 q l1 l2 l3 l5 l7 h => ?_) FU x0 x1 x2 x3 x4 x5 h
  exact (KO_i (KO_some h) (KO_ic (fun c0 => (KO_i (KO_ic (fun c1 => (KO_i (k_b_X12_first_157 q0 rec_67 h_rec_67 q l1 l2 l3 l5 l7 h) (k_b_X12_first_104 q0 rec_67 h_rec_67 q l1 l2 l3 l5 l7 (0 : Int32) h))) KO_none) (k_b_X12_first_157 q0 rec_67 h_rec_67 q l1 l2 l3 l5 l7 h))) KO_none))
theorem k_f_X12_first (q0 : SS) (q : SS) (a1 : Int32) (a2 : Int32) (h : Fr wK vK q0 q) : KO q0 (f_X12_first q a1 a2) (fun r => r.2) := by
  unfold f_X12_first
  exact (KO_bp (fun r1 => (KO_i (KO_some h) (KO_bp (fun r2 => (KO_i (KO_some h) (KO_b (k_f_X12_layNow q0 q h) (fun r3 h_r3 => (KO_i (KO_some h_r3) (KO_b (k_f_X12_leftOf q0 r3 a1 (a2 - (1 : Int32)) (1 : Int32) h_r3) (fun r4 h_r4 => (KO_nv (fun v5 => (KO_b (k_f_X12_leftBy q0 r4.2 a1 a2 (0 : Int32) v5 h_r4) (fun r6 h_r6 => (KO_i (KO_some h_r6) (k_b_X12_first_67 q0 r6.2 a1 a2 v5 r6.1 (0 : Int32) h_r6)))))))))))))))))
theorem k_f_X6_freeAtBest (q0 : SS) (q : SS) (h : Fr wK vK q0 q) : KO q0 (f_X6_freeAtBest q) (fun r => r.2) := by
  unfold f_X6_freeAtBest
  exact (KO_i (KO_some h) (KO_b (k_f_X6_best q0 q (0 : Int32) (0 : Int32) h) (fun r1 h_r1 => (KO_some h_r1))))
theorem k_f_X11_rid (q0 : SS) (q : SS) (a1 : Int32) (a2 : Int32) (a3 : Int32) (h : Fr wK vK q0 q) : KO q0 (f_X11_rid q a1 a2 a3) (fun r => r.2) := by
  unfold f_X11_rid
  exact (KO_bp (fun r1 => (KO_i (KO_some h) (KO_i (KO_some h) (KO_i (KO_some h) (KO_bp (fun r2 => (KO_i (KO_some h) (KO_b (k_f_X6_begin q0 q a1 a2 h) (fun r3 h_r3 => (KO_b (k_f_X6_freeAtBest q0 r3 h_r3) (fun r4 h_r4 => (KO_bp (fun r5 => (KO_bp (fun r6 => (KO_some h_r4)))))))))))))))))
theorem k_b_X12_rid_53 (q0 : SS)  (x0 : SS) (x1 : Int32) (x2 : Int32) (x3 : Int32) (x4 : Int64) (x5 : Int32) (h : Fr wK vK q0 x0) : KO q0 (b_X12_rid_53 x0 x1 x2 x3 x4 x5) (fun r => r.2) := by
  unfold b_X12_rid_53
  refine KO_fx6 (fun rec_53 h_rec_53 q l1 l2 l3 l4 l6 h => ?_) FU x0 x1 x2 x3 x4 x5 h
  exact (KO_i (KO_b (k_f_X12_leftOf q0 q l1 l2 (0 : Int32) h) (fun r7 h_r7 => (KO_bp (fun r8 => (KO_some h_r7))))) (KO_nv (fun v9 => (h_rec_53 q l1 l2 l3 v9 (l6 + (1 : Int32)) h))))
theorem k_f_X12_rid (q0 : SS) (q : SS) (a1 : Int32) (a2 : Int32) (a3 : Int32) (h : Fr wK vK q0 q) : KO q0 (f_X12_rid q a1 a2 a3) (fun r => r.2) := by
  unfold f_X12_rid
  exact (KO_bp (fun r1 => (KO_i (KO_some h) (KO_bp (fun r2 => (KO_i (KO_some h) (KO_bp (fun r3 => (KO_i (KO_some h) (KO_b (k_f_X12_layNow q0 q h) (fun r4 h_r4 => (KO_bp (fun r5 => (KO_nv (fun v6 => (KO_i (KO_some h_r4) (k_b_X12_rid_53 q0 r4 a1 a2 a3 v6 (0 : Int32) h_r4)))))))))))))))))
theorem k_b_X11_watch_92 (q0 : SS) (rec_27 : SS → Int32 → Int32 → Int32 → Int32 → Option (Int32 × SS)) (h_rec_27 : ∀ (a0 : SS) (a1 : Int32) (a2 : Int32) (a3 : Int32) (a4 : Int32), Fr wK vK q0 a0 → KO q0 (rec_27 a0 a1 a2 a3 a4) (fun r => r.2)) (q : SS) (l1 : Int32) (l3 : Int32) (l4 : Int32) (l5 : Int32) (h : Fr wK vK q0 q) : KO q0 (b_X11_watch_92 rec_27 q l1 l3 l4 l5) (fun r => r.2) := by
  unfold b_X11_watch_92
  exact (h_rec_27 q l1 l3 l4 (l5 + (1 : Int32)) h)
theorem k_b_X11_watch_85 (q0 : SS) (rec_27 : SS → Int32 → Int32 → Int32 → Int32 → Option (Int32 × SS)) (h_rec_27 : ∀ (a0 : SS) (a1 : Int32) (a2 : Int32) (a3 : Int32) (a4 : Int32), Fr wK vK q0 a0 → KO q0 (rec_27 a0 a1 a2 a3 a4) (fun r => r.2)) (q : SS) (l1 : Int32) (l5 : Int32) (l6 : Int32) (l7 : Int32) (h : Fr wK vK q0 q) : KO q0 (b_X11_watch_85 rec_27 q l1 l5 l6 l7) (fun r => r.2) := by
  unfold b_X11_watch_85
  exact (k_b_X11_watch_92 q0 rec_27 h_rec_27 q l1 l6 l7 l5 h)
theorem k_b_X11_watch_27 (q0 : SS)  (x0 : SS) (x1 : Int32) (x2 : Int32) (x3 : Int32) (x4 : Int32) (h : Fr wK vK q0 x0) : KO q0 (b_X11_watch_27 x0 x1 x2 x3 x4) (fun r => r.2) := by
  unfold b_X11_watch_27
  refine KO_fx5 (fun rec_27 h_rec_27 q l1 l3 l4 l5 h => ?_) FU x0 x1 x2 x3 x4 h
  exact (KO_bp (fun r3 => (KO_i (KO_i (KO_some h) (KO_some h)) (KO_bp (fun r5 => (KO_i (k_b_X11_watch_92 q0 rec_27 h_rec_27 q l1 l3 l4 l5 h) (KO_b (k_f_X8_oddsOf q0 q l5 l1 h) (fun r6 h_r6 => (KO_bp (fun r7 => (KO_i (k_b_X11_watch_85 q0 rec_27 h_rec_27 r6.2 l1 l5 r6.1 r7 h_r6) (KO_i (KO_i (k_b_X11_watch_92 q0 rec_27 h_rec_27 r6.2 l1 l3 l4 l5 h_r6) (k_b_X11_watch_85 q0 rec_27 h_rec_27 r6.2 l1 l5 r6.1 r7 h_r6)) (k_b_X11_watch_92 q0 rec_27 h_rec_27 r6.2 l1 l3 l4 l5 h_r6)))))))))))))
theorem k_f_X11_watch (q0 : SS) (q : SS) (a1 : Int32) (h : Fr wK vK q0 q) : KO q0 (f_X11_watch q a1) (fun r => r.2) := by
  unfold f_X11_watch
  exact (KO_bp (fun r1 => (KO_i (KO_some h) (KO_b (k_f_X11_now q0 q h) (fun r2 h_r2 => (k_b_X11_watch_27 q0 r2 a1 (-1 : Int32) (-2 : Int32) (0 : Int32) h_r2))))))
theorem k_b_X12_watch_93 (q0 : SS) (rec_22 : SS → Int32 → Int32 → Int32 → Int32 → Option (Int32 × SS)) (h_rec_22 : ∀ (a0 : SS) (a1 : Int32) (a2 : Int32) (a3 : Int32) (a4 : Int32), Fr wK vK q0 a0 → KO q0 (rec_22 a0 a1 a2 a3 a4) (fun r => r.2)) (q : SS) (l1 : Int32) (l2 : Int32) (l3 : Int32) (l4 : Int32) (h : Fr wK vK q0 q) : KO q0 (b_X12_watch_93 rec_22 q l1 l2 l3 l4) (fun r => r.2) := by
  unfold b_X12_watch_93
  exact (h_rec_22 q l1 l2 l3 (l4 + (1 : Int32)) h)
theorem k_b_X12_watch_87 (q0 : SS) (rec_22 : SS → Int32 → Int32 → Int32 → Int32 → Option (Int32 × SS)) (h_rec_22 : ∀ (a0 : SS) (a1 : Int32) (a2 : Int32) (a3 : Int32) (a4 : Int32), Fr wK vK q0 a0 → KO q0 (rec_22 a0 a1 a2 a3 a4) (fun r => r.2)) (q : SS) (l1 : Int32) (l4 : Int32) (l5 : Int32) (l6 : Int32) (h : Fr wK vK q0 q) : KO q0 (b_X12_watch_87 rec_22 q l1 l4 l5 l6) (fun r => r.2) := by
  unfold b_X12_watch_87
  exact (k_b_X12_watch_93 q0 rec_22 h_rec_22 q l1 l6 l5 l4 h)
theorem k_b_X12_watch_22 (q0 : SS)  (x0 : SS) (x1 : Int32) (x2 : Int32) (x3 : Int32) (x4 : Int32) (h : Fr wK vK q0 x0) : KO q0 (b_X12_watch_22 x0 x1 x2 x3 x4) (fun r => r.2) := by
  unfold b_X12_watch_22
  refine KO_fx5 (fun rec_22 h_rec_22 q l1 l2 l3 l4 h => ?_) FU x0 x1 x2 x3 x4 h
  exact (KO_i (KO_i (KO_some h) (KO_some h)) (KO_bp (fun r4 => (KO_i (k_b_X12_watch_93 q0 rec_22 h_rec_22 q l1 l2 l3 l4 h) (KO_b (k_f_X12_oddsOf q0 q l4 l1 h) (fun r5 h_r5 => (KO_ic (fun c0 => (KO_nv (fun v6 => (KO_i (k_b_X12_watch_87 q0 rec_22 h_rec_22 r5.2 l1 l4 r5.1 v6 h_r5) (KO_i (k_b_X12_watch_93 q0 rec_22 h_rec_22 r5.2 l1 l2 l3 l4 h_r5) (KO_i (KO_i (k_b_X12_watch_87 q0 rec_22 h_rec_22 r5.2 l1 l4 r5.1 v6 h_r5) (k_b_X12_watch_93 q0 rec_22 h_rec_22 r5.2 l1 l2 l3 l4 h_r5)) (k_b_X12_watch_87 q0 rec_22 h_rec_22 r5.2 l1 l4 r5.1 v6 h_r5))))))) KO_none)))))))
theorem k_f_X12_watch (q0 : SS) (q : SS) (a1 : Int32) (h : Fr wK vK q0 q) : KO q0 (f_X12_watch q a1) (fun r => r.2) := by
  unfold f_X12_watch
  exact (KO_bp (fun r1 => (KO_i (KO_some h) (KO_b (k_f_X12_layNow q0 q h) (fun r2 h_r2 => (k_b_X12_watch_22 q0 r2 a1 (-2 : Int32) (0 : Int32) (0 : Int32) h_r2))))))
theorem k_b_X11_likeliest_45 (q0 : SS) (rec_13 : SS → Int32 → Int32 → Int32 → Option (Int32 × SS)) (h_rec_13 : ∀ (a0 : SS) (a1 : Int32) (a2 : Int32) (a3 : Int32), Fr wK vK q0 a0 → KO q0 (rec_13 a0 a1 a2 a3) (fun r => r.2)) (q : SS) (l2 : Int32) (l3 : Int32) (l4 : Int32) (h : Fr wK vK q0 q) : KO q0 (b_X11_likeliest_45 rec_13 q l2 l3 l4) (fun r => r.2) := by
  unfold b_X11_likeliest_45
  exact (h_rec_13 q l2 l3 (l4 + (1 : Int32)) h)
theorem k_b_X11_likeliest_13 (q0 : SS)  (x0 : SS) (x1 : Int32) (x2 : Int32) (x3 : Int32) (h : Fr wK vK q0 x0) : KO q0 (b_X11_likeliest_13 x0 x1 x2 x3) (fun r => r.2) := by
  unfold b_X11_likeliest_13
  refine KO_fx4 (fun rec_13 h_rec_13 q l2 l3 l4 h => ?_) FU x0 x1 x2 x3 h
  exact (KO_bp (fun r2 => (KO_i (KO_some h) (KO_bp (fun r3 => (KO_i (k_b_X11_likeliest_45 q0 rec_13 h_rec_13 q l2 l3 l4 h) (k_b_X11_likeliest_45 q0 rec_13 h_rec_13 q r3 l4 l4 h)))))))
theorem k_f_X11_likeliest (q0 : SS) (q : SS) (h : Fr wK vK q0 q) : KO q0 (f_X11_likeliest q) (fun r => r.2) := by
  unfold f_X11_likeliest
  exact (KO_b (k_f_X11_now q0 q h) (fun r1 h_r1 => (k_b_X11_likeliest_13 q0 r1 (0 : Int32) (-2 : Int32) (0 : Int32) h_r1)))
theorem k_b_X12_likeliest_44 (q0 : SS) (rec_9 : SS → Int32 → Int32 → Option (Int32 × SS)) (h_rec_9 : ∀ (a0 : SS) (a1 : Int32) (a2 : Int32), Fr wK vK q0 a0 → KO q0 (rec_9 a0 a1 a2) (fun r => r.2)) (q : SS) (l1 : Int32) (l2 : Int32) (h : Fr wK vK q0 q) : KO q0 (b_X12_likeliest_44 rec_9 q l1 l2) (fun r => r.2) := by
  unfold b_X12_likeliest_44
  exact (h_rec_9 q l1 (l2 + (1 : Int32)) h)
theorem k_b_X12_likeliest_42 (q0 : SS) (rec_9 : SS → Int32 → Int32 → Option (Int32 × SS)) (h_rec_9 : ∀ (a0 : SS) (a1 : Int32) (a2 : Int32), Fr wK vK q0 a0 → KO q0 (rec_9 a0 a1 a2) (fun r => r.2)) (q : SS) (l2 : Int32) (h : Fr wK vK q0 q) : KO q0 (b_X12_likeliest_42 rec_9 q l2) (fun r => r.2) := by
  unfold b_X12_likeliest_42
  exact (k_b_X12_likeliest_44 q0 rec_9 h_rec_9 q l2 l2 h)
theorem k_b_X12_likeliest_9 (q0 : SS)  (x0 : SS) (x1 : Int32) (x2 : Int32) (h : Fr wK vK q0 x0) : KO q0 (b_X12_likeliest_9 x0 x1 x2) (fun r => r.2) := by
  unfold b_X12_likeliest_9
  refine KO_fx3 (fun rec_9 h_rec_9 q l1 l2 h => ?_) FU x0 x1 x2 h
  exact (KO_i (KO_some h) (KO_bp (fun r2 => (KO_i (k_b_X12_likeliest_44 q0 rec_9 h_rec_9 q l1 l2 h) (KO_i (k_b_X12_likeliest_42 q0 rec_9 h_rec_9 q l2 h) (KO_bp (fun r3 => (KO_bp (fun r4 => (KO_i (k_b_X12_likeliest_44 q0 rec_9 h_rec_9 q l1 l2 h) (k_b_X12_likeliest_42 q0 rec_9 h_rec_9 q l2 h)))))))))))
theorem k_f_X12_likeliest (q0 : SS) (q : SS) (h : Fr wK vK q0 q) : KO q0 (f_X12_likeliest q) (fun r => r.2) := by
  unfold f_X12_likeliest
  exact (KO_b (k_f_X12_layNow q0 q h) (fun r1 h_r1 => (k_b_X12_likeliest_9 q0 r1 (-2 : Int32) (0 : Int32) h_r1)))
theorem k_b_X11_safe_34 (q0 : SS) (rec_9 : SS → Int32 → Int32 → Option (Int32 × SS)) (h_rec_9 : ∀ (a0 : SS) (a1 : Int32) (a2 : Int32), Fr wK vK q0 a0 → KO q0 (rec_9 a0 a1 a2) (fun r => r.2)) (q : SS) (l2 : Int32) (l3 : Int32) (h : Fr wK vK q0 q) : KO q0 (b_X11_safe_34 rec_9 q l2 l3) (fun r => r.2) := by
  unfold b_X11_safe_34
  exact (h_rec_9 q l2 (l3 + (1 : Int32)) h)
theorem k_b_X11_safe_9 (q0 : SS)  (x0 : SS) (x1 : Int32) (x2 : Int32) (h : Fr wK vK q0 x0) : KO q0 (b_X11_safe_9 x0 x1 x2) (fun r => r.2) := by
  unfold b_X11_safe_9
  refine KO_fx3 (fun rec_9 h_rec_9 q l2 l3 h => ?_) FU x0 x1 x2 h
  exact (KO_bp (fun r2 => (KO_i (KO_some h) (KO_bp (fun r3 => (KO_i (KO_nv (fun v4 => (k_b_X11_safe_34 q0 rec_9 h_rec_9 q v4 l3 h))) (k_b_X11_safe_34 q0 rec_9 h_rec_9 q l2 l3 h)))))))
theorem k_f_X11_safe (q0 : SS) (q : SS) (h : Fr wK vK q0 q) : KO q0 (f_X11_safe q) (fun r => r.2) := by
  unfold f_X11_safe
  exact (KO_b (k_f_X11_now q0 q h) (fun r1 h_r1 => (k_b_X11_safe_9 q0 r1 (0 : Int32) (0 : Int32) h_r1)))
theorem k_b_X12_safe_30 (q0 : SS) (rec_8 : SS → Int32 → Int32 → Option (Int32 × SS)) (h_rec_8 : ∀ (a0 : SS) (a1 : Int32) (a2 : Int32), Fr wK vK q0 a0 → KO q0 (rec_8 a0 a1 a2) (fun r => r.2)) (q : SS) (l1 : Int32) (l2 : Int32) (h : Fr wK vK q0 q) : KO q0 (b_X12_safe_30 rec_8 q l1 l2) (fun r => r.2) := by
  unfold b_X12_safe_30
  exact (h_rec_8 q l1 (l2 + (1 : Int32)) h)
theorem k_b_X12_safe_8 (q0 : SS)  (x0 : SS) (x1 : Int32) (x2 : Int32) (h : Fr wK vK q0 x0) : KO q0 (b_X12_safe_8 x0 x1 x2) (fun r => r.2) := by
  unfold b_X12_safe_8
  refine KO_fx3 (fun rec_8 h_rec_8 q l1 l2 h => ?_) FU x0 x1 x2 h
  exact (KO_i (KO_some h) (KO_bp (fun r2 => (KO_i (KO_nv (fun v3 => (k_b_X12_safe_30 q0 rec_8 h_rec_8 q v3 l2 h))) (k_b_X12_safe_30 q0 rec_8 h_rec_8 q l1 l2 h)))))
theorem k_f_X12_safe (q0 : SS) (q : SS) (h : Fr wK vK q0 q) : KO q0 (f_X12_safe q) (fun r => r.2) := by
  unfold f_X12_safe
  exact (KO_b (k_f_X12_layNow q0 q h) (fun r1 h_r1 => (k_b_X12_safe_8 q0 r1 (0 : Int32) (0 : Int32) h_r1)))
theorem k_f_X11_king (q0 : SS) (q : SS) (a1 : Int32) (a2 : Int32) (h : Fr wK vK q0 q) : KO q0 (f_X11_king q a1 a2) (fun r => r.2) := by
  unfold f_X11_king
  exact (KO_bp (fun r1 => (KO_i (KO_some h) (KO_bp (fun r2 => (KO_i (KO_some h) (KO_b (k_f_X11_now q0 q h) (fun r3 h_r3 => (KO_bp (fun r4 => (KO_bp (fun r5 => (KO_bp (fun r6 => (KO_some h_r3)))))))))))))))
theorem k_f_X12_king (q0 : SS) (q : SS) (a1 : Int32) (a2 : Int32) (h : Fr wK vK q0 q) : KO q0 (f_X12_king q a1 a2) (fun r => r.2) := by
  unfold f_X12_king
  exact (KO_bp (fun r1 => (KO_i (KO_some h) (KO_bp (fun r2 => (KO_i (KO_some h) (KO_b (k_f_X12_layNow q0 q h) (fun r3 h_r3 => (KO_bp (fun r4 => (KO_bp (fun r5 => (KO_bp (fun r6 => (KO_some h_r3)))))))))))))))

theorem k_b_X2_weighStep_37 (q0 : SS) (q : SS) (l1 : Int32) (l2 : Int32) (s0 : Int64) (s1 : Int64) (h : Fr wK vK q0 q) : KO q0 (b_X2_weighStep_37 q l1 l2 s0 s1) (fun r => r) := by
  unfold b_X2_weighStep_37
  exact (KO_ns (Fr_sL h rfl) (fun q4 h_q4 => (KO_ns (Fr_sL h_q4 rfl) (fun q5 h_q5 => (KO_i (KO_some h_q5) (KO_bp (fun r6 => (KO_bp (fun r7 => (KO_b (k_f_X8_give q0 q5 r6 r7 h_q5) (fun r8 h_r8 => (KO_some h_r8))))))))))))
theorem k_f_X2_weighStep (q0 : SS) (q : SS) (a1 : Int32) (a2 : Int32) (h : Fr wK vK q0 q) : KO q0 (f_X2_weighStep q a1 a2) (fun r => r) := by
  unfold f_X2_weighStep
  exact (KO_bp (fun r1 => (KO_bp (fun r2 => (KO_b (k_f_X8_oddsOf q0 q r1 r2 h) (fun r3 h_r3 => (KO_i (k_b_X2_weighStep_37 q0 r3.2 a1 a2 (((12 : Int32) - r3.1).toInt64) (r3.2.2 37 6) h_r3) (k_b_X2_weighStep_37 q0 r3.2 a1 a2 (r3.1.toInt64) (r3.2.2 37 6) h_r3))))))))
theorem k_b_X2_weighAllThatCan_46 (q0 : SS) (rec_12 : SS → Int32 → Option SS) (h_rec_12 : ∀ (a0 : SS) (a1 : Int32), Fr wK vK q0 a0 → KO q0 (rec_12 a0 a1) (fun r => r)) (q : SS) (l1 : Int32) (h : Fr wK vK q0 q) : KO q0 (b_X2_weighAllThatCan_46 rec_12 q l1) (fun r => r) := by
  unfold b_X2_weighAllThatCan_46
  exact (h_rec_12 q (l1 + (1 : Int32)) h)
theorem k_b_X2_weighAllThatCan_12 (q0 : SS)  (x0 : SS) (x1 : Int32) (h : Fr wK vK q0 x0) : KO q0 (b_X2_weighAllThatCan_12 x0 x1) (fun r => r) := by
  unfold b_X2_weighAllThatCan_12
  refine KO_fx2 (fun rec_12 h_rec_12 q l1 h => ?_) FU x0 x1 h
  exact (KO_i (KO_some h) (KO_bp (fun r3 => (KO_bp (fun r4 => (KO_bp (fun r5 => (KO_i (k_b_X2_weighAllThatCan_46 q0 rec_12 h_rec_12 q l1 h) (KO_b (k_f_X2_weighStep q0 q l1 (1 : Int32) h) (fun r6 h_r6 => (k_b_X2_weighAllThatCan_46 q0 rec_12 h_rec_12 r6 l1 h_r6)))))))))))
theorem k_f_X2_weighAllThatCan (q0 : SS) (q : SS) (h : Fr wK vK q0 q) : KO q0 (f_X2_weighAllThatCan q) (fun r => r) := by
  unfold f_X2_weighAllThatCan
  exact (KO_ns (Fr_sL h rfl) (fun q1 h_q1 => (KO_ns (Fr_sL h_q1 rfl) (fun q2 h_q2 => (k_b_X2_weighAllThatCan_12 q0 q2 (0 : Int32) h_q2)))))
theorem k_f_X11_all (q0 : SS) (q : SS) (a1 : Int32) (a2 : Int32) (h : Fr wK vK q0 q) : KO q0 (f_X11_all q a1 a2) (fun r => r.2) := by
  unfold f_X11_all
  exact (KO_bp (fun r1 => (KO_i (KO_bp (fun r2 => (KO_i (KO_some h) (KO_b (k_f_X2_begin q0 q a1 h) (fun r3 h_r3 => (KO_b (k_f_X2_weighAllThatCan q0 r3 h_r3) (fun r4 h_r4 => (KO_bp (fun r5 => (KO_bp (fun r6 => (KO_bp (fun r7 => (KO_some h_r4)))))))))))))) (KO_some h))))
theorem k_b_X12_all_124 (q0 : SS) (rec_49 : SS → Int32 → Int32 → Int32 → Int64 → Int64 → Int32 → Option (Int64 × SS)) (h_rec_49 : ∀ (a0 : SS) (a1 : Int32) (a2 : Int32) (a3 : Int32) (a4 : Int64) (a5 : Int64) (a6 : Int32), Fr wK vK q0 a0 → KO q0 (rec_49 a0 a1 a2 a3 a4 a5 a6) (fun r => r.2)) (q : SS) (l1 : Int32) (l2 : Int32) (l3 : Int32) (l4 : Int64) (l6 : Int64) (l8 : Int32) (h : Fr wK vK q0 q) : KO q0 (b_X12_all_124 rec_49 q l1 l2 l3 l4 l6 l8) (fun r => r.2) := by
  unfold b_X12_all_124
  exact (h_rec_49 q l1 l2 l3 l4 l6 (l8 + (1 : Int32)) h)
theorem k_b_X12_all_49 (q0 : SS)  (x0 : SS) (x1 : Int32) (x2 : Int32) (x3 : Int32) (x4 : Int64) (x5 : Int64) (x6 : Int32) (h : Fr wK vK q0 x0) : KO q0 (b_X12_all_49 x0 x1 x2 x3 x4 x5 x6) (fun r => r.2) := by
  unfold b_X12_all_49
  refine KO_fx7 (fun rec_49 h_rec_49 q l1 l2 l3 l4 l6 l8 h => ?_) FU x0 x1 x2 x3 x4 x5 x6 h
  exact (KO_i (KO_bp (fun r6 => (KO_some h))) (KO_bp (fun r7 => (KO_nv (fun v8 => (KO_bp (fun r9 => (KO_nv (fun v10 => (KO_bp (fun r11 => (KO_i (k_b_X12_all_124 q0 rec_49 h_rec_49 q l1 l2 l3 l4 l6 l8 h) (KO_b (k_f_X12_oddsOf q0 q v8 v10 h) (fun r12 h_r12 => (KO_nv (fun v13 => (KO_nv (fun v14 => (KO_ic (fun c0 => (KO_ns (Fr_sI h_r12 rfl) (fun q15 h_q15 => (k_b_X12_all_124 q0 rec_49 h_rec_49 q15 l1 l2 l3 v13 v14 l8 h_q15)))) KO_none)))))))))))))))))))
theorem k_f_X12_all (q0 : SS) (q : SS) (a1 : Int32) (a2 : Int32) (h : Fr wK vK q0 q) : KO q0 (f_X12_all q a1 a2) (fun r => r.2) := by
  unfold f_X12_all
  exact (KO_bp (fun r1 => (KO_i (KO_some h) (KO_bp (fun r2 => (KO_i (KO_some h) (KO_bp (fun r3 => (KO_i (KO_b (k_f_X12_layNow q0 q h) (fun r4 h_r4 => (KO_bp (fun r5 => (k_b_X12_all_49 q0 r4 a1 a2 r5 (1 : Int64) (1 : Int64) (0 : Int32) h_r4))))) (KO_some h))))))))))
theorem k_b_X2_weighSet_88 (q0 : SS) (rec_27 : SS → Int32 → Int32 → Int32 → Option SS) (h_rec_27 : ∀ (a0 : SS) (a1 : Int32) (a2 : Int32) (a3 : Int32), Fr wK vK q0 a0 → KO q0 (rec_27 a0 a1 a2 a3) (fun r => r)) (q : SS) (l1 : Int32) (l2 : Int32) (l3 : Int32) (h : Fr wK vK q0 q) : KO q0 (b_X2_weighSet_88 rec_27 q l1 l2 l3) (fun r => r) := by
  unfold b_X2_weighSet_88
  exact (h_rec_27 q l1 l2 (l3 + (1 : Int32)) h)
theorem k_b_X2_weighSet_49 (q0 : SS) (rec_27 : SS → Int32 → Int32 → Int32 → Option SS) (h_rec_27 : ∀ (a0 : SS) (a1 : Int32) (a2 : Int32) (a3 : Int32), Fr wK vK q0 a0 → KO q0 (rec_27 a0 a1 a2 a3) (fun r => r)) (q : SS) (l1 : Int32) (l2 : Int32) (l3 : Int32) (s0 : Int32) (h : Fr wK vK q0 q) : KO q0 (b_X2_weighSet_49 rec_27 q l1 l2 l3 s0) (fun r => r) := by
  unfold b_X2_weighSet_49
  exact (KO_bp (fun r5 => (KO_bp (fun r6 => (KO_bp (fun r7 => (KO_i (KO_i (k_b_X2_weighSet_88 q0 rec_27 h_rec_27 q l1 l2 l3 h) (k_b_X2_weighSet_88 q0 rec_27 h_rec_27 q l1 (0 : Int32) l3 h)) (KO_b (k_f_X2_weighStep q0 q l3 s0 h) (fun r9 h_r9 => (k_b_X2_weighSet_88 q0 rec_27 h_rec_27 r9 l1 l2 l3 h_r9))))))))))
theorem k_b_X2_weighSet_27 (q0 : SS)  (x0 : SS) (x1 : Int32) (x2 : Int32) (x3 : Int32) (h : Fr wK vK q0 x0) : KO q0 (b_X2_weighSet_27 x0 x1 x2 x3) (fun r => r) := by
  unfold b_X2_weighSet_27
  refine KO_fx4 (fun rec_27 h_rec_27 q l1 l2 l3 h => ?_) FU x0 x1 x2 x3 h
  exact (KO_i (KO_i (KO_ns (Fr_sL h rfl) (fun q3 h_q3 => (KO_some h_q3))) (KO_some h)) (KO_i (k_b_X2_weighSet_49 q0 rec_27 h_rec_27 q l1 l2 l3 (1 : Int32) h) (k_b_X2_weighSet_49 q0 rec_27 h_rec_27 q l1 l2 l3 (0 : Int32) h)))
theorem k_b_X2_weighSet_14 (q0 : SS) (q : SS) (l1 : Int32) (s0 : Int32) (h : Fr wK vK q0 q) : KO q0 (b_X2_weighSet_14 q l1 s0) (fun r => r) := by
  unfold b_X2_weighSet_14
  exact (KO_ns (Fr_sL h rfl) (fun q1 h_q1 => (KO_ns (Fr_sL h_q1 rfl) (fun q2 h_q2 => (k_b_X2_weighSet_27 q0 q2 l1 s0 (0 : Int32) h_q2)))))
theorem k_f_X2_weighSet (q0 : SS) (q : SS) (a1 : Int32) (h : Fr wK vK q0 q) : KO q0 (f_X2_weighSet q a1) (fun r => r) := by
  unfold f_X2_weighSet
  exact (KO_i (k_b_X2_weighSet_14 q0 q a1 (1 : Int32) h) (k_b_X2_weighSet_14 q0 q a1 (0 : Int32) h))
theorem k_f_X11_likely (q0 : SS) (q : SS) (a1 : Int32) (a2 : Int32) (a3 : Int32) (h : Fr wK vK q0 q) : KO q0 (f_X11_likely q a1 a2 a3) (fun r => r.2) := by
  unfold f_X11_likely
  exact (KO_bp (fun r1 => (KO_i (KO_i (KO_some h) (KO_i (KO_some h) (KO_bp (fun r2 => (KO_i (KO_some h) (KO_b (k_f_X2_begin q0 q a1 h) (fun r3 h_r3 => (KO_b (k_f_X2_weighSet q0 r3 a2 h_r3) (fun r4 h_r4 => (KO_bp (fun r5 => (KO_bp (fun r6 => (KO_bp (fun r7 => (KO_some h_r4)))))))))))))))) (KO_some h))))
theorem k_b_X12_likely_196 (q0 : SS) (rec_72 : SS → Int32 → Int32 → Int32 → Int32 → Int64 → Int64 → Int32 → Option (Int64 × SS)) (h_rec_72 : ∀ (a0 : SS) (a1 : Int32) (a2 : Int32) (a3 : Int32) (a4 : Int32) (a5 : Int64) (a6 : Int64) (a7 : Int32), Fr wK vK q0 a0 → KO q0 (rec_72 a0 a1 a2 a3 a4 a5 a6 a7) (fun r => r.2)) (q : SS) (l1 : Int32) (l2 : Int32) (l3 : Int32) (l4 : Int32) (l5 : Int64) (l7 : Int64) (l9 : Int32) (h : Fr wK vK q0 q) : KO q0 (b_X12_likely_196 rec_72 q l1 l2 l3 l4 l5 l7 l9) (fun r => r.2) := by
  unfold b_X12_likely_196
  exact (h_rec_72 q l1 l2 l3 l4 l5 l7 (l9 + (1 : Int32)) h)
theorem k_b_X12_likely_171 (q0 : SS) (rec_72 : SS → Int32 → Int32 → Int32 → Int32 → Int64 → Int64 → Int32 → Option (Int64 × SS)) (h_rec_72 : ∀ (a0 : SS) (a1 : Int32) (a2 : Int32) (a3 : Int32) (a4 : Int32) (a5 : Int64) (a6 : Int64) (a7 : Int32), Fr wK vK q0 a0 → KO q0 (rec_72 a0 a1 a2 a3 a4 a5 a6 a7) (fun r => r.2)) (q : SS) (l1 : Int32) (l2 : Int32) (l3 : Int32) (l4 : Int32) (l7 : Int64) (l9 : Int32) (l10 : Int32) (l11 : Int32) (l12 : Int32) (s0 : Int64) (s1 : Int64) (h : Fr wK vK q0 q) : KO q0 (b_X12_likely_171 rec_72 q l1 l2 l3 l4 l7 l9 l10 l11 l12 s0 s1) (fun r => r.2) := by
  unfold b_X12_likely_171
  exact (KO_nv (fun v15 => (KO_nv (fun v16 => (KO_i (k_b_X12_likely_196 q0 rec_72 h_rec_72 q l1 l2 l3 l4 v15 v16 l9 h) (KO_ic (fun c0 => (KO_ns (Fr_sI h rfl) (fun q17 h_q17 => (k_b_X12_likely_196 q0 rec_72 h_rec_72 q17 l1 l2 l3 l4 v15 v16 l9 h_q17)))) KO_none))))))
theorem k_b_X12_likely_118 (q0 : SS) (rec_72 : SS → Int32 → Int32 → Int32 → Int32 → Int64 → Int64 → Int32 → Option (Int64 × SS)) (h_rec_72 : ∀ (a0 : SS) (a1 : Int32) (a2 : Int32) (a3 : Int32) (a4 : Int32) (a5 : Int64) (a6 : Int64) (a7 : Int32), Fr wK vK q0 a0 → KO q0 (rec_72 a0 a1 a2 a3 a4 a5 a6 a7) (fun r => r.2)) (q : SS) (l1 : Int32) (l2 : Int32) (l3 : Int32) (l4 : Int32) (l5 : Int64) (l7 : Int64) (l9 : Int32) (l10 : Int32) (l11 : Int32) (s0 : Int32) (h : Fr wK vK q0 q) : KO q0 (b_X12_likely_118 rec_72 q l1 l2 l3 l4 l5 l7 l9 l10 l11 s0) (fun r => r.2) := by
  unfold b_X12_likely_118
  exact (KO_bp (fun r12 => (KO_i (KO_i (k_b_X12_likely_196 q0 rec_72 h_rec_72 q l1 l2 l3 l4 l5 l7 l9 h) (k_b_X12_likely_196 q0 rec_72 h_rec_72 q l1 l2 l3 l4 (0 : Int64) l7 l9 h)) (KO_b (k_f_X12_oddsOf q0 q l10 l11 h) (fun r14 h_r14 => (KO_i (k_b_X12_likely_171 q0 rec_72 h_rec_72 r14.2 l1 l2 l3 l4 l7 l9 l10 l11 s0 (((12 : Int32) - r14.1).toInt64) l5 h_r14) (k_b_X12_likely_171 q0 rec_72 h_rec_72 r14.2 l1 l2 l3 l4 l7 l9 l10 l11 s0 (r14.1.toInt64) l5 h_r14)))))))
theorem k_b_X12_likely_72 (q0 : SS)  (x0 : SS) (x1 : Int32) (x2 : Int32) (x3 : Int32) (x4 : Int32) (x5 : Int64) (x6 : Int64) (x7 : Int32) (h : Fr wK vK q0 x0) : KO q0 (b_X12_likely_72 x0 x1 x2 x3 x4 x5 x6 x7) (fun r => r.2) := by
  unfold b_X12_likely_72
  refine KO_fx8 (fun rec_72 h_rec_72 q l1 l2 l3 l4 l5 l7 l9 h => ?_) FU x0 x1 x2 x3 x4 x5 x6 x7 h
  exact (KO_i (KO_bp (fun r7 => (KO_some h))) (KO_bp (fun r8 => (KO_nv (fun v9 => (KO_bp (fun r10 => (KO_nv (fun v11 => (KO_i (k_b_X12_likely_118 q0 rec_72 h_rec_72 q l1 l2 l3 l4 l5 l7 l9 v9 v11 (1 : Int32) h) (k_b_X12_likely_118 q0 rec_72 h_rec_72 q l1 l2 l3 l4 l5 l7 l9 v9 v11 (0 : Int32) h)))))))))))
theorem k_b_X12_likely_64 (q0 : SS) (q : SS) (l1 : Int32) (l2 : Int32) (l3 : Int32) (l4 : Int32) (s0 : Int64) (h : Fr wK vK q0 q) : KO q0 (b_X12_likely_64 q l1 l2 l3 l4 s0) (fun r => r.2) := by
  unfold b_X12_likely_64
  exact (k_b_X12_likely_72 q0 q l1 l2 l3 l4 s0 (1 : Int64) (0 : Int32) h)
theorem k_f_X12_likely (q0 : SS) (q : SS) (a1 : Int32) (a2 : Int32) (a3 : Int32) (h : Fr wK vK q0 q) : KO q0 (f_X12_likely q a1 a2 a3) (fun r => r.2) := by
  unfold f_X12_likely
  exact (KO_bp (fun r1 => (KO_i (KO_some h) (KO_bp (fun r2 => (KO_i (KO_some h) (KO_bp (fun r3 => (KO_i (KO_some h) (KO_bp (fun r4 => (KO_i (KO_b (k_f_X12_layNow q0 q h) (fun r5 h_r5 => (KO_bp (fun r6 => (KO_i (k_b_X12_likely_64 q0 r5 a1 a2 a3 r6 (1 : Int64) h_r5) (k_b_X12_likely_64 q0 r5 a1 a2 a3 r6 (0 : Int64) h_r5)))))) (KO_some h)))))))))))))
theorem k_b_X2_goByWell_109 (q0 : SS) (rec_12 : SS → Int32 → Int32 → Option SS) (h_rec_12 : ∀ (a0 : SS) (a1 : Int32) (a2 : Int32), Fr wK vK q0 a0 → KO q0 (rec_12 a0 a1 a2) (fun r => r)) (q : SS) (l1 : Int32) (l2 : Int32) (h : Fr wK vK q0 q) : KO q0 (b_X2_goByWell_109 rec_12 q l1 l2) (fun r => r) := by
  unfold b_X2_goByWell_109
  exact (h_rec_12 q l1 (l2 + (1 : Int32)) h)
theorem k_b_X2_goByWell_12 (q0 : SS)  (x0 : SS) (x1 : Int32) (x2 : Int32) (h : Fr wK vK q0 x0) : KO q0 (b_X2_goByWell_12 x0 x1 x2) (fun r => r) := by
  unfold b_X2_goByWell_12
  refine KO_fx3 (fun rec_12 h_rec_12 q l1 l2 h => ?_) FU x0 x1 x2 h
  exact (KO_i (KO_some h) (KO_i (KO_some h) (KO_bp (fun r3 => (KO_bp (fun r4 => (KO_bp (fun r5 => (KO_i (KO_ns (Fr_sI h rfl) (fun q6 h_q6 => (k_b_X2_goByWell_109 q0 rec_12 h_rec_12 q6 l1 l2 h_q6))) (KO_bp (fun r7 => (KO_bp (fun r8 => (KO_b (k_f_X8_oddsOf q0 q r7 r8 h) (fun r9 h_r9 => (KO_i (k_b_X2_goByWell_109 q0 rec_12 h_rec_12 r9.2 l1 l2 h_r9) (KO_ns (Fr_sI h_r9 rfl) (fun q10 h_q10 => (KO_bp (fun r11 => (KO_bp (fun r12 => (KO_b (k_f_X8_give q0 q10 r11 r12 h_q10) (fun r13 h_r13 => (k_b_X2_goByWell_109 q0 rec_12 h_rec_12 r13 l1 l2 h_r13)))))))))))))))))))))))))
theorem k_f_X2_goByWell (q0 : SS) (q : SS) (a1 : Int32) (h : Fr wK vK q0 q) : KO q0 (f_X2_goByWell q a1) (fun r => r) := by
  unfold f_X2_goByWell
  exact (KO_ns (Fr_sI h rfl) (fun q1 h_q1 => (KO_ns (Fr_sI h_q1 rfl) (fun q2 h_q2 => (k_b_X2_goByWell_12 q0 q2 a1 (0 : Int32) h_q2)))))
theorem k_b_X11_eve_45 (q0 : SS) (q : SS) (l1 : Int32) (l2 : Int32) (l3 : Int32) (h : Fr wK vK q0 q) : KO q0 (b_X11_eve_45 q l1 l2 l3) (fun r => r.2) := by
  unfold b_X11_eve_45
  exact (KO_bp (fun r2 => (KO_i (KO_b (k_f_X2_begin q0 q l1 h) (fun r3 h_r3 => (KO_b (k_f_X2_goByWell q0 r3 l2 h_r3) (fun r4 h_r4 => (KO_i (KO_bp (fun r5 => (KO_some h_r4))) (KO_i (KO_bp (fun r6 => (KO_some h_r4))) (KO_bp (fun r7 => (KO_some h_r4))))))))) (KO_some h))))
theorem k_f_X11_eve (q0 : SS) (q : SS) (a1 : Int32) (a2 : Int32) (a3 : Int32) (h : Fr wK vK q0 q) : KO q0 (f_X11_eve q a1 a2 a3) (fun r => r.2) := by
  unfold f_X11_eve
  exact (KO_bp (fun r1 => (KO_i (KO_some h) (KO_i (KO_some h) (KO_i (KO_some h) (KO_i (k_b_X11_eve_45 q0 q a1 a2 a3 h) (KO_i (k_b_X11_eve_45 q0 q a1 a2 a3 h) (KO_bp (fun r11 => (KO_i (KO_some h) (k_b_X11_eve_45 q0 q a1 a2 a3 h)))))))))))
theorem k_b_X12_goEve_113 (q0 : SS) (rec_24 : SS → Int32 → Int32 → Int32 → Option SS) (h_rec_24 : ∀ (a0 : SS) (a1 : Int32) (a2 : Int32) (a3 : Int32), Fr wK vK q0 a0 → KO q0 (rec_24 a0 a1 a2 a3) (fun r => r)) (q : SS) (l1 : Int32) (l3 : Int32) (l4 : Int32) (h : Fr wK vK q0 q) : KO q0 (b_X12_goEve_113 rec_24 q l1 l3 l4) (fun r => r) := by
  unfold b_X12_goEve_113
  exact (h_rec_24 q l1 l3 (l4 + (1 : Int32)) h)
theorem k_b_X12_goEve_24 (q0 : SS)  (x0 : SS) (x1 : Int32) (x2 : Int32) (x3 : Int32) (h : Fr wK vK q0 x0) : KO q0 (b_X12_goEve_24 x0 x1 x2 x3) (fun r => r) := by
  unfold b_X12_goEve_24
  refine KO_fx4 (fun rec_24 h_rec_24 q l1 l3 l4 h => ?_) FU x0 x1 x2 x3 h
  exact (KO_i (KO_some h) (KO_bp (fun r5 => (KO_nv (fun v6 => (KO_bp (fun r7 => (KO_nv (fun v8 => (KO_bp (fun r9 => (KO_i (KO_ns (Fr_sI h rfl) (fun q10 h_q10 => (k_b_X12_goEve_113 q0 rec_24 h_rec_24 q10 l1 l3 l4 h_q10))) (KO_b (k_f_X12_oddsOf q0 q v6 v8 h) (fun r11 h_r11 => (KO_i (k_b_X12_goEve_113 q0 rec_24 h_rec_24 r11.2 l1 l3 l4 h_r11) (KO_ic (fun c0 => (KO_ns (Fr_sI h_r11 rfl) (fun q12 h_q12 => (KO_ns (Fr_sI h_q12 rfl) (fun q13 h_q13 => (k_b_X12_goEve_113 q0 rec_24 h_rec_24 q13 l1 l3 l4 h_q13)))))) KO_none))))))))))))))))
theorem k_f_X12_goEve (q0 : SS) (q : SS) (a1 : Int32) (a2 : Int32) (h : Fr wK vK q0 q) : KO q0 (f_X12_goEve q a1 a2) (fun r => r) := by
  unfold f_X12_goEve
  exact (KO_b (k_f_X12_layNow q0 q h) (fun r1 h_r1 => (KO_ns (Fr_sI h_r1 rfl) (fun q2 h_q2 => (KO_ns (Fr_sI h_q2 rfl) (fun q3 h_q3 => (KO_bp (fun r4 => (k_b_X12_goEve_24 q0 q3 a1 r4 (0 : Int32) h_q3)))))))))
theorem k_f_X12_eve (q0 : SS) (q : SS) (a1 : Int32) (a2 : Int32) (a3 : Int32) (h : Fr wK vK q0 q) : KO q0 (f_X12_eve q a1 a2 a3) (fun r => r.2) := by
  unfold f_X12_eve
  exact (KO_bp (fun r1 => (KO_i (KO_some h) (KO_bp (fun r2 => (KO_i (KO_some h) (KO_bp (fun r3 => (KO_i (KO_some h) (KO_bp (fun r4 => (KO_i (KO_b (k_f_X12_goEve q0 q a1 a2 h) (fun r5 h_r5 => (KO_i (KO_some h_r5) (KO_i (KO_some h_r5) (KO_bp (fun r6 => (KO_some h_r5))))))) (KO_bp (fun r9 => (KO_some h)))))))))))))))
theorem k_f_X11_later (q0 : SS) (q : SS) (a1 : Int32) (a2 : Int32) (a3 : Int32) (h : Fr wK vK q0 q) : KO q0 (f_X11_later q a1 a2 a3) (fun r => r.2) := by
  unfold f_X11_later
  exact (KO_bp (fun r1 => (KO_i (KO_some h) (KO_i (KO_some h) (KO_i (KO_some h) (KO_bp (fun r2 => (KO_i (KO_some h) (KO_bp (fun r3 => (KO_i (KO_b (k_f_X2_begin q0 q a1 h) (fun r4 h_r4 => (KO_b (k_f_X2_goByWell q0 r4 a2 h_r4) (fun r5 h_r5 => (KO_bp (fun r6 => (KO_some h_r5))))))) (KO_some h))))))))))))
theorem k_f_X12_later (q0 : SS) (q : SS) (a1 : Int32) (a2 : Int32) (a3 : Int32) (h : Fr wK vK q0 q) : KO q0 (f_X12_later q a1 a2 a3) (fun r => r.2) := by
  unfold f_X12_later
  exact (KO_bp (fun r1 => (KO_i (KO_some h) (KO_bp (fun r2 => (KO_i (KO_some h) (KO_bp (fun r3 => (KO_i (KO_some h) (KO_bp (fun r4 => (KO_i (KO_b (k_f_X12_goEve q0 q a1 a2 h) (fun r5 h_r5 => (KO_ic (fun c0 => (KO_some h_r5)) KO_none))) (KO_bp (fun r6 => (KO_some h)))))))))))))))
theorem k_f_X11_odds (q0 : SS) (q : SS) (a1 : Int32) (h : Fr wK vK q0 q) : KO q0 (f_X11_odds q a1) (fun r => r.2) := by
  unfold f_X11_odds
  exact (KO_bp (fun r1 => (KO_i (KO_some h) (KO_b (k_f_X11_now q0 q h) (fun r2 h_r2 => (KO_b (k_f_X8_oddsOf q0 r2 (jshr a1 (3 : Int32)) (a1 &&& (7 : Int32)) h_r2) (fun r3 h_r3 => (KO_some h_r3))))))))
theorem k_f_X12_odds (q0 : SS) (q : SS) (a1 : Int32) (h : Fr wK vK q0 q) : KO q0 (f_X12_odds q a1) (fun r => r.2) := by
  unfold f_X12_odds
  exact (KO_bp (fun r1 => (KO_i (KO_some h) (KO_b (k_f_X12_layNow q0 q h) (fun r2 h_r2 => (KO_b (k_f_X12_oddsOf q0 r2 (a1 / (8 : Int32)) (jrem a1 (8 : Int32)) h_r2) (fun r3 h_r3 => (KO_some h_r3))))))))
theorem k_f_X4_clear (q0 : SS) (q : SS) (h : Fr wK vK q0 q) : KO q0 (f_X4_clear q) (fun r => r) := by
  unfold f_X4_clear
  exact (KO_ns (Fr_sI h rfl) (fun q1 h_q1 => (KO_some h_q1)))
theorem k_f_X4_addStep (q0 : SS) (q : SS) (a1 : Int32) (a2 : Int32) (h : Fr wK vK q0 q) : KO q0 (f_X4_addStep q a1 a2) (fun r => r) := by
  unfold f_X4_addStep
  exact (KO_i (KO_some h) (KO_i (KO_ns (Fr_sI h rfl) (fun q1 h_q1 => (KO_i (KO_ns (Fr_sI h_q1 rfl) (fun q2 h_q2 => (KO_ns (Fr_sI h_q2 rfl) (fun q3 h_q3 => (KO_some h_q3))))) KO_none))) KO_none))
theorem k_b_X5_readNumber_48 (q0 : SS) (q : SS) (l1 : Int32) (h : Fr wK vK q0 q) : KO q0 (b_X5_readNumber_48 q l1) (fun r => r) := by
  unfold b_X5_readNumber_48
  exact (KO_b (k_f_X4_addStep q0 q (48 : Int32) l1 h) (fun r1 h_r1 => (KO_some h_r1)))
theorem k_b_X5_readNumber_4 (q0 : SS)  (x0 : SS) (x1 : Int32) (x2 : Int32) (h : Fr wK vK q0 x0) : KO q0 (b_X5_readNumber_4 x0 x1 x2) (fun r => r) := by
  unfold b_X5_readNumber_4
  refine KO_fx3 (fun rec_4 h_rec_4 q l1 l2 h => ?_) FU x0 x1 x2 h
  exact (KO_i (k_b_X5_readNumber_48 q0 q l1 h) (KO_bp (fun r2 => (KO_bp (fun r3 => (KO_i (k_b_X5_readNumber_48 q0 q l1 h) (KO_bp (fun r4 => (KO_nv (fun v5 => (KO_ns (Fr_sI h rfl) (fun q6 h_q6 => (h_rec_4 q6 v5 (l2 + (1 : Int32)) h_q6)))))))))))))
theorem k_f_X5_readNumber (q0 : SS) (q : SS) (h : Fr wK vK q0 q) : KO q0 (f_X5_readNumber q) (fun r => r) := by
  unfold f_X5_readNumber
  exact (k_b_X5_readNumber_4 q0 q (0 : Int32) (0 : Int32) h)
def KG_X5_readJoined (q0 : SS) (r : GT_X5_readJoined) : Prop := (∀ (a0 : SS) (a1 : Int32) (a2 : Int32), Fr wK vK q0 a0 → KO q0 (r.1 a0 a1 a2) (fun r => r.2)) ∧ (∀ (a0 : SS) (a1 : Int32), Fr wK vK q0 a0 → KO q0 (r.2.1 a0 a1) (fun r => r.2)) ∧ (∀ (a0 : SS) (a1 : Int32) (a2 : Int32), Fr wK vK q0 a0 → KO q0 (r.2.2.1 a0 a1 a2) (fun r => r.2)) ∧ (∀ (a0 : SS) (a1 : Int32), Fr wK vK q0 a0 → KO q0 (r.2.2.2 a0 a1) (fun r => r.2))
theorem k_b_X5_readJoined_97 (q0 : SS) (r : GT_X5_readJoined) (hr : KG_X5_readJoined q0 r) (rec_12 : SS → Int32 → Int32 → Int32 → Int32 → Int32 → Option (Int32 × SS)) (h_rec_12 : ∀ (a0 : SS) (a1 : Int32) (a2 : Int32) (a3 : Int32) (a4 : Int32) (a5 : Int32), Fr wK vK q0 a0 → KO q0 (rec_12 a0 a1 a2 a3 a4 a5) (fun r => r.2)) (q : SS) (l1 : Int32) (l2 : Int32) (l4 : Int32) (l5 : Int32) (s0 : Int32) (h : Fr wK vK q0 q) : KO q0 (b_X5_readJoined_97 r rec_12 q l1 l2 l4 l5 s0) (fun r => r.2) := by
  unfold b_X5_readJoined_97
  exact (h_rec_12 q l1 l2 s0 l4 (l5 + (1 : Int32)) h)
theorem k_b_X5_readJoined_12 (q0 : SS) (r : GT_X5_readJoined) (hr : KG_X5_readJoined q0 r) (x0 : SS) (x1 : Int32) (x2 : Int32) (x3 : Int32) (x4 : Int32) (x5 : Int32) (h : Fr wK vK q0 x0) : KO q0 (b_X5_readJoined_12 r x0 x1 x2 x3 x4 x5) (fun r => r.2) := by
  unfold b_X5_readJoined_12
  refine KO_fx6 (fun rec_12 h_rec_12 q l1 l2 l3 l4 l5 h => ?_) FU x0 x1 x2 x3 x4 x5 h
  exact (KO_i (KO_i (KO_some h) KO_none) (KO_i (KO_i (KO_some h) KO_none) (KO_bp (fun r2 => (KO_bp (fun r3 => (KO_i (KO_some h) (KO_i (KO_ns (Fr_sI h rfl) (fun q4 h_q4 => (KO_b (hr.1 q4 (r3 + (1 : Int32)) l2 h_q4) (fun r5 h_r5 => (KO_b (k_f_X4_addStep q0 r5.2 r2 (0 : Int32) h_r5) (fun r6 h_r6 => (KO_i (k_b_X5_readJoined_97 q0 r hr rec_12 h_rec_12 r6 l1 l2 r5.1 l5 (r3 - (1 : Int32)) h_r6) (k_b_X5_readJoined_97 q0 r hr rec_12 h_rec_12 r6 l1 l2 r5.1 l5 r3 h_r6)))))))) (KO_some h)))))))))
theorem k_fb_X5_readJoined (q0 : SS) (r : GT_X5_readJoined) (hr : KG_X5_readJoined q0 r) (q : SS) (a1 : Int32) (a2 : Int32) (h : Fr wK vK q0 q) : KO q0 (fb_X5_readJoined r q a1 a2) (fun r => r.2) := by
  unfold fb_X5_readJoined
  exact (KO_b (hr.2.1 q a2 h) (fun r1 h_r1 => (k_b_X5_readJoined_12 q0 r hr r1.2 a1 a2 (5 : Int32) r1.1 (0 : Int32) h_r1)))
theorem k_b_X5_readOperand_75 (q0 : SS) (r : GT_X5_readJoined) (hr : KG_X5_readJoined q0 r) (q : SS) (l1 : Int32) (l2 : Int32) (h : Fr wK vK q0 q) : KO q0 (b_X5_readOperand_75 r q l1 l2) (fun r => r.2) := by
  unfold b_X5_readOperand_75
  exact (KO_ns (Fr_sI h rfl) (fun q4 h_q4 => (KO_i (KO_b (hr.2.2.2 q4 (l1 + (1 : Int32)) h_q4) (fun r5 h_r5 => (KO_i (KO_some h_r5) KO_none))) (KO_b (hr.2.2.1 q4 l2 (l1 + (1 : Int32)) h_q4) (fun r6 h_r6 => (KO_i (KO_some h_r6) KO_none))))))
theorem k_fb_X5_readOperand (q0 : SS) (r : GT_X5_readJoined) (hr : KG_X5_readJoined q0 r) (q : SS) (a1 : Int32) (h : Fr wK vK q0 q) : KO q0 (fb_X5_readOperand r q a1) (fun r => r.2) := by
  unfold fb_X5_readOperand
  exact (KO_bp (fun r1 => (KO_bp (fun r2 => (KO_bp (fun r3 => (KO_i (KO_i (KO_i (KO_some h) (KO_i (k_b_X5_readOperand_75 q0 r hr q a1 r1 h) (KO_i (k_b_X5_readOperand_75 q0 r hr q a1 r1 h) (KO_i (k_b_X5_readOperand_75 q0 r hr q a1 r1 h) (KO_some h))))) (KO_ns (Fr_sI h rfl) (fun q12 h_q12 => (KO_b (k_f_X4_addStep q0 q12 (110 : Int32) r2 h_q12) (fun r13 h_r13 => (KO_some h_r13)))))) (KO_b (k_f_X5_readNumber q0 q h) (fun r15 h_r15 => (KO_some h_r15))))))))))
theorem k_b_X5_readTurned_23 (q0 : SS) (r : GT_X5_readJoined) (hr : KG_X5_readJoined q0 r) (q : SS) (l3 : Int32) (s0 : Int32) (h : Fr wK vK q0 q) : KO q0 (b_X5_readTurned_23 r q l3 s0) (fun r => r.2) := by
  unfold b_X5_readTurned_23
  exact (KO_b (k_f_X4_addStep q0 q s0 (0 : Int32) h) (fun r2 h_r2 => (KO_i (KO_some h_r2) KO_none)))
theorem k_fb_X5_readTurned (q0 : SS) (r : GT_X5_readJoined) (hr : KG_X5_readJoined q0 r) (q : SS) (a1 : Int32) (a2 : Int32) (h : Fr wK vK q0 q) : KO q0 (fb_X5_readTurned r q a1 a2) (fun r => r.2) := by
  unfold fb_X5_readTurned
  exact (KO_b (hr.2.1 q a2 h) (fun r1 h_r1 => (KO_i (k_b_X5_readTurned_23 q0 r hr r1.2 r1.1 (33 : Int32) h_r1) (k_b_X5_readTurned_23 q0 r hr r1.2 r1.1 (126 : Int32) h_r1))))
theorem k_fb_X5_readEnclosed (q0 : SS) (r : GT_X5_readJoined) (hr : KG_X5_readJoined q0 r) (q : SS) (a1 : Int32) (h : Fr wK vK q0 q) : KO q0 (fb_X5_readEnclosed r q a1) (fun r => r.2) := by
  unfold fb_X5_readEnclosed
  exact (KO_b (hr.1 q (1 : Int32) a1 h) (fun r1 h_r1 => (KO_i (KO_some h_r1) (KO_bp (fun r2 => (KO_i (KO_ns (Fr_sI h_r1 rfl) (fun q3 h_q3 => (KO_some h_q3))) (KO_some h_r1)))))))
theorem kg_X5_readJoined (q0 : SS) : ∀ n, KG_X5_readJoined q0 (g_X5_readJoined n)
  | 0 => ⟨(fun _ _ _ _ => KO_none), (fun _ _ _ => KO_none), (fun _ _ _ _ => KO_none), (fun _ _ _ => KO_none)⟩
  | n + 1 => ⟨(fun a0 a1 a2 h => k_fb_X5_readJoined q0 (g_X5_readJoined n) (kg_X5_readJoined q0 n) a0 a1 a2 h), (fun a0 a1 h => k_fb_X5_readOperand q0 (g_X5_readJoined n) (kg_X5_readJoined q0 n) a0 a1 h), (fun a0 a1 a2 h => k_fb_X5_readTurned q0 (g_X5_readJoined n) (kg_X5_readJoined q0 n) a0 a1 a2 h), (fun a0 a1 h => k_fb_X5_readEnclosed q0 (g_X5_readJoined n) (kg_X5_readJoined q0 n) a0 a1 h)⟩
theorem k_f_X5_readJoined (q0 : SS) (x0 : SS) (x1 : Int32) (x2 : Int32) (h : Fr wK vK q0 x0) : KO q0 (f_X5_readJoined x0 x1 x2) (fun r => r.2) := (kg_X5_readJoined q0 900).1 x0 x1 x2 h
theorem k_b_X5_readLine_47 (q0 : SS) (q : SS) (l1 : Int32) (h : Fr wK vK q0 q) : KO q0 (b_X5_readLine_47 q l1) (fun r => r.2) := by
  unfold b_X5_readLine_47
  exact (KO_b (k_f_X4_addStep q0 q (59 : Int32) (0 : Int32) h) (fun r2 h_r2 => (KO_i (KO_some h_r2) KO_none)))
theorem k_f_X5_readLine (q0 : SS) (q : SS) (h : Fr wK vK q0 q) : KO q0 (f_X5_readLine q) (fun r => r.2) := by
  unfold f_X5_readLine
  exact (KO_b (k_f_X5_readJoined q0 q (1 : Int32) (0 : Int32) h) (fun r1 h_r1 => (KO_i (k_b_X5_readLine_47 q0 r1.2 r1.1 h_r1) (KO_bp (fun r3 => (KO_i (KO_ns (Fr_sI h_r1 rfl) (fun q4 h_q4 => (KO_b (k_f_X4_addStep q0 q4 (63 : Int32) (0 : Int32) h_q4) (fun r5 h_r5 => (KO_b (k_f_X5_readJoined q0 r5 (1 : Int32) (0 : Int32) h_r5) (fun r6 h_r6 => (k_b_X5_readLine_47 q0 r6.2 r6.1 h_r6))))))) (k_b_X5_readLine_47 q0 r1.2 r1.1 h_r1)))))))
theorem k_b_X5_readText_59 (q0 : SS) (q : SS) (l1 : Int32) (h : Fr wK vK q0 q) : KO q0 (b_X5_readText_59 q l1) (fun r => r.2) := by
  unfold b_X5_readText_59
  exact (KO_i (KO_some h) (KO_i (KO_some h) (KO_some h)))
theorem k_b_X5_readText_19 (q0 : SS)  (x0 : SS) (x1 : Int32) (x2 : Int32) (h : Fr wK vK q0 x0) : KO q0 (b_X5_readText_19 x0 x1 x2) (fun r => r.2) := by
  unfold b_X5_readText_19
  refine KO_fx3 (fun rec_19 h_rec_19 q l1 l2 h => ?_) FU x0 x1 x2 h
  exact (KO_i (k_b_X5_readText_59 q0 q l1 h) (KO_i (k_b_X5_readText_59 q0 q l1 h) (KO_bp (fun r6 => (KO_i (KO_ns (Fr_sI h rfl) (fun q7 h_q7 => (KO_b (k_f_X5_readLine q0 q7 h_q7) (fun r8 h_r8 => (h_rec_19 r8.2 r8.1 (l2 + (1 : Int32)) h_r8))))) (k_b_X5_readText_59 q0 q l1 h))))))
theorem k_f_X5_readText (q0 : SS) (q : SS) (h : Fr wK vK q0 q) : KO q0 (f_X5_readText q) (fun r => r.2) := by
  unfold f_X5_readText
  exact (KO_ns (Fr_sI h rfl) (fun q1 h_q1 => (KO_b (k_f_X4_clear q0 q1 h_q1) (fun r2 h_r2 => (KO_b (k_f_X5_readLine q0 r2 h_r2) (fun r3 h_r3 => (k_b_X5_readText_19 q0 r3.2 r3.1 (0 : Int32) h_r3)))))))
theorem k_f_X5_addByte (q0 : SS) (q : SS) (a1 : Int32) (h : Fr wK vK q0 q) : KO q0 (f_X5_addByte q a1) (fun r => r.2) := by
  unfold f_X5_addByte
  exact (KO_i (KO_i (KO_ns (Fr_sI h rfl) (fun q1 h_q1 => (KO_ns (Fr_sI h_q1 rfl) (fun q2 h_q2 => (KO_some h_q2))))) KO_none) (KO_some h))
theorem k_f_X11_feed (q0 : SS) (q : SS) (a1 : Int32) (h : Fr wK vK q0 q) : KO q0 (f_X11_feed q a1) (fun r => r.2) := by
  unfold f_X11_feed
  exact (KO_i (KO_some h) (KO_i (KO_b (k_f_X5_addByte q0 q a1 h) (fun r1 h_r1 => (KO_some h_r1))) (KO_some h)))
theorem k_f_X12_feed (q0 : SS) (q : SS) (a1 : Int32) (h : Fr wK vK q0 q) : KO q0 (f_X12_feed q a1) (fun r => r.2) := by
  unfold f_X12_feed
  exact (KO_bp (fun r1 => (KO_i (KO_some h) (KO_i (KO_some h) (KO_i (KO_ns (Fr_sI h rfl) (fun q2 h_q2 => (KO_ns (Fr_sI h_q2 rfl) (fun q3 h_q3 => (KO_some h_q3))))) KO_none)))))
theorem k_b_X11_of_12 (q0 : SS) (q : SS) (l1 : Int32) (l2 : Int32) (h : Fr wK vK q0 q) : KO q0 (b_X11_of_12 q l1 l2) (fun r => r.2) := by
  unfold b_X11_of_12
  exact (KO_bp (fun r1 => (KO_i (KO_some h) (KO_i (KO_b (k_f_X11_now q0 q h) (fun r2 h_r2 => (KO_bp (fun r3 => (KO_some h_r2))))) (KO_b (k_f_X11_now q0 q h) (fun r4 h_r4 => (KO_bp (fun r5 => (KO_some h_r4)))))))))
theorem k_f_X11_of (q0 : SS) (q : SS) (a1 : Int32) (a2 : Int32) (h : Fr wK vK q0 q) : KO q0 (f_X11_of q a1 a2) (fun r => r.2) := by
  unfold f_X11_of
  exact (KO_i (k_b_X11_of_12 q0 q a1 a2 h) (KO_i (k_b_X11_of_12 q0 q a1 a2 h) (KO_bp (fun r8 => (KO_i (KO_some h) (KO_bp (fun r9 => (KO_some h))))))))
theorem k_f_X12_of (q0 : SS) (q : SS) (a1 : Int32) (a2 : Int32) (h : Fr wK vK q0 q) : KO q0 (f_X12_of q a1 a2) (fun r => r.2) := by
  unfold f_X12_of
  exact (KO_bp (fun r1 => (KO_i (KO_bp (fun r2 => (KO_i (KO_some h) (KO_bp (fun r3 => (KO_some h)))))) (KO_bp (fun r5 => (KO_i (KO_some h) (KO_b (k_f_X12_layNow q0 q h) (fun r6 h_r6 => (KO_i (KO_bp (fun r7 => (KO_some h_r6))) (KO_bp (fun r8 => (KO_some h_r6))))))))))))
theorem k_f_X0_forgetOldest (q0 : SS) (q : SS) (h : Fr wK vK q0 q) : KO q0 (f_X0_forgetOldest q) (fun r => r) := by
  unfold f_X0_forgetOldest
  exact (KO_i (KO_ns (Fr_sR h (fun _ => rfl)) (fun q1 h_q1 => (KO_i (KO_ns (Fr_sR h_q1 (fun _ => rfl)) (fun q2 h_q2 => (KO_i (KO_ns (Fr_sR h_q2 (fun _ => rfl)) (fun q3 h_q3 => (KO_i (KO_ns (Fr_sR h_q3 (fun _ => rfl)) (fun q4 h_q4 => (KO_ns (Fr_sI h_q4 rfl) (fun q5 h_q5 => (KO_some h_q5))))) KO_none))) KO_none))) KO_none))) KO_none)
theorem k_b_X0_add_13 (q0 : SS) (q : SS) (l1 : Int32) (l2 : Int32) (l3 : Int32) (l4 : Int32) (h : Fr wK vK q0 q) : KO q0 (b_X0_add_13 q l1 l2 l3 l4) (fun r => r) := by
  unfold b_X0_add_13
  exact (KO_i (KO_ns (Fr_sI h rfl) (fun q1 h_q1 => (KO_i (KO_ns (Fr_sI h_q1 rfl) (fun q2 h_q2 => (KO_i (KO_ns (Fr_sI h_q2 rfl) (fun q3 h_q3 => (KO_i (KO_ns (Fr_sI h_q3 rfl) (fun q4 h_q4 => (KO_ns (Fr_sI h_q4 rfl) (fun q5 h_q5 => (KO_ns (Fr_sI h_q5 rfl) (fun q6 h_q6 => (KO_some h_q6))))))) KO_none))) KO_none))) KO_none))) KO_none)
theorem k_f_X0_add (q0 : SS) (q : SS) (a1 : Int32) (a2 : Int32) (a3 : Int32) (a4 : Int32) (h : Fr wK vK q0 q) : KO q0 (f_X0_add q a1 a2 a3 a4) (fun r => r) := by
  unfold f_X0_add
  exact (KO_i (k_b_X0_add_13 q0 q a1 a2 a3 a4 h) (KO_b (k_f_X0_forgetOldest q0 q h) (fun r7 h_r7 => (k_b_X0_add_13 q0 r7 a1 a2 a3 a4 h_r7))))
theorem k_f_X11_mend (q0 : SS) (q : SS) (a1 : Int32) (a2 : Int32) (a3 : Int32) (h : Fr wK vK q0 q) : KO q0 (f_X11_mend q a1 a2 a3) (fun r => r.2) := by
  unfold f_X11_mend
  exact (KO_bp (fun r1 => (KO_i (KO_some h) (KO_bp (fun r2 => (KO_i (KO_some h) (KO_bp (fun r3 => (KO_i (KO_some h) (KO_b (k_f_X0_add q0 q a2 a1 r3 a3 h) (fun r4 h_r4 => (KO_b (k_f_X10_set q0 r4 a2 a1 a3 h_r4) (fun r5 h_r5 => (KO_some h_r5))))))))))))))
theorem k_b_X12_changes_121 (q0 : SS) (q : SS) (l1 : Int32) (l2 : Int32) (l3 : Int32) (l4 : Int32) (h : Fr wK vK q0 q) : KO q0 (b_X12_changes_121 q l1 l2 l3 l4) (fun r => r.2) := by
  unfold b_X12_changes_121
  exact (KO_i (KO_ns (Fr_sI h rfl) (fun q4 h_q4 => (KO_i (KO_ns (Fr_sI h_q4 rfl) (fun q5 h_q5 => (KO_i (KO_ns (Fr_sI h_q5 rfl) (fun q6 h_q6 => (KO_i (KO_ns (Fr_sI h_q6 rfl) (fun q7 h_q7 => (KO_ns (Fr_sI h_q7 rfl) (fun q8 h_q8 => (KO_b (k_f_X12_lays q0 q8 l1 l2 l3 h_q8) (fun r9 h_r9 => (KO_some h_r9))))))) KO_none))) KO_none))) KO_none))) KO_none)
theorem k_b_X12_changes_34 (q0 : SS)  (x0 : SS) (x1 : Int32) (x2 : Int32) (x3 : Int32) (x4 : Int32) (x5 : Int32) (h : Fr wK vK q0 x0) : KO q0 (b_X12_changes_34 x0 x1 x2 x3 x4 x5) (fun r => r.2) := by
  unfold b_X12_changes_34
  refine KO_fx6 (fun rec_34 h_rec_34 q l1 l2 l3 l4 l5 h => ?_) FU x0 x1 x2 x3 x4 x5 h
  exact (KO_i (KO_ns (Fr_sI h rfl) (fun q3 h_q3 => (k_b_X12_changes_121 q0 q3 l1 l2 l3 l4 h_q3))) (KO_ic (fun c0 => (KO_i (KO_ns (Fr_sI h rfl) (fun q10 h_q10 => (KO_ic (fun c1 => (KO_i (KO_ns (Fr_sI h_q10 rfl) (fun q11 h_q11 => (KO_ic (fun c2 => (KO_i (KO_ns (Fr_sI h_q11 rfl) (fun q12 h_q12 => (KO_ic (fun c3 => (KO_i (KO_ns (Fr_sI h_q12 rfl) (fun q13 h_q13 => (h_rec_34 q13 l1 l2 l3 l4 (l5 + (1 : Int32)) h_q13))) KO_none)) KO_none))) KO_none)) KO_none))) KO_none)) KO_none))) KO_none)) KO_none))
theorem k_f_X12_changes (q0 : SS) (q : SS) (a1 : Int32) (a2 : Int32) (a3 : Int32) (h : Fr wK vK q0 q) : KO q0 (f_X12_changes q a1 a2 a3) (fun r => r.2) := by
  unfold f_X12_changes
  exact (KO_bp (fun r1 => (KO_i (KO_some h) (KO_ns (Fr_sI h rfl) (fun q2 h_q2 => (KO_i (k_b_X12_changes_34 q0 q2 a1 a2 a3 r1 (1 : Int32) h_q2) (k_b_X12_changes_121 q0 q2 a1 a2 a3 r1 h_q2)))))))
theorem k_f_X12_mend (q0 : SS) (q : SS) (a1 : Int32) (a2 : Int32) (a3 : Int32) (h : Fr wK vK q0 q) : KO q0 (f_X12_mend q a1 a2 a3) (fun r => r.2) := by
  unfold f_X12_mend
  exact (KO_bp (fun r1 => (KO_i (KO_some h) (KO_bp (fun r2 => (KO_i (KO_some h) (KO_b (k_f_X12_changes q0 q a2 a1 a3 h) (fun r3 h_r3 => (KO_some h_r3)))))))))
theorem k_f_X10_addTicket (q0 : SS) (q : SS) (a1 : Int32) (a2 : Int32) (a3 : Int32) (h : Fr wK vK q0 q) : KO q0 (f_X10_addTicket q a1 a2 a3) (fun r => r.2) := by
  unfold f_X10_addTicket
  exact (KO_i (KO_ns (Fr_sI h rfl) (fun q1 h_q1 => (KO_b (k_f_X10_set q0 q1 (4 : Int32) ((q1.1 1 2) - (1 : Int32)) a1 h_q1) (fun r2 h_r2 => (KO_b (k_f_X10_set q0 r2 (5 : Int32) ((r2.1 1 2) - (1 : Int32)) a2 h_r2) (fun r3 h_r3 => (KO_b (k_f_X10_set q0 r3 (6 : Int32) ((r3.1 1 2) - (1 : Int32)) a3 h_r3) (fun r4 h_r4 => (KO_some h_r4))))))))) (KO_some h))
theorem k_f_X11_addFromRow (q0 : SS) (q : SS) (a1 : Int32) (a2 : Int32) (a3 : Int32) (h : Fr wK vK q0 q) : KO q0 (f_X11_addFromRow q a1 a2 a3) (fun r => r.2) := by
  unfold f_X11_addFromRow
  exact (KO_nv (fun v1 => (KO_bp (fun r2 => (KO_i (KO_bp (fun r3 => (KO_nv (fun v4 => (KO_bp (fun r5 => (KO_nv (fun v6 => (KO_bp (fun r7 => (KO_nv (fun v8 => (KO_bp (fun r9 => (KO_i (KO_some h) (KO_bp (fun r10 => (KO_i (KO_some h) (KO_bp (fun r11 => (KO_i (KO_some h) (KO_b (k_f_X10_addTicket q0 q v4 v6 v8 h) (fun r12 h_r12 => (KO_i (KO_some h_r12) (KO_some h_r12))))))))))))))))))))))))) (KO_some h))))))
theorem k_b_X11_tickets_63 (q0 : SS)  (x0 : SS) (x1 : Int32) (x2 : Int32) (x3 : Int32) (x4 : Int32) (x5 : Int32) (h : Fr wK vK q0 x0) : KO q0 (b_X11_tickets_63 x0 x1 x2 x3 x4 x5) (fun r => r.2) := by
  unfold b_X11_tickets_63
  refine KO_fx6 (fun rec_63 h_rec_63 q l1 l2 l3 l5 l6 h => ?_) FU x0 x1 x2 x3 x4 x5 h
  exact (KO_i (KO_some h) (KO_b (k_f_X11_addFromRow q0 q l1 l2 l6 h) (fun r3 h_r3 => (KO_i (KO_some h_r3) (h_rec_63 r3.2 l1 l2 l3 (l5 + (1 : Int32)) (l6 + (1 : Int32)) h_r3)))))
theorem k_f_X11_tickets (q0 : SS) (q : SS) (a1 : Int32) (a2 : Int32) (a3 : Int32) (h : Fr wK vK q0 q) : KO q0 (f_X11_tickets q a1 a2 a3) (fun r => r.2) := by
  unfold f_X11_tickets
  exact (KO_bp (fun r1 => (KO_i (KO_some h) (KO_i (KO_some h) (KO_i (KO_bp (fun r2 => (KO_i (KO_some h) (KO_i (KO_some h) (KO_i (k_b_X11_tickets_63 q0 q a1 a2 a3 (0 : Int32) (0 : Int32) h) (KO_some h)))))) (KO_some h))))))
theorem k_f_X12_addTicket (q0 : SS) (q : SS) (a1 : Int32) (a2 : Int32) (a3 : Int32) (h : Fr wK vK q0 q) : KO q0 (f_X12_addTicket q a1 a2 a3) (fun r => r.2) := by
  unfold f_X12_addTicket
  exact (KO_i (KO_ns (Fr_sI h rfl) (fun q1 h_q1 => (KO_i (KO_ns (Fr_sI h_q1 rfl) (fun q2 h_q2 => (KO_i (KO_ns (Fr_sI h_q2 rfl) (fun q3 h_q3 => (KO_ns (Fr_sI h_q3 rfl) (fun q4 h_q4 => (KO_some h_q4))))) KO_none))) KO_none))) KO_none)
theorem k_b_X12_tickets_58 (q0 : SS)  (x0 : SS) (x1 : Int32) (x2 : Int32) (x3 : Int32) (x4 : Int32) (h : Fr wK vK q0 x0) : KO q0 (b_X12_tickets_58 x0 x1 x2 x3 x4) (fun r => r.2) := by
  unfold b_X12_tickets_58
  refine KO_fx5 (fun rec_58 h_rec_58 q l1 l2 l3 l4 h => ?_) FU x0 x1 x2 x3 x4 h
  exact (KO_i (KO_some h) (KO_nv (fun v3 => (KO_i (KO_some h) (KO_ic (fun c0 => (KO_i (KO_some h) (KO_i (KO_some h) (KO_nv (fun v4 => (KO_ic (fun c1 => (KO_i (KO_bp (fun r5 => (KO_i (KO_some h) (KO_i (KO_bp (fun r6 => (KO_i (KO_some h) (KO_ic (fun c2 => (KO_i (KO_i (KO_b (k_f_X12_addTicket q0 q ((q.2 91 v4.toNatClampNeg).toInt32) ((q.2 91 (v4 + (1 : Int32)).toNatClampNeg).toInt32) ((q.2 91 (v4 + (2 : Int32)).toNatClampNeg).toInt32) h) (fun r7 h_r7 => (h_rec_58 r7.2 l1 l2 l3 (l4 + (1 : Int32)) h_r7))) KO_none) KO_none)) KO_none)))) KO_none)))) KO_none)) KO_none)))))) KO_none)))))
theorem k_b_X12_tickets_43 (q0 : SS) (q : SS) (l1 : Int32) (l2 : Int32) (l3 : Int32) (h : Fr wK vK q0 q) : KO q0 (b_X12_tickets_43 q l1 l2 l3) (fun r => r.2) := by
  unfold b_X12_tickets_43
  exact (KO_ic (fun c0 => (KO_i (KO_some h) (k_b_X12_tickets_58 q0 q l1 l2 l3 (0 : Int32) h))) KO_none)
theorem k_f_X12_tickets (q0 : SS) (q : SS) (a1 : Int32) (a2 : Int32) (a3 : Int32) (h : Fr wK vK q0 q) : KO q0 (f_X12_tickets q a1 a2 a3) (fun r => r.2) := by
  unfold f_X12_tickets
  exact (KO_bp (fun r1 => (KO_i (KO_some h) (KO_bp (fun r2 => (KO_i (KO_some h) (KO_ic (fun c0 => (KO_i (k_b_X12_tickets_43 q0 q a1 a2 a3 h) (KO_ic (fun c1 => (KO_i (k_b_X12_tickets_43 q0 q a1 a2 a3 h) (KO_some h))) KO_none))) KO_none)))))))
theorem k_f_X11_ticket (q0 : SS) (q : SS) (a1 : Int32) (a2 : Int32) (h : Fr wK vK q0 q) : KO q0 (f_X11_ticket q a1 a2) (fun r => r.2) := by
  unfold f_X11_ticket
  exact (KO_bp (fun r1 => (KO_i (KO_some h) (KO_bp (fun r2 => (KO_i (KO_some h) (KO_b (k_f_X10_addTicket q0 q a1 a2 (0 : Int32) h) (fun r3 h_r3 => (KO_some h_r3)))))))))
theorem k_f_X12_ticket (q0 : SS) (q : SS) (a1 : Int32) (a2 : Int32) (h : Fr wK vK q0 q) : KO q0 (f_X12_ticket q a1 a2) (fun r => r.2) := by
  unfold f_X12_ticket
  exact (KO_bp (fun r1 => (KO_i (KO_some h) (KO_i (KO_some h) (KO_b (k_f_X12_addTicket q0 q a1 a2 (0 : Int32) h) (fun r2 h_r2 => (KO_some h_r2)))))))
theorem k_f_X10_addPerson (q0 : SS) (q : SS) (a1 : Int32) (h : Fr wK vK q0 q) : KO q0 (f_X10_addPerson q a1) (fun r => r.2) := by
  unfold f_X10_addPerson
  exact (KO_i (KO_ns (Fr_sI h rfl) (fun q1 h_q1 => (KO_b (k_f_X10_set q0 q1 (0 : Int32) ((q1.1 1 1) - (1 : Int32)) a1 h_q1) (fun r2 h_r2 => (KO_some h_r2))))) (KO_some h))
theorem k_f_X11_person (q0 : SS) (q : SS) (a1 : Int32) (h : Fr wK vK q0 q) : KO q0 (f_X11_person q a1) (fun r => r.2) := by
  unfold f_X11_person
  exact (KO_bp (fun r1 => (KO_i (KO_some h) (KO_b (k_f_X10_addPerson q0 q a1 h) (fun r2 h_r2 => (KO_some h_r2))))))
theorem k_f_X12_person (q0 : SS) (q : SS) (a1 : Int32) (h : Fr wK vK q0 q) : KO q0 (f_X12_person q a1) (fun r => r.2) := by
  unfold f_X12_person
  exact (KO_bp (fun r1 => (KO_i (KO_some h) (KO_i (KO_some h) (KO_i (KO_ns (Fr_sI h rfl) (fun q2 h_q2 => (KO_i (KO_ns (Fr_sI h_q2 rfl) (fun q3 h_q3 => (KO_i (KO_ns (Fr_sI h_q3 rfl) (fun q4 h_q4 => (KO_i (KO_ns (Fr_sI h_q4 rfl) (fun q5 h_q5 => (KO_ns (Fr_sI h_q5 rfl) (fun q6 h_q6 => (KO_some h_q6))))) KO_none))) KO_none))) KO_none))) KO_none)))))

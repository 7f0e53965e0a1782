theorem k_f_X7_copy (q0 : SS) (q : SS) (a1 : Int32) (a2 : Int32) (a3 : Int32) (a4 : Int32) (a5 : Int32) (h : Fr wK vK q0 q) : KO q0 (f_X7_copy q a1 a2 a3 a4 a5) (fun r => r) := by
  unfold f_X7_copy
  exact (KO_bp (fun r1 => (KO_i (KO_some h) (KO_bp (fun r2 => (KO_i (KO_some h) (KO_bp (fun r3 => (KO_i (KO_some h) (KO_bp (fun r4 => (KO_i (KO_some h) (KO_ic (fun c0 => (KO_ic (fun c1 => (KO_i (KO_ns (Fr_sRL h rfl) (fun q7 h_q7 => (KO_some h_q7))) KO_none)) KO_none)) KO_none)))))))))))))
theorem k_f_X11_shift (q0 : SS) (q : SS) (a1 : Int32) (a2 : Int32) (a3 : Int32) (a4 : Int32) (a5 : Int32) (h : Fr wK vK q0 q) : KO q0 (f_X11_shift q a1 a2 a3 a4 a5) (fun r => r.2) := by
  unfold f_X11_shift
  exact (KO_bp (fun r1 => (KO_i (KO_i (KO_some h) (KO_bp (fun r2 => (KO_i (KO_some h) (KO_bp (fun r3 => (KO_i (KO_some h) (KO_b (k_f_X7_copy q0 q a1 a2 a3 a4 a5 h) (fun r4 h_r4 => (KO_some h_r4)))))))))) (KO_some h))))
theorem k_b_X12_shift_150 (q0 : SS)  (x0 : SS) (x1 : Int32) (x2 : Int32) (x3 : Int32) (x4 : Int32) (h : Fr wK vK q0 x0) : KO q0 (b_X12_shift_150 x0 x1 x2 x3 x4) (fun r => r.2) := by
  unfold b_X12_shift_150
  refine KO_fx5 (fun rec_150 h_rec_150 q l3 l4 l5 l6 h => ?_) FU x0 x1 x2 x3 x4 h
  exact (KO_i (KO_some h) (KO_ic (fun c0 => (KO_i (KO_ns (Fr_sL h rfl) (fun q3 h_q3 => (h_rec_150 q3 l3 l4 l5 (l6 + (1 : Int32)) h_q3))) KO_none)) KO_none))
theorem k_b_X12_shift_113 (q0 : SS)  (x0 : SS) (x1 : Int32) (x2 : Int32) (x3 : Int32) (x4 : Int32) (x5 : Int32) (x6 : Int32) (h : Fr wK vK q0 x0) : KO q0 (b_X12_shift_113 x0 x1 x2 x3 x4 x5 x6) (fun r => r.2) := by
  unfold b_X12_shift_113
  refine KO_fx7 (fun rec_113 h_rec_113 q l1 l2 l3 l4 l5 l6 h => ?_) FU x0 x1 x2 x3 x4 x5 x6 h
  exact (KO_i (k_b_X12_shift_150 q0 q l3 l4 l5 (0 : Int32) h) (KO_i (KO_ic (fun c0 => (KO_ns (Fr_sL h rfl) (fun q5 h_q5 => (h_rec_113 q5 l1 l2 l3 l4 l5 (l6 + (1 : Int32)) h_q5)))) KO_none) KO_none))
theorem k_f_X12_shift (q0 : SS) (q : SS) (a1 : Int32) (a2 : Int32) (a3 : Int32) (a4 : Int32) (a5 : Int32) (h : Fr wK vK q0 q) : KO q0 (f_X12_shift q a1 a2 a3 a4 a5) (fun r => r.2) := by
  unfold f_X12_shift
  exact (KO_bp (fun r1 => (KO_i (KO_some h) (KO_bp (fun r2 => (KO_i (KO_some h) (KO_ic (fun c0 => (KO_i (KO_some h) (KO_ic (fun c1 => (KO_i (KO_some h) (KO_ic (fun c2 => (KO_i (KO_some h) (KO_ic (fun c3 => (KO_ic (fun c4 => (KO_i (KO_i (KO_some h) (KO_i (KO_some h) (KO_i (KO_some h) (KO_ic (fun c5 => (KO_i (KO_some h) (KO_ic (fun c6 => (KO_i (k_b_X12_shift_113 q0 q a1 a2 a3 a4 a5 (0 : Int32) h) (KO_some h))) KO_none))) KO_none)))) (KO_some h))) KO_none)) KO_none))) KO_none))) KO_none))) KO_none)))))))
theorem k_f_X7_set (q0 : SS) (q : SS) (a1 : Int32) (a2 : Int32) (a3 : Int64) (h : Fr wK vK q0 q) : KO q0 (f_X7_set q a1 a2 a3) (fun r => r) := by
  unfold f_X7_set
  exact (KO_bp (fun r1 => (KO_i (KO_some h) (KO_bp (fun r2 => (KO_i (KO_some h) (KO_ic (fun c0 => (KO_ic (fun c1 => (KO_bp (fun r4 => (KO_ic (fun c2 => (KO_ns (Fr_sL h rfl) (fun q5 h_q5 => (KO_some h_q5)))) KO_none)))) KO_none)) KO_none)))))))
theorem k_f_X11_put (q0 : SS) (q : SS) (a1 : Int32) (a2 : Int32) (a3 : Int64) (h : Fr wK vK q0 q) : KO q0 (f_X11_put q a1 a2 a3) (fun r => r.2) := by
  unfold f_X11_put
  exact (KO_bp (fun r1 => (KO_i (KO_b (k_f_X7_set q0 q a1 a2 a3 h) (fun r2 h_r2 => (KO_some h_r2))) (KO_some h))))
theorem k_b_X12_put_95 (q0 : SS) (q : SS) (s0 : Int64) (s1 : Int32) (h : Fr wK vK q0 q) : KO q0 (b_X12_put_95 q s0 s1) (fun r => r.2) := by
  unfold b_X12_put_95
  exact (KO_ic (fun c0 => (KO_ns (Fr_sL h rfl) (fun q3 h_q3 => (KO_some h_q3)))) KO_none)
theorem k_f_X12_put (q0 : SS) (q : SS) (a1 : Int32) (a2 : Int32) (a3 : Int64) (h : Fr wK vK q0 q) : KO q0 (f_X12_put q a1 a2 a3) (fun r => r.2) := by
  unfold f_X12_put
  exact (KO_bp (fun r1 => (KO_i (KO_ic (fun c0 => (KO_nv (fun v2 => (KO_i (k_b_X12_put_95 q0 q (((a3.toInt32).toInt8.toInt32).toInt64) (((60 : Int32) * a1) + a2) h) (KO_i (k_b_X12_put_95 q0 q (((a3.toInt32).toInt16.toInt32).toInt64) (((60 : Int32) * a1) + a2) h) (KO_i (k_b_X12_put_95 q0 q ((a3.toInt32).toInt64) (((60 : Int32) * a1) + a2) h) (KO_i (k_b_X12_put_95 q0 q a3 (((60 : Int32) * a1) + a2) h) (KO_i (k_b_X12_put_95 q0 q (0 : Int64) (((60 : Int32) * a1) + a2) h) (k_b_X12_put_95 q0 q (1 : Int64) (((60 : Int32) * a1) + a2) h))))))))) KO_none) (KO_some h))))
theorem k_b_X7_holdRow_42 (q0 : SS)  (x0 : SS) (x1 : Int32) (x2 : Int32) (x3 : Int32) (h : Fr wK vK q0 x0) : KO q0 (b_X7_holdRow_42 x0 x1 x2 x3) (fun r => r) := by
  unfold b_X7_holdRow_42
  refine KO_fx4 (fun rec_42 h_rec_42 q l1 l3 l4 h => ?_) FU x0 x1 x2 x3 h
  exact (KO_i (KO_some h) (KO_ic (fun c0 => (KO_ic (fun c1 => (KO_ns (Fr_sL h rfl) (fun q6 h_q6 => (h_rec_42 q6 l1 l3 (l4 + (1 : Int32)) h_q6)))) KO_none)) KO_none))
theorem k_f_X7_holdRow (q0 : SS) (q : SS) (a1 : Int32) (a2 : Int32) (a3 : Int32) (h : Fr wK vK q0 q) : KO q0 (f_X7_holdRow q a1 a2 a3) (fun r => r) := by
  unfold f_X7_holdRow
  exact (KO_bp (fun r1 => (KO_i (KO_some h) (KO_bp (fun r2 => (KO_i (KO_some h) (KO_i (KO_some h) (KO_i (KO_some h) (KO_ic (fun c0 => (KO_ns (Fr_sI h rfl) (fun q3 h_q3 => (KO_ic (fun c1 => (KO_ns (Fr_sI h_q3 rfl) (fun q4 h_q4 => (k_b_X7_holdRow_42 q0 q4 a1 a3 (0 : Int32) h_q4)))) KO_none)))) KO_none)))))))))
theorem k_f_X11_row (q0 : SS) (q : SS) (a1 : Int32) (a2 : Int32) (a3 : Int32) (h : Fr wK vK q0 q) : KO q0 (f_X11_row q a1 a2 a3) (fun r => r.2) := by
  unfold f_X11_row
  exact (KO_bp (fun r1 => (KO_i (KO_some h) (KO_bp (fun r2 => (KO_i (KO_some h) (KO_i (KO_i (KO_b (k_f_X7_holdRow q0 q a1 a2 a3 h) (fun r3 h_r3 => (KO_some h_r3))) (KO_some h)) (KO_some h))))))))
theorem k_b_X12_row_54 (q0 : SS)  (x0 : SS) (x1 : Int32) (x2 : Int32) (h : Fr wK vK q0 x0) : KO q0 (b_X12_row_54 x0 x1 x2) (fun r => r.2) := by
  unfold b_X12_row_54
  refine KO_fx3 (fun rec_54 h_rec_54 q l1 l4 h => ?_) FU x0 x1 x2 h
  exact (KO_i (KO_some h) (KO_ic (fun c0 => (KO_ns (Fr_sL h rfl) (fun q6 h_q6 => (h_rec_54 q6 l1 (l4 + (1 : Int32)) h_q6)))) KO_none))
theorem k_f_X12_row (q0 : SS) (q : SS) (a1 : Int32) (a2 : Int32) (a3 : Int32) (h : Fr wK vK q0 q) : KO q0 (f_X12_row q a1 a2 a3) (fun r => r.2) := by
  unfold f_X12_row
  exact (KO_bp (fun r1 => (KO_i (KO_some h) (KO_bp (fun r2 => (KO_i (KO_some h) (KO_i (KO_i (KO_ic (fun c0 => (KO_ns (Fr_sI h rfl) (fun q3 h_q3 => (KO_ic (fun c1 => (KO_ns (Fr_sI h_q3 rfl) (fun q4 h_q4 => (KO_nv (fun v5 => (k_b_X12_row_54 q0 q4 a1 v5 h_q4)))))) KO_none)))) KO_none) (KO_some h)) (KO_some h))))))))
theorem k_f_X7_clear (q0 : SS) (q : SS) (a1 : Int32) (h : Fr wK vK q0 q) : KO q0 (f_X7_clear q a1) (fun r => r) := by
  unfold f_X7_clear
  exact (KO_bp (fun r1 => (KO_i (KO_some h) (KO_ic (fun c0 => (KO_ns (Fr_sI h rfl) (fun q2 h_q2 => (KO_some h_q2)))) KO_none))))
theorem k_f_X7_holdBody (q0 : SS) (q : SS) (a1 : Int32) (a2 : Int32) (h : Fr wK vK q0 q) : KO q0 (f_X7_holdBody q a1 a2) (fun r => r) := by
  unfold f_X7_holdBody
  exact (KO_bp (fun r1 => (KO_i (KO_some h) (KO_ic (fun c0 => (KO_ns (Fr_sI h rfl) (fun q2 h_q2 => (KO_ic (fun c1 => (KO_ns (Fr_sI h_q2 rfl) (fun q3 h_q3 => (KO_some h_q3)))) KO_none)))) KO_none))))
theorem k_b_X11_keep_29 (q0 : SS) (q : SS) (l1 : Int32) (l2 : Int32) (h : Fr wK vK q0 q) : KO q0 (b_X11_keep_29 q l1 l2) (fun r => r.2) := by
  unfold b_X11_keep_29
  exact (KO_i (KO_b (k_f_X7_clear q0 q l1 h) (fun r2 h_r2 => (KO_some h_r2))) (KO_b (k_f_X7_holdBody q0 q l1 l2 h) (fun r3 h_r3 => (KO_some h_r3))))
theorem k_f_X11_keep (q0 : SS) (q : SS) (a1 : Int32) (a2 : Int32) (h : Fr wK vK q0 q) : KO q0 (f_X11_keep q a1 a2) (fun r => r.2) := by
  unfold f_X11_keep
  exact (KO_bp (fun r1 => (KO_i (KO_some h) (KO_i (k_b_X11_keep_29 q0 q a1 a2 h) (KO_bp (fun r5 => (KO_i (KO_some h) (k_b_X11_keep_29 q0 q a1 a2 h))))))))
theorem k_b_X12_keep_22 (q0 : SS) (q : SS) (l1 : Int32) (l2 : Int32) (h : Fr wK vK q0 q) : KO q0 (b_X12_keep_22 q l1 l2) (fun r => r.2) := by
  unfold b_X12_keep_22
  exact (KO_ic (fun c0 => (KO_ns (Fr_sI h rfl) (fun q2 h_q2 => (KO_some h_q2)))) KO_none)
theorem k_f_X12_keep (q0 : SS) (q : SS) (a1 : Int32) (a2 : Int32) (h : Fr wK vK q0 q) : KO q0 (f_X12_keep q a1 a2) (fun r => r.2) := by
  unfold f_X12_keep
  exact (KO_bp (fun r1 => (KO_i (KO_some h) (KO_i (k_b_X12_keep_22 q0 q a1 a2 h) (KO_bp (fun r3 => (KO_i (KO_some h) (k_b_X12_keep_22 q0 q a1 a2 h))))))))
theorem k_b_X3_noteBody_19 (q0 : SS) (q : SS) (h : Fr wK vK q0 q) : KO q0 (b_X3_noteBody_19 q) (fun r => r) := by
  unfold b_X3_noteBody_19
  exact (KO_ns (Fr_sI h rfl) (fun q1 h_q1 => (KO_some h_q1)))
theorem k_f_X3_noteBody (q0 : SS) (q : SS) (a1 : Int32) (h : Fr wK vK q0 q) : KO q0 (f_X3_noteBody q a1) (fun r => r) := by
  unfold f_X3_noteBody
  exact (KO_i (k_b_X3_noteBody_19 q0 q h) (KO_i (KO_ns (Fr_sI h rfl) (fun q2 h_q2 => (k_b_X3_noteBody_19 q0 q2 h_q2))) KO_none))
def KG_X3_perform (q0 : SS) (r : GT_X3_perform) : Prop := (∀ (a0 : SS) (a1 : Int32) (a2 : Int32) (a3 : Int32) (a4 : Int32), Fr wK vK q0 a0 → KO q0 (r a0 a1 a2 a3 a4) (fun r => r.2))
theorem k_fb_X3_perform (q0 : SS) (r : GT_X3_perform) (hr : KG_X3_perform q0 r) (q : SS) (a1 : Int32) (a2 : Int32) (a3 : Int32) (a4 : Int32) (h : Fr wK vK q0 q) : KO q0 (fb_X3_perform r q a1 a2 a3 a4) (fun r => r.2) := by
  unfold fb_X3_perform
  exact (KO_bp (fun r1 => (KO_i (KO_some h) (KO_i (KO_i (KO_nv (fun v2 => (KO_bp (fun r3 => (KO_ic (fun c0 => (KO_nv (fun v4 => (KO_nv (fun v5 => (KO_b (k_f_X3_noteBody q0 q v2 h) (fun r6 h_r6 => (KO_sw (KO_some h_r6) (KO_sw (KO_b (hr r6 r3 (1 : Int32) a3 v5 h_r6) (fun r9 h_r9 => (KO_b (hr r9.2 r3 (2 : Int32) (1 : Int32) v5 h_r9) (fun r10 h_r10 => (KO_some h_r10))))) (KO_sw (KO_b (hr r6 r3 (0 : Int32) a3 v5 h_r6) (fun r12 h_r12 => (KO_some h_r12))) (KO_sw (KO_some h_r6) (KO_sw (KO_b (hr r6 v4 (0 : Int32) a3 v5 h_r6) (fun r15 h_r15 => (KO_some h_r15))) (KO_sw (KO_b (hr r6 v4 (1 : Int32) a3 v5 h_r6) (fun r17 h_r17 => (KO_some h_r17))) (KO_sw (KO_b (hr r6 v4 (2 : Int32) a3 v5 h_r6) (fun r19 h_r19 => (KO_some h_r19))) (KO_sw (KO_b (hr r6 v4 (1 : Int32) (a3 + (1 : Int32)) v5 h_r6) (fun r21 h_r21 => (KO_some h_r21))) (KO_sw (KO_b (hr r6 v4 (3 : Int32) a3 v5 h_r6) (fun r23 h_r23 => (KO_some h_r23))) (KO_sw (KO_b (hr r6 v4 (2 : Int32) a3 v5 h_r6) (fun r25 h_r25 => (KO_b (hr r25.2 r3 (0 : Int32) (2 : Int32) v5 h_r25) (fun r26 h_r26 => (KO_some h_r26))))) (KO_sw (KO_b (hr r6 v4 (3 : Int32) a3 v5 h_r6) (fun r28 h_r28 => (KO_some h_r28))) (KO_sw (KO_b (hr r6 v4 (0 : Int32) a3 v5 h_r6) (fun r30 h_r30 => (KO_some h_r30))) (KO_sw (KO_b (hr r6 v4 (1 : Int32) a3 v5 h_r6) (fun r32 h_r32 => (KO_b (hr r32.2 r3 (2 : Int32) (2 : Int32) v5 h_r32) (fun r33 h_r33 => (KO_some h_r33))))) (KO_sw (KO_b (hr r6 v4 (0 : Int32) a3 v5 h_r6) (fun r35 h_r35 => (KO_some h_r35))) (KO_s0 (KO_some h_r6))))))))))))))))))))))) KO_none))))) KO_none) (KO_some h)))))
theorem kg_X3_perform (q0 : SS) : ∀ n, KG_X3_perform q0 (g_X3_perform n)
  | 0 => (fun _ _ _ _ _ _ => KO_none)
  | n + 1 => (fun a0 a1 a2 a3 a4 h => k_fb_X3_perform q0 (g_X3_perform n) (kg_X3_perform q0 n) a0 a1 a2 a3 a4 h)
theorem k_f_X3_perform (q0 : SS) (x0 : SS) (x1 : Int32) (x2 : Int32) (x3 : Int32) (x4 : Int32) (h : Fr wK vK q0 x0) : KO q0 (f_X3_perform x0 x1 x2 x3 x4) (fun r => r.2) := kg_X3_perform q0 60 x0 x1 x2 x3 x4 h
theorem k_f_X3_begin (q0 : SS) (q : SS) (a1 : Int32) (a2 : Int32) (a3 : Int32) (h : Fr wK vK q0 q) : KO q0 (f_X3_begin q a1 a2 a3) (fun r => r.2) := by
  unfold f_X3_begin
  exact (KO_ns (Fr_sI h rfl) (fun q1 h_q1 => (KO_bp (fun r2 => (KO_i (KO_some h_q1) (KO_i (KO_some h_q1) (KO_i (KO_ns (Fr_sI h_q1 rfl) (fun q3 h_q3 => (KO_bp (fun r4 => (KO_b (k_f_X3_perform q0 q3 r4 a2 a3 (0 : Int32) h_q3) (fun r5 h_r5 => (KO_some h_r5))))))) (KO_some h_q1))))))))
theorem k_f_X11_act (q0 : SS) (q : SS) (a1 : Int32) (a2 : Int32) (a3 : Int32) (h : Fr wK vK q0 q) : KO q0 (f_X11_act q a1 a2 a3) (fun r => r.2) := by
  unfold f_X11_act
  exact (KO_b (k_f_X3_begin q0 q a1 a2 a3 h) (fun r1 h_r1 => (KO_some h_r1)))
theorem k_b_X12_ran_19 (q0 : SS) (q : SS) (h : Fr wK vK q0 q) : KO q0 (b_X12_ran_19 q) (fun r => r) := by
  unfold b_X12_ran_19
  exact (KO_ns (Fr_sI h rfl) (fun q1 h_q1 => (KO_some h_q1)))
theorem k_f_X12_ran (q0 : SS) (q : SS) (a1 : Int32) (h : Fr wK vK q0 q) : KO q0 (f_X12_ran q a1) (fun r => r) := by
  unfold f_X12_ran
  exact (KO_i (k_b_X12_ran_19 q0 q h) (KO_i (KO_ns (Fr_sI h rfl) (fun q2 h_q2 => (k_b_X12_ran_19 q0 q2 h_q2))) KO_none))
theorem k_f_X12_plainSlips (q0 : SS) (q : SS) (a1 : Int32) (a2 : Int32) (h : Fr wK vK q0 q) : KO q0 (f_X12_plainSlips q a1 a2) (fun r => r.2) := by
  unfold f_X12_plainSlips
  exact (KO_b (k_f_X12_ran q0 q (1 : Int32) h) (fun r1 h_r1 => (KO_some h_r1)))
theorem k_f_X12_wiseSlips (q0 : SS) (q : SS) (a1 : Int32) (a2 : Int32) (h : Fr wK vK q0 q) : KO q0 (f_X12_wiseSlips q a1 a2) (fun r => r.2) := by
  unfold f_X12_wiseSlips
  exact (KO_b (k_f_X12_ran q0 q (70 : Int32) h) (fun r1 h_r1 => (KO_b (k_f_X12_plainSlips q0 r1 a1 a2 h_r1) (fun r2 h_r2 => (KO_some h_r2)))))
theorem k_f_X12_slipping (q0 : SS) (q : SS) (a1 : Int32) (a2 : Int32) (h : Fr wK vK q0 q) : KO q0 (f_X12_slipping q a1 a2) (fun r => r.2) := by
  unfold f_X12_slipping
  exact (KO_ic (fun c0 => (KO_bp (fun r1 => (KO_i (KO_ic (fun c1 => (KO_i (KO_b (k_f_X12_ran q0 q (81 : Int32) h) (fun r2 h_r2 => (KO_b (k_f_X12_wiseSlips q0 r2 a1 a2 h_r2) (fun r3 h_r3 => (KO_some h_r3))))) (KO_ic (fun c2 => (KO_i (KO_b (k_f_X12_wiseSlips q0 q a1 a2 h) (fun r4 h_r4 => (KO_some h_r4))) (KO_b (k_f_X12_plainSlips q0 q a1 a2 h) (fun r5 h_r5 => (KO_some h_r5))))) KO_none))) KO_none) (KO_b (k_f_X12_ran q0 q (20 : Int32) h) (fun r8 h_r8 => (KO_b (k_f_X12_plainSlips q0 r8 a1 a2 h_r8) (fun r9 h_r9 => (KO_some h_r9))))))))) KO_none)
theorem k_f_X12_plainFolds (q0 : SS) (q : SS) (a1 : Int32) (a2 : Int32) (h : Fr wK vK q0 q) : KO q0 (f_X12_plainFolds q a1 a2) (fun r => r.2) := by
  unfold f_X12_plainFolds
  exact (KO_b (k_f_X12_ran q0 q (10 : Int32) h) (fun r1 h_r1 => (KO_b (k_f_X12_slipping q0 r1 a1 a2 h_r1) (fun r2 h_r2 => (KO_some h_r2)))))
theorem k_f_X12_brideFolds (q0 : SS) (q : SS) (a1 : Int32) (a2 : Int32) (h : Fr wK vK q0 q) : KO q0 (f_X12_brideFolds q a1 a2) (fun r => r.2) := by
  unfold f_X12_brideFolds
  exact (KO_b (k_f_X12_ran q0 q (30 : Int32) h) (fun r1 h_r1 => (KO_b (k_f_X12_plainFolds q0 r1 a1 a2 h_r1) (fun r2 h_r2 => (KO_some h_r2)))))
theorem k_f_X12_plainProves (q0 : SS) (q : SS) (a1 : Int32) (a2 : Int32) (h : Fr wK vK q0 q) : KO q0 (f_X12_plainProves q a1 a2) (fun r => r.2) := by
  unfold f_X12_plainProves
  exact (KO_b (k_f_X12_ran q0 q (11 : Int32) h) (fun r1 h_r1 => (KO_some h_r1)))
theorem k_f_X12_childProves (q0 : SS) (q : SS) (a1 : Int32) (a2 : Int32) (h : Fr wK vK q0 q) : KO q0 (f_X12_childProves q a1 a2) (fun r => r.2) := by
  unfold f_X12_childProves
  exact (KO_b (k_f_X12_ran q0 q (40 : Int32) h) (fun r1 h_r1 => (KO_b (k_f_X12_plainProves q0 r1 a1 a2 h_r1) (fun r2 h_r2 => (KO_some h_r2)))))
theorem k_f_X12_proving (q0 : SS) (q : SS) (a1 : Int32) (a2 : Int32) (h : Fr wK vK q0 q) : KO q0 (f_X12_proving q a1 a2) (fun r => r.2) := by
  unfold f_X12_proving
  exact (KO_ic (fun c0 => (KO_i (KO_b (k_f_X12_ran q0 q (60 : Int32) h) (fun r1 h_r1 => (KO_b (k_f_X12_childProves q0 r1 a1 a2 h_r1) (fun r2 h_r2 => (KO_b (k_f_X12_slipping q0 r2.2 a1 (2 : Int32) h_r2) (fun r3 h_r3 => (KO_some h_r3))))))) (KO_ic (fun c1 => (KO_i (KO_b (k_f_X12_childProves q0 q a1 a2 h) (fun r4 h_r4 => (KO_some h_r4))) (KO_b (k_f_X12_plainProves q0 q a1 a2 h) (fun r5 h_r5 => (KO_some h_r5))))) KO_none))) KO_none)
theorem k_f_X12_folding (q0 : SS) (q : SS) (a1 : Int32) (a2 : Int32) (h : Fr wK vK q0 q) : KO q0 (f_X12_folding q a1 a2) (fun r => r.2) := by
  unfold f_X12_folding
  exact (KO_ic (fun c0 => (KO_bp (fun r1 => (KO_i (KO_ic (fun c1 => (KO_i (KO_b (k_f_X12_ran q0 q (80 : Int32) h) (fun r2 h_r2 => (KO_b (k_f_X12_plainFolds q0 r2 a1 a2 h_r2) (fun r3 h_r3 => (KO_b (k_f_X12_proving q0 r3.2 a1 (2 : Int32) h_r3) (fun r4 h_r4 => (KO_some h_r4))))))) (KO_ic (fun c2 => (KO_i (KO_b (k_f_X12_brideFolds q0 q a1 a2 h) (fun r5 h_r5 => (KO_some h_r5))) (KO_b (k_f_X12_plainFolds q0 q a1 a2 h) (fun r6 h_r6 => (KO_some h_r6))))) KO_none))) KO_none) (KO_b (k_f_X12_ran q0 q (41 : Int32) h) (fun r9 h_r9 => (KO_b (k_f_X12_brideFolds q0 r9 a1 (a2 + (1 : Int32)) h_r9) (fun r10 h_r10 => (KO_some h_r10))))))))) KO_none)
theorem k_f_X12_plainTells (q0 : SS) (q : SS) (a1 : Int32) (a2 : Int32) (h : Fr wK vK q0 q) : KO q0 (f_X12_plainTells q a1 a2) (fun r => r.2) := by
  unfold f_X12_plainTells
  exact (KO_b (k_f_X12_ran q0 q (2 : Int32) h) (fun r1 h_r1 => (KO_b (k_f_X12_folding q0 r1 a1 a2 h_r1) (fun r2 h_r2 => (KO_b (k_f_X12_proving q0 r2.2 a1 (1 : Int32) h_r2) (fun r3 h_r3 => (KO_some h_r3)))))))
theorem k_f_X12_telling (q0 : SS) (q : SS) (a1 : Int32) (a2 : Int32) (h : Fr wK vK q0 q) : KO q0 (f_X12_telling q a1 a2) (fun r => r.2) := by
  unfold f_X12_telling
  exact (KO_ic (fun c0 => (KO_i (KO_b (k_f_X12_ran q0 q (50 : Int32) h) (fun r1 h_r1 => (KO_b (k_f_X12_plainTells q0 r1 a1 a2 h_r1) (fun r2 h_r2 => (KO_some h_r2))))) (KO_ic (fun c1 => (KO_i (KO_b (k_f_X12_ran q0 q (61 : Int32) h) (fun r3 h_r3 => (KO_b (k_f_X12_plainTells q0 r3 a1 a2 h_r3) (fun r4 h_r4 => (KO_some h_r4))))) (KO_b (k_f_X12_plainTells q0 q a1 a2 h) (fun r5 h_r5 => (KO_some h_r5))))) KO_none))) KO_none)
theorem k_f_X12_act (q0 : SS) (q : SS) (a1 : Int32) (a2 : Int32) (a3 : Int32) (h : Fr wK vK q0 q) : KO q0 (f_X12_act q a1 a2 a3) (fun r => r.2) := by
  unfold f_X12_act
  exact (KO_ns (Fr_sI h rfl) (fun q1 h_q1 => (KO_bp (fun r2 => (KO_i (KO_some h_q1) (KO_bp (fun r3 => (KO_i (KO_some h_q1) (KO_i (KO_b (k_f_X12_slipping q0 q1 a1 a3 h_q1) (fun r4 h_r4 => (KO_some h_r4))) (KO_i (KO_b (k_f_X12_folding q0 q1 a1 a3 h_q1) (fun r5 h_r5 => (KO_some h_r5))) (KO_i (KO_b (k_f_X12_proving q0 q1 a1 a3 h_q1) (fun r6 h_r6 => (KO_some h_r6))) (KO_b (k_f_X12_telling q0 q1 a1 a3 h_q1) (fun r7 h_r7 => (KO_some h_r7))))))))))))))
theorem k_f_X3_addBody (q0 : SS) (q : SS) (a1 : Int32) (h : Fr wK vK q0 q) : KO q0 (f_X3_addBody q a1) (fun r => r.2) := by
  unfold f_X3_addBody
  exact (KO_i (KO_i (KO_ns (Fr_sI h rfl) (fun q1 h_q1 => (KO_ns (Fr_sI h_q1 rfl) (fun q2 h_q2 => (KO_some h_q2))))) KO_none) (KO_some h))
theorem k_f_X11_body (q0 : SS) (q : SS) (a1 : Int32) (h : Fr wK vK q0 q) : KO q0 (f_X11_body q a1) (fun r => r.2) := by
  unfold f_X11_body
  exact (KO_bp (fun r1 => (KO_i (KO_some h) (KO_b (k_f_X3_addBody q0 q a1 h) (fun r2 h_r2 => (KO_some h_r2))))))
theorem k_f_X12_body (q0 : SS) (q : SS) (a1 : Int32) (h : Fr wK vK q0 q) : KO q0 (f_X12_body q a1) (fun r => r.2) := by
  unfold f_X12_body
  exact (KO_bp (fun r1 => (KO_i (KO_some h) (KO_i (KO_some h) (KO_i (KO_ns (Fr_sI h rfl) (fun q2 h_q2 => (KO_ns (Fr_sI h_q2 rfl) (fun q3 h_q3 => (KO_some h_q3))))) KO_none)))))
theorem k_f_X10_set (q0 : SS) (q : SS) (a1 : Int32) (a2 : Int32) (a3 : Int32) (h : Fr wK vK q0 q) : KO q0 (f_X10_set q a1 a2 a3) (fun r => r) := by
  unfold f_X10_set
  exact (KO_bp (fun r1 => (KO_i (KO_some h) (KO_ic (fun c0 => (KO_ic (fun c1 => (KO_ns (Fr_sI h (wK_row c0)) (fun q3 h_q3 => (KO_some h_q3)))) KO_none)) KO_none))))
theorem k_f_X0_redoNext (q0 : SS) (q : SS) (h : Fr wK vK q0 q) : KO q0 (f_X0_redoNext q) (fun r => r) := by
  unfold f_X0_redoNext
  exact (KO_i (KO_some h) (KO_i (KO_some h) (KO_i (KO_i (KO_i (KO_b (k_f_X10_set q0 q (q.1 53 (q.1 52 5).toNatClampNeg) (q.1 54 (q.1 52 5).toNatClampNeg) (q.1 56 (q.1 52 5).toNatClampNeg) h) (fun r1 h_r1 => (KO_ns (Fr_sI h_r1 rfl) (fun q2 h_q2 => (KO_ns (Fr_sI h_q2 rfl) (fun q3 h_q3 => (KO_some h_q3))))))) KO_none) KO_none) KO_none)))
theorem k_f_X11_redo (q0 : SS) (q : SS) (h : Fr wK vK q0 q) : KO q0 (f_X11_redo q) (fun r => r.2) := by
  unfold f_X11_redo
  exact (KO_bp (fun r1 => (KO_i (KO_some h) (KO_b (k_f_X0_redoNext q0 q h) (fun r2 h_r2 => (KO_bp (fun r3 => (KO_some h_r2))))))))
theorem k_f_X12_lays (q0 : SS) (q : SS) (a1 : Int32) (a2 : Int32) (a3 : Int32) (h : Fr wK vK q0 q) : KO q0 (f_X12_lays q a1 a2 a3) (fun r => r) := by
  unfold f_X12_lays
  exact (KO_sw (KO_ic (fun c6 => (KO_ns (Fr_sI h rfl) (fun q2 h_q2 => (KO_some h_q2)))) KO_none) (KO_sw (KO_ic (fun c5 => (KO_ns (Fr_sI h rfl) (fun q4 h_q4 => (KO_some h_q4)))) KO_none) (KO_sw (KO_ic (fun c4 => (KO_ns (Fr_sI h rfl) (fun q6 h_q6 => (KO_some h_q6)))) KO_none) (KO_sw (KO_ic (fun c3 => (KO_ns (Fr_sI h rfl) (fun q8 h_q8 => (KO_some h_q8)))) KO_none) (KO_sw (KO_ic (fun c2 => (KO_ns (Fr_sI h rfl) (fun q10 h_q10 => (KO_some h_q10)))) KO_none) (KO_sw (KO_ic (fun c1 => (KO_ns (Fr_sI h rfl) (fun q12 h_q12 => (KO_some h_q12)))) KO_none) (KO_sw (KO_ic (fun c0 => (KO_ns (Fr_sI h rfl) (fun q14 h_q14 => (KO_some h_q14)))) KO_none) (KO_s0 (KO_i (KO_ns (Fr_sI h rfl) (fun q15 h_q15 => (KO_some h_q15))) KO_none)))))))))
theorem k_f_X12_redo (q0 : SS) (q : SS) (h : Fr wK vK q0 q) : KO q0 (f_X12_redo q) (fun r => r.2) := by
  unfold f_X12_redo
  exact (KO_i (KO_some h) (KO_i (KO_i (KO_i (KO_b (k_f_X12_lays q0 q (q.1 69 (q.1 60 11).toNatClampNeg) (q.1 70 (q.1 60 11).toNatClampNeg) (q.1 72 (q.1 60 11).toNatClampNeg) h) (fun r1 h_r1 => (KO_ns (Fr_sI h_r1 rfl) (fun q2 h_q2 => (KO_ns (Fr_sI h_q2 rfl) (fun q3 h_q3 => (KO_some h_q3))))))) KO_none) KO_none) KO_none))
theorem k_f_X0_undoLatest (q0 : SS) (q : SS) (h : Fr wK vK q0 q) : KO q0 (f_X0_undoLatest q) (fun r => r) := by
  unfold f_X0_undoLatest
  exact (KO_i (KO_some h) (KO_ns (Fr_sI h rfl) (fun q1 h_q1 => (KO_ns (Fr_sI h_q1 rfl) (fun q2 h_q2 => (KO_i (KO_i (KO_i (KO_b (k_f_X10_set q0 q2 (q2.1 53 (q2.1 52 5).toNatClampNeg) (q2.1 54 (q2.1 52 5).toNatClampNeg) (q2.1 55 (q2.1 52 5).toNatClampNeg) h_q2) (fun r3 h_r3 => (KO_some h_r3))) KO_none) KO_none) KO_none))))))
theorem k_f_X11_undo (q0 : SS) (q : SS) (h : Fr wK vK q0 q) : KO q0 (f_X11_undo q) (fun r => r.2) := by
  unfold f_X11_undo
  exact (KO_bp (fun r1 => (KO_i (KO_some h) (KO_b (k_f_X0_undoLatest q0 q h) (fun r2 h_r2 => (KO_bp (fun r3 => (KO_some h_r2))))))))
theorem k_f_X12_undo (q0 : SS) (q : SS) (h : Fr wK vK q0 q) : KO q0 (f_X12_undo q) (fun r => r.2) := by
  unfold f_X12_undo
  exact (KO_i (KO_some h) (KO_ns (Fr_sI h rfl) (fun q1 h_q1 => (KO_ns (Fr_sI h_q1 rfl) (fun q2 h_q2 => (KO_i (KO_i (KO_i (KO_b (k_f_X12_lays q0 q2 (q2.1 69 (q2.1 60 11).toNatClampNeg) (q2.1 70 (q2.1 60 11).toNatClampNeg) (q2.1 71 (q2.1 60 11).toNatClampNeg) h_q2) (fun r3 h_r3 => (KO_some h_r3))) KO_none) KO_none) KO_none))))))
theorem k_b_X1_layBack_30 (q0 : SS)  (x0 : SS) (x1 : Int32) (h : Fr wK vK q0 x0) : KO q0 (b_X1_layBack_30 x0 x1) (fun r => r) := by
  unfold b_X1_layBack_30
  refine KO_fx2 (fun rec_30 h_rec_30 q l1 h => ?_) FU x0 x1 h
  exact (KO_i (KO_some h) (KO_i (KO_some h) (KO_ic (fun c0 => (KO_b (k_f_X10_set q0 q (4 : Int32) l1 (q.1 50 l1.toNatClampNeg) h) (fun r3 h_r3 => (KO_ic (fun c1 => (KO_b (k_f_X10_set q0 r3 (6 : Int32) l1 (r3.1 51 l1.toNatClampNeg) h_r3) (fun r4 h_r4 => (h_rec_30 r4 (l1 + (1 : Int32)) h_r4)))) KO_none)))) KO_none)))
theorem k_f_X1_layBack (q0 : SS) (q : SS) (h : Fr wK vK q0 q) : KO q0 (f_X1_layBack q) (fun r => r) := by
  unfold f_X1_layBack
  exact (KO_b (k_f_X10_set q0 q (7 : Int32) (0 : Int32) (q.1 47 6) h) (fun r1 h_r1 => (KO_i (KO_ns (Fr_sR h_r1 (fun _ => rfl)) (fun q2 h_q2 => (k_b_X1_layBack_30 q0 q2 (0 : Int32) h_q2))) KO_none)))
theorem k_f_X11_back (q0 : SS) (q : SS) (h : Fr wK vK q0 q) : KO q0 (f_X11_back q) (fun r => r.2) := by
  unfold f_X11_back
  exact (KO_bp (fun r1 => (KO_i (KO_some h) (KO_b (k_f_X1_layBack q0 q h) (fun r2 h_r2 => (KO_bp (fun r3 => (KO_some h_r2))))))))
theorem k_b_X12_back_62 (q0 : SS)  (x0 : SS) (x1 : Int32) (h : Fr wK vK q0 x0) : KO q0 (b_X12_back_62 x0 x1) (fun r => r.2) := by
  unfold b_X12_back_62
  refine KO_fx2 (fun rec_62 h_rec_62 q l1 h => ?_) FU x0 x1 h
  exact (KO_i (KO_i (KO_some h) KO_none) (KO_ic (fun c0 => (KO_ic (fun c1 => (KO_ns (Fr_sI h rfl) (fun q2 h_q2 => (h_rec_62 q2 (l1 + (1 : Int32)) h_q2)))) KO_none)) KO_none))
theorem k_b_X12_back_22 (q0 : SS)  (x0 : SS) (x1 : Int32) (h : Fr wK vK q0 x0) : KO q0 (b_X12_back_22 x0 x1) (fun r => r.2) := by
  unfold b_X12_back_22
  refine KO_fx2 (fun rec_22 h_rec_22 q l1 h => ?_) FU x0 x1 h
  exact (KO_i (k_b_X12_back_62 q0 q (0 : Int32) h) (KO_ic (fun c0 => (KO_ic (fun c1 => (KO_ns (Fr_sI h rfl) (fun q4 h_q4 => (KO_ic (fun c2 => (KO_ic (fun c3 => (KO_ns (Fr_sI h_q4 rfl) (fun q5 h_q5 => (h_rec_22 q5 (l1 + (1 : Int32)) h_q5)))) KO_none)) KO_none)))) KO_none)) KO_none))
theorem k_f_X12_back (q0 : SS) (q : SS) (h : Fr wK vK q0 q) : KO q0 (f_X12_back q) (fun r => r.2) := by
  unfold f_X12_back
  exact (KO_i (KO_some h) (KO_i (KO_ns (Fr_sI h rfl) (fun q1 h_q1 => (k_b_X12_back_22 q0 q1 (0 : Int32) h_q1))) KO_none))
theorem k_b_X1_keepImage_43 (q0 : SS)  (x0 : SS) (x1 : Int32) (h : Fr wK vK q0 x0) : KO q0 (b_X1_keepImage_43 x0 x1) (fun r => r) := by
  unfold b_X1_keepImage_43
  refine KO_fx2 (fun rec_43 h_rec_43 q l1 h => ?_) FU x0 x1 h
  exact (KO_i (KO_some h) (KO_i (KO_some h) (KO_bp (fun r7 => (KO_ic (fun c0 => (KO_ns (Fr_sI h rfl) (fun q8 h_q8 => (KO_bp (fun r9 => (KO_ic (fun c1 => (KO_ns (Fr_sI h_q8 rfl) (fun q10 h_q10 => (h_rec_43 q10 (l1 + (1 : Int32)) h_q10)))) KO_none)))))) KO_none)))))
theorem k_f_X1_keepImage (q0 : SS) (q : SS) (h : Fr wK vK q0 q) : KO q0 (f_X1_keepImage q) (fun r => r) := by
  unfold f_X1_keepImage
  exact (KO_ns (Fr_sI h rfl) (fun q1 h_q1 => (KO_bp (fun r2 => (KO_ns (Fr_sI h_q1 rfl) (fun q3 h_q3 => (KO_bp (fun r4 => (KO_ns (Fr_sI h_q3 rfl) (fun q5 h_q5 => (KO_i (KO_ns (Fr_sR h_q5 (fun _ => rfl)) (fun q6 h_q6 => (k_b_X1_keepImage_43 q0 q6 (0 : Int32) h_q6))) KO_none)))))))))))
theorem k_f_X11_image (q0 : SS) (q : SS) (h : Fr wK vK q0 q) : KO q0 (f_X11_image q) (fun r => r.2) := by
  unfold f_X11_image
  exact (KO_b (k_f_X1_keepImage q0 q h) (fun r1 h_r1 => (KO_bp (fun r2 => (KO_some h_r1)))))
theorem k_b_X12_image_65 (q0 : SS)  (x0 : SS) (x1 : Int32) (h : Fr wK vK q0 x0) : KO q0 (b_X12_image_65 x0 x1) (fun r => r.2) := by
  unfold b_X12_image_65
  refine KO_fx2 (fun rec_65 h_rec_65 q l1 h => ?_) FU x0 x1 h
  exact (KO_i (KO_i (KO_some h) KO_none) (KO_ic (fun c0 => (KO_ic (fun c1 => (KO_ns (Fr_sI h rfl) (fun q4 h_q4 => (h_rec_65 q4 (l1 + (1 : Int32)) h_q4)))) KO_none)) KO_none))
theorem k_b_X12_image_25 (q0 : SS)  (x0 : SS) (x1 : Int32) (h : Fr wK vK q0 x0) : KO q0 (b_X12_image_25 x0 x1) (fun r => r.2) := by
  unfold b_X12_image_25
  refine KO_fx2 (fun rec_25 h_rec_25 q l1 h => ?_) FU x0 x1 h
  exact (KO_i (k_b_X12_image_65 q0 q (0 : Int32) h) (KO_ic (fun c0 => (KO_ic (fun c1 => (KO_ns (Fr_sI h rfl) (fun q6 h_q6 => (KO_ic (fun c2 => (KO_ic (fun c3 => (KO_ns (Fr_sI h_q6 rfl) (fun q7 h_q7 => (h_rec_25 q7 (l1 + (1 : Int32)) h_q7)))) KO_none)) KO_none)))) KO_none)) KO_none))
theorem k_f_X12_image (q0 : SS) (q : SS) (h : Fr wK vK q0 q) : KO q0 (f_X12_image q) (fun r => r.2) := by
  unfold f_X12_image
  exact (KO_ns (Fr_sI h rfl) (fun q1 h_q1 => (KO_ns (Fr_sI h_q1 rfl) (fun q2 h_q2 => (KO_i (KO_ns (Fr_sI h_q2 rfl) (fun q3 h_q3 => (k_b_X12_image_25 q0 q3 (0 : Int32) h_q3))) KO_none)))))
theorem k_f_X1_note (q0 : SS) (q : SS) (a1 : Int32) (h : Fr wK vK q0 q) : KO q0 (f_X1_note q a1) (fun r => r) := by
  unfold f_X1_note
  exact (KO_i (KO_some h) (KO_i (KO_some h) (KO_ic (fun c0 => (KO_ic (fun c1 => (KO_ns (Fr_sI h rfl) (fun q1 h_q1 => (KO_some h_q1)))) KO_none)) KO_none)))
theorem k_b_X11_hour_25 (q0 : SS) (q : SS) (s0 : Int32) (h : Fr wK vK q0 q) : KO q0 (b_X11_hour_25 q s0) (fun r => r.2) := by
  unfold b_X11_hour_25
  exact (KO_b (k_f_X1_note q0 q (3 : Int32) h) (fun r3 h_r3 => (KO_b (k_f_X10_set q0 r3 (7 : Int32) (0 : Int32) s0 h_r3) (fun r4 h_r4 => (KO_some h_r4)))))
theorem k_f_X11_hour (q0 : SS) (q : SS) (h : Fr wK vK q0 q) : KO q0 (f_X11_hour q) (fun r => r.2) := by
  unfold f_X11_hour
  exact (KO_bp (fun r1 => (KO_i (KO_bp (fun r2 => (k_b_X11_hour_25 q0 q (r2 + (1 : Int32)) h))) (k_b_X11_hour_25 q0 q (0 : Int32) h))))
theorem k_b_X12_hour_28 (q0 : SS) (q : SS) (s0 : Int32) (s1 : Int32) (h : Fr wK vK q0 q) : KO q0 (b_X12_hour_28 q s0 s1) (fun r => r.2) := by
  unfold b_X12_hour_28
  exact (KO_ic (fun c0 => (KO_ns (Fr_sI h rfl) (fun q1 h_q1 => (KO_i (KO_i (KO_ns (Fr_sI h_q1 rfl) (fun q2 h_q2 => (KO_i (KO_some h_q2) KO_none))) KO_none) KO_none)))) KO_none)
theorem k_f_X12_hour (q0 : SS) (q : SS) (h : Fr wK vK q0 q) : KO q0 (f_X12_hour q) (fun r => r.2) := by
  unfold f_X12_hour
  exact (KO_i (KO_i (k_b_X12_hour_28 q0 q (0 : Int32) (0 : Int32) h) (KO_i (k_b_X12_hour_28 q0 q ((q.1 68 (0 : Int32).toNatClampNeg) + (1 : Int32)) (0 : Int32) h) KO_none)) KO_none)
theorem k_f_X11_fold (q0 : SS) (q : SS) (a1 : Int32) (h : Fr wK vK q0 q) : KO q0 (f_X11_fold q a1) (fun r => r.2) := by
  unfold f_X11_fold
  exact (KO_bp (fun r1 => (KO_i (KO_some h) (KO_bp (fun r2 => (KO_i (KO_b (k_f_X1_note q0 q (2 : Int32) h) (fun r3 h_r3 => (KO_b (k_f_X10_set q0 r3 (6 : Int32) a1 (r2 + (1 : Int32)) h_r3) (fun r4 h_r4 => (KO_some h_r4))))) (KO_some h)))))))
theorem k_f_X12_fold (q0 : SS) (q : SS) (a1 : Int32) (h : Fr wK vK q0 q) : KO q0 (f_X12_fold q a1) (fun r => r.2) := by
  unfold f_X12_fold
  exact (KO_bp (fun r1 => (KO_i (KO_some h) (KO_ic (fun c0 => (KO_i (KO_some h) (KO_ic (fun c1 => (KO_ic (fun c2 => (KO_ns (Fr_sI h rfl) (fun q2 h_q2 => (KO_i (KO_i (KO_ns (Fr_sI h_q2 rfl) (fun q3 h_q3 => (KO_ic (fun c3 => (KO_some h_q3)) KO_none))) KO_none) KO_none)))) KO_none)) KO_none))) KO_none))))
theorem k_b_X8_begin_2 (q0 : SS)  (x0 : SS) (x1 : Int32) (h : Fr wK vK q0 x0) : KO q0 (b_X8_begin_2 x0 x1) (fun r => r) := by
  unfold b_X8_begin_2
  refine KO_fx2 (fun rec_2 h_rec_2 q l1 h => ?_) FU x0 x1 h
  exact (KO_i (KO_some h) (KO_bp (fun r1 => (KO_ic (fun c0 => (KO_ns (Fr_sI h rfl) (fun q2 h_q2 => (h_rec_2 q2 (l1 + (1 : Int32)) h_q2)))) KO_none))))
theorem k_f_X8_begin (q0 : SS) (q : SS) (h : Fr wK vK q0 q) : KO q0 (f_X8_begin q) (fun r => r) := by
  unfold f_X8_begin
  exact (k_b_X8_begin_2 q0 q (0 : Int32) h)
theorem k_f_X11_now (q0 : SS) (q : SS) (h : Fr wK vK q0 q) : KO q0 (f_X11_now q) (fun r => r) := by
  unfold f_X11_now
  exact (KO_b (k_f_X8_begin q0 q h) (fun r1 h_r1 => (KO_some h_r1)))
theorem k_b_X11_slip_80 (q0 : SS) (q : SS) (l3 : Int32) (h : Fr wK vK q0 q) : KO q0 (b_X11_slip_80 q l3) (fun r => r.2) := by
  unfold b_X11_slip_80
  exact (KO_bp (fun r9 => (KO_some h)))
theorem k_f_X11_slip (q0 : SS) (q : SS) (a1 : Int32) (a2 : Int32) (h : Fr wK vK q0 q) : KO q0 (f_X11_slip q a1 a2) (fun r => r.2) := by
  unfold f_X11_slip
  exact (KO_bp (fun r1 => (KO_i (KO_some h) (KO_i (KO_some h) (KO_i (KO_nv (fun v2 => (KO_nv (fun v3 => (KO_b (k_f_X11_now q0 q h) (fun r4 h_r4 => (KO_bp (fun r5 => (KO_i (KO_some h_r4) (KO_b (k_f_X1_note q0 r4 (0 : Int32) h_r4) (fun r6 h_r6 => (KO_i (KO_b (k_f_X1_note q0 r6 (1 : Int32) h_r6) (fun r7 h_r7 => (KO_b (k_f_X10_set q0 r7 (4 : Int32) v2 v3 h_r7) (fun r8 h_r8 => (k_b_X11_slip_80 q0 r8 v2 h_r8))))) (k_b_X11_slip_80 q0 r6 v2 h_r6))))))))))))) (KO_some h))))))
theorem k_b_X12_layNow_2 (q0 : SS)  (x0 : SS) (x1 : Int32) (h : Fr wK vK q0 x0) : KO q0 (b_X12_layNow_2 x0 x1) (fun r => r) := by
  unfold b_X12_layNow_2
  refine KO_fx2 (fun rec_2 h_rec_2 q l1 h => ?_) FU x0 x1 h
  exact (KO_i (KO_i (KO_ns (Fr_sI h rfl) (fun q1 h_q1 => (KO_some h_q1))) KO_none) (KO_ic (fun c0 => (KO_ic (fun c1 => (KO_ns (Fr_sI h rfl) (fun q2 h_q2 => (h_rec_2 q2 (l1 + (1 : Int32)) h_q2)))) KO_none)) KO_none))
theorem k_f_X12_layNow (q0 : SS) (q : SS) (h : Fr wK vK q0 q) : KO q0 (f_X12_layNow q) (fun r => r) := by
  unfold f_X12_layNow
  exact (k_b_X12_layNow_2 q0 q (0 : Int32) h)
theorem k_b_X12_slip_59 (q0 : SS) (q : SS) (l1 : Int32) (l2 : Int32) (h : Fr wK vK q0 q) : KO q0 (b_X12_slip_59 q l1 l2) (fun r => r.2) := by
  unfold b_X12_slip_59
  exact (KO_i (KO_i (KO_ns (Fr_sI h rfl) (fun q6 h_q6 => (KO_i (KO_i (KO_ns (Fr_sI h_q6 rfl) (fun q7 h_q7 => (KO_i (KO_some h_q7) KO_none))) KO_none) KO_none))) KO_none) KO_none)
theorem k_f_X12_slip (q0 : SS) (q : SS) (a1 : Int32) (a2 : Int32) (h : Fr wK vK q0 q) : KO q0 (f_X12_slip q a1 a2) (fun r => r.2) := by
  unfold f_X12_slip
  exact (KO_bp (fun r1 => (KO_i (KO_some h) (KO_bp (fun r2 => (KO_i (KO_some h) (KO_b (k_f_X12_layNow q0 q h) (fun r3 h_r3 => (KO_bp (fun r4 => (KO_i (KO_some h_r3) (KO_i (KO_i (KO_ns (Fr_sI h_r3 rfl) (fun q5 h_q5 => (k_b_X12_slip_59 q0 q5 a1 a2 h_q5))) KO_none) (k_b_X12_slip_59 q0 r3 a1 a2 h_r3)))))))))))))
theorem k_f_X4_pop (q0 : SS) (q : SS) (h : Fr wK vK q0 q) : KO q0 (f_X4_pop q) (fun r => r.2) := by
  unfold f_X4_pop
  exact (KO_i (KO_some h) (KO_i (KO_ns (Fr_sI h rfl) (fun q1 h_q1 => (KO_i (KO_some h_q1) KO_none))) (KO_some h)))
theorem k_f_X4_push (q0 : SS) (q : SS) (a1 : Int32) (h : Fr wK vK q0 q) : KO q0 (f_X4_push q a1) (fun r => r) := by
  unfold f_X4_push
  exact (KO_i (KO_some h) (KO_i (KO_some h) (KO_i (KO_ns (Fr_sI h rfl) (fun q1 h_q1 => (KO_ns (Fr_sI h_q1 rfl) (fun q2 h_q2 => (KO_some h_q2))))) KO_none)))
theorem k_b_X4_doStep_44 (q0 : SS) (q : SS) (s0 : Int32) (h : Fr wK vK q0 q) : KO q0 (b_X4_doStep_44 q s0) (fun r => r) := by
  unfold b_X4_doStep_44
  exact (KO_b (k_f_X4_push q0 q s0 h) (fun r2 h_r2 => (KO_some h_r2)))
theorem k_b_X4_doStep_43 (q0 : SS) (q : SS) (h : Fr wK vK q0 q) : KO q0 (b_X4_doStep_43 q) (fun r => r) := by
  unfold b_X4_doStep_43
  exact (k_b_X4_doStep_44 q0 q (0 : Int32) h)

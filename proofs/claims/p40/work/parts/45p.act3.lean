/-! ===== acts: both ===== -/
theorem RY_wH {q q' : SS} (f : Fr wH v0 q q') (h : RY q) : RY q' := RY_fr (Fr_r f fun _ => rfl) (Fr_r f fun _ => rfl) (Fr_r f fun _ => rfl) (Fr_r f fun _ => rfl) (Fr_r f fun _ => rfl) (Fr_r f fun _ => rfl) (Fr_r f fun _ => rfl) (Fr_r f fun _ => rfl) (Fr_r f fun _ => rfl) (Fr_r f fun _ => rfl) (Fr_r f fun _ => rfl) (Fr_r f fun _ => rfl) (Fr_r f fun _ => rfl) (Fr_r f fun _ => rfl) (f.1 _ _ rfl) (f.1 _ _ rfl) (f.1 _ _ rfl) (f.1 _ _ rfl) (f.1 _ _ rfl) (f.1 _ _ rfl) (f.1 _ _ rfl) (f.1 _ _ rfl) h
theorem RC_wH {q q' : SS} (f : Fr wH v0 q q') (h : RC q) : RC q' := RC_fr (Fr_r f fun _ => rfl) (Fr_r f fun _ => rfl) (Fr_r f fun _ => rfl) (Fr_r f fun _ => rfl) (Fr_r f fun _ => rfl) (Fr_r f fun _ => rfl) (Fr_r f fun _ => rfl) (Fr_r f fun _ => rfl) (f.1 _ _ rfl) (f.1 _ _ rfl) (f.1 _ _ rfl) (f.1 _ _ rfl) (f.1 _ _ rfl) (f.1 _ _ rfl) h
theorem RD_wH {q q' : SS} (f : Fr wH v0 q q') (h : RD q) : RD q' := RD_fr (Fr_r f fun _ => rfl) (Fr_r f fun _ => rfl) (Fr_r f fun _ => rfl) (Fr_r f fun _ => rfl) (Fr_r f fun _ => rfl) (Fr_r f fun _ => rfl) (Fr_r f fun _ => rfl) (Fr_r f fun _ => rfl) (f.1 _ _ rfl) (f.1 _ _ rfl) (f.1 _ _ rfl) (f.1 _ _ rfl) (f.1 _ _ rfl) (f.1 _ _ rfl) (f.1 _ _ rfl) (f.1 _ _ rfl) h
theorem RT_wH {q q' : SS} (f : Fr wH v0 q q') (h : RT q) : RT q' := RT_fr (Fr_r f fun _ => rfl) (Fr_r f fun _ => rfl) (f.1 _ _ rfl) (f.1 _ _ rfl) h
theorem RS_wH {q q' : SS} (f : Fr wH v0 q q') (h : RS q) : RS q' := RS_fr (Fr_r f fun _ => rfl) (Fr_r f fun _ => rfl) (Fr_r f fun _ => rfl) (Fr_r f fun _ => rfl) (Fr_r f fun _ => rfl) (f.1 _ _ rfl) (f.2 _ rfl) (fun s _ => f.2 _ rfl) h
theorem RW_wH {q q' : SS} (f : Fr wH v0 q q') (h : RW q) : RW q' := RW_fr (Fr_r f fun _ => rfl) (Fr_r f fun _ => rfl) (Fr_r f fun _ => rfl) (Fr_r f fun _ => rfl) (f.1 _ _ rfl) (f.1 _ _ rfl) h
theorem RJ_wH {q q' : SS} (f : Fr wH v0 q q') (h : RJ q) : RJ q' := RJ_fr (Fr_r f fun _ => rfl) (f.1 _ _ rfl) h
theorem INV_act {q s : SS} (h : INV q) (f : Fr wH v0 q s) (r : s.1 57 3 = s.1 60 54) (r0 : 0 ≤ (s.1 60 54).toInt) (t : s.1 59 = s.1 88) : INV s := by
  have hH := INV_RH h
  refine ⟨RY_wH f (INV_RY h), RC_wH f (INV_RC h), RD_wH f (INV_RD h), RT_wH f (INV_RT h), ?_, RS_wH f (INV_RS h), RW_wH f (INV_RW h), RJ_wH f (INV_RJ h)⟩
  obtain ⟨h1, h2, h3, h4, h5, _, _, _⟩ := hH
  unfold RH
  rw [f.1 57 2 rfl, f.1 60 52 rfl, Fr_r f (k := 58) fun _ => rfl, Fr_r f (k := 87) fun _ => rfl]
  exact ⟨h1, h2, h3, h4, h5, r, r0, t⟩
/-- with a's class cells and b's own: what the two runs lay together -/
theorem act_fin {q x z s : SS} (h : INV q) (fx : Fr wH v0 q x) (hx60 : x.1 60 54 = q.1 60 54) (hx88 : x.1 88 = q.1 88) (hz : z = sI x 60 54 0) (fs : Fr wH v0 z s) (s57 : s.1 57 = z.1 57) (s59 : s.1 59 = z.1 59) (t : TR x s) (r0 : 0 ≤ (s.1 60 54).toInt) : INV s := by
  subst hz
  refine INV_act h (Fr_tr fx (Fr_tr (Fr_sI (Fr_refl x) rfl) fs)) ?_ r0 ?_
  · rw [s57]
    show x.1 57 3 = _
    exact t.1
  · rw [s59]
    show x.1 59 = _
    exact t.2
theorem nbM_57 {q : SS} {v : Int32} : (nbM q v).1 57 = q.1 57 ∧ (nbM q v).1 59 = q.1 59 := by
  unfold nbM
  split
  · exact ⟨rfl, rfl⟩
  · exact ⟨rfl, rfl⟩
theorem nbX_60 {q : SS} {v : Int32} : (nbX q v).1 60 = q.1 60 ∧ (nbX q v).1 88 = q.1 88 ∧ (nbX q v).1 87 = q.1 87 := by
  unfold nbX
  split
  · exact ⟨rfl, rfl, rfl⟩
  · exact ⟨rfl, rfl, rfl⟩
/-- lists of notes -/
def nsX (q : SS) : List Int32 → SS
  | [] => q
  | v :: l => nsX (nbX q v) l
def nsM (q : SS) : List Int32 → SS
  | [] => q
  | v :: l => nsM (nbM q v) l
theorem ns_X : ∀ (l : List Int32) (q a : SS), Fr wH v0 a q → Fr wH v0 a (nsX q l) ∧ (nsX q l).1 60 = q.1 60 ∧ (nsX q l).1 88 = q.1 88 ∧ (nsX q l).1 87 = q.1 87
  | [], _, _, h => ⟨h, rfl, rfl, rfl⟩
  | v :: l, q, a, h => by
    obtain ⟨h1, h2, h3, h4⟩ := ns_X l (nbX q v) a (nbX_fr h)
    exact ⟨h1, h2.trans nbX_60.1, h3.trans nbX_60.2.1, h4.trans nbX_60.2.2⟩
theorem ns_M : ∀ (l : List Int32) (q a : SS), Fr wH v0 a q → Fr wH v0 a (nsM q l) ∧ (nsM q l).1 57 = q.1 57 ∧ (nsM q l).1 59 = q.1 59
  | [], _, _, h => ⟨h, rfl, rfl⟩
  | v :: l, q, a, h => by
    obtain ⟨h1, h2, h3⟩ := ns_M l (nbM q v) a (nbM_fr h)
    exact ⟨h1, h2.trans nbM_57.1, h3.trans nbM_57.2⟩
theorem ns_TR : ∀ (l : List Int32) (a b : SS), TR a b → TR (nsX a l) (nsM b l)
  | [], _, _, h => h
  | v :: l, a, b, h => ns_TR l _ _ (TR_nb h v)
theorem ns_r : ∀ (l : List Int32) (b : SS), okR (b.1 60 54) l.length → 0 ≤ ((nsM b l).1 60 54).toInt
  | [], _, h => h.1
  | v :: l, b, h => ns_r l _ (nbM_ran (n := l.length) (by
      have e : ((v :: l).length : Int) = (l.length : Int) + 1 := by simp
      rw [e] at h
      exact h) (by omega))
theorem act_go {q : SS} (h : INV q) {b k x a v : Int32} (hb : 0 ≤ b.toInt ∧ b.toInt < (q.1 60 52).toInt) (hk : q.1 87 b.toNatClampNeg = k) (a0 : 0 ≤ a.toInt ∧ a.toInt ≤ 3) (l : List Int32) (hl : l.length ≤ 500)
    (hX : ∀ y : SS, OKk y k b → okR (y.1 57 3) l.length → f_X3_perform y k a x 0 = some (v, nsX y l))
    (hM : ∀ y : SS, y.1 87 b.toNatClampNeg = k → okR (y.1 60 54) l.length → (if a = 0 then f_X12_slipping y b x else if a = 1 then f_X12_folding y b x else if a = 2 then f_X12_proving y b x else f_X12_telling y b x) = some (v, nsM y l)) :
    T (f_X11_act q b a x) (fun r => T (f_X12_act r.2 b a x) (fun s => INV s.2 ∧ r.1 = s.1)) := by
  have hH := INV_RH h
  have b50 := RH_b50 hH
  have eb := RH_bodies hH
  have b0 := RH_b0 hH
  unfold f_X11_act f_X3_begin
  have y0 : OKk (sI (sI q 57 3 0) 57 4 b) k b := by
    refine ⟨rfl, ?_⟩
    rw [x_kindOf (sI (sI q 57 3 0) 57 4 b) (by show (q.1 57 2).toInt ≤ 50; rw [eb]; exact b50) b]
    show some (if 0 ≤ b.toInt ∧ b.toInt < (q.1 57 2).toInt then q.1 58 b.toNatClampNeg else -1) = _
    rw [eb, if_pos hb, RH_kind hH, hk]
  have l4 : (4 : Int32).toInt = 4 := rfl
  have l0 : (0 : Int32).toInt = 0 := rfl
  have pX := hX (sI (sI q 57 3 0) 57 4 b) y0 ⟨by show (0 : Int) ≤ (0 : Int32).toInt; decide, by show (0 : Int32).toInt + _ ≤ 1000; omega⟩
  obtain ⟨f1, f2, f3, f4⟩ := ns_X l (sI (sI q 57 3 0) 57 4 b) q (Fr_sI (Fr_sI (Fr_refl q) rfl) rfl)
  have ib : f_X3_isBody (sI q 57 3 0) b = some (bI (0 ≤ b.toInt ∧ b.toInt < (q.1 60 52).toInt)) := by
    rw [x_isBody]
    show some (bI (0 ≤ b.toInt ∧ b.toInt < (q.1 57 2).toInt)) = _
    exact congrArg some (bI_c (by rw [eb]))
  refine T_b (T_nm (T_rw ib (T_bp hb (T_ltn (by omega) (T_ltp (by omega) (T_nm (T_rw y0.2 (T_rw pX (T_some.mpr (Eq.refl _))))))))) ) (fun r hr => ?_)
  subst hr
  refine T_some.mpr ?_
  generalize hx : nsX (sI (sI q 57 3 0) 57 4 b) l = X at *
  have X60 : X.1 60 = q.1 60 := f2
  have X88 : X.1 88 = q.1 88 := f3
  have X87 : X.1 87 = q.1 87 := f4
  unfold f_X12_act
  refine T_nm ?_
  have m1 : f_X12_isBody (sI X 60 54 0) b = some (bI (0 ≤ b.toInt ∧ b.toInt < (q.1 60 52).toInt)) := by
    rw [m_isBody (by show 0 ≤ (X.1 60 52).toInt; rw [X60]; exact b0)]
    show some (bI (0 ≤ b.toInt ∧ b.toInt < (X.1 60 52).toInt)) = _
    exact congrArg some (bI_c (by rw [X60]))
  have m2 : f_X12_in (sI X 60 54 0) a 0 3 = some (bI (0 ≤ a.toInt ∧ a.toInt ≤ 3)) := m_in _ a 0 3
  have pM := hM (sI X 60 54 0) (by show X.1 87 b.toNatClampNeg = k; rw [X87]; exact hk) ⟨by show (0 : Int) ≤ (0 : Int32).toInt; decide, by show (0 : Int32).toInt + _ ≤ 1000; omega⟩
  obtain ⟨g1, g2, g3⟩ := ns_M l (sI X 60 54 0) (sI X 60 54 0) (Fr_refl _)
  have tr : TR X (nsM (sI X 60 54 0) l) := by
    rw [← hx]
    refine ns_TR l _ _ ⟨rfl, ?_⟩
    show q.1 59 = (nsX (sI (sI q 57 3 0) 57 4 b) l).1 88
    rw [hx, X88, RH_trace hH]
  have r0 : 0 ≤ ((nsM (sI X 60 54 0) l).1 60 54).toInt := ns_r l _ ⟨by show (0 : Int) ≤ (0 : Int32).toInt; decide, by show (0 : Int32).toInt + _ ≤ 1000; omega⟩
  have fin : INV (nsM (sI X 60 54 0) l) := act_fin h f1 (by rw [X60]) X88 rfl g1 g2 g3 tr r0
  refine T_rw m1 (T_bp hb (T_rw m2 (T_bp a0 ?_)))
  by_cases e0 : a = 0
  · rw [if_pos e0] at pM
    exact T_p e0 (T_rw pM (T_some.mpr ⟨fin, rfl⟩))
  rw [if_neg e0] at pM
  by_cases e1 : a = 1
  · rw [if_pos e1] at pM
    exact T_q e0 (T_p e1 (T_rw pM (T_some.mpr ⟨fin, rfl⟩)))
  rw [if_neg e1] at pM
  by_cases e2 : a = 2
  · rw [if_pos e2] at pM
    exact T_q e0 (T_q e1 (T_p e2 (T_rw pM (T_some.mpr ⟨fin, rfl⟩))))
  rw [if_neg e2] at pM
  exact T_q e0 (T_q e1 (T_q e2 (T_rw pM (T_some.mpr ⟨fin, rfl⟩))))
theorem a03 {w : Int32} (h0 : 0 ≤ w.toInt) (h8 : w.toInt ≤ 3) : w = 0 ∨ w = 1 ∨ w = 2 ∨ w = 3 := by
  simp only [← Int32.toInt_inj, Int32.reduceToInt]
  omega
theorem k07 {w : Int32} (h0 : 0 ≤ w.toInt) (h8 : w.toInt ≤ 7) : w = 0 ∨ w = 1 ∨ w = 2 ∨ w = 3 ∨ w = 4 ∨ w = 5 ∨ w = 6 ∨ w = 7 := by
  simp only [← Int32.toInt_inj, Int32.reduceToInt]
  omega
theorem op_act {q : SS} (h : INV q) (b a x : Int32) : T (f_X11_act q b a x) (fun r => T (f_X12_act r.2 b a x) (fun s => INV s.2 ∧ r.1 = s.1)) := by
  have hH := INV_RH h
  have eb := RH_bodies hH
  have b0 := RH_b0 hH
  have b50 := RH_b50 hH
  have l4 : (4 : Int32).toInt = 4 := rfl
  have l0 : (0 : Int32).toInt = 0 := rfl
  by_cases hb : 0 ≤ b.toInt ∧ b.toInt < (q.1 60 52).toInt
  · by_cases ha : 0 ≤ a.toInt ∧ a.toInt ≤ 3
    · have kk := RH_rkind hH b.toNatClampNeg (by rw [cnI hb.1]; exact hb.2)
      have v : vin b 50 := ⟨hb.1, by show b.toInt < 50; omega⟩
      generalize hk : q.1 87 b.toNatClampNeg = k at *
      rcases k07 kk.1 kk.2 with rfl | rfl | rfl | rfl | rfl | rfl | rfl | rfl
      · rcases a03 ha.1 ha.2 with rfl | rfl | rfl | rfl
        · exact act_go h hb hk (by decide) [1] (by decide) (fun y o r => pf_0_0_0 o 59 x 0 (by decide) (by decide) r) (fun y e r => m_sl_0 v e r x)
        · exact act_go h hb hk (by decide) [10, 1] (by decide) (fun y o r => pf_0_0_1 o 58 x 0 (by decide) (by decide) r) (fun y e r => m_fo_0 v e r x)
        · exact act_go h hb hk (by decide) [11] (by decide) (fun y o r => pf_0_0_2 o 59 x 0 (by decide) (by decide) r) (fun y e r => m_pr_0 v e r x)
        · exact act_go h hb hk (by decide) [2, 10, 1, 11] (by decide) (fun y o r => pf_0_0_3 o 57 x 0 (by decide) (by decide) r) (fun y e r => m_te_0 v e r x)
      · rcases a03 ha.1 ha.2 with rfl | rfl | rfl | rfl
        · exact act_go h hb hk (by decide) [20, 1] (by decide) (fun y o r => pf_1_1_0 o 58 x 0 (by decide) (by decide) r) (fun y e r => m_sl_1 v e r x)
        · exact act_go h hb hk (by decide) [10, 20, 1] (by decide) (fun y o r => pf_1_1_1 o 57 x 0 (by decide) (by decide) r) (fun y e r => m_fo_1 v e r x)
        · exact act_go h hb hk (by decide) [11] (by decide) (fun y o r => pf_1_1_2 o 59 x 0 (by decide) (by decide) r) (fun y e r => m_pr_1 v e r x)
        · exact act_go h hb hk (by decide) [2, 10, 20, 1, 11] (by decide) (fun y o r => pf_1_1_3 o 56 x 0 (by decide) (by decide) r) (fun y e r => m_te_1 v e r x)
      · rcases a03 ha.1 ha.2 with rfl | rfl | rfl | rfl
        · exact act_go h hb hk (by decide) [1] (by decide) (fun y o r => pf_2_2_0 o 59 x 0 (by decide) (by decide) r) (fun y e r => m_sl_2 v e r x)
        · exact act_go h hb hk (by decide) [30, 10, 1] (by decide) (fun y o r => pf_2_2_1 o 57 x 0 (by decide) (by decide) r) (fun y e r => m_fo_2 v e r x)
        · exact act_go h hb hk (by decide) [11] (by decide) (fun y o r => pf_2_2_2 o 59 x 0 (by decide) (by decide) r) (fun y e r => m_pr_2 v e r x)
        · exact act_go h hb hk (by decide) [2, 30, 10, 1, 11] (by decide) (fun y o r => pf_2_2_3 o 56 x 0 (by decide) (by decide) r) (fun y e r => m_te_2 v e r x)
      · rcases a03 ha.1 ha.2 with rfl | rfl | rfl | rfl
        · exact act_go h hb hk (by decide) [1] (by decide) (fun y o r => pf_3_3_0 o 59 x 0 (by decide) (by decide) r) (fun y e r => m_sl_3 v e r x)
        · exact act_go h hb hk (by decide) [41, 30, 10, 1] (by decide) (fun y o r => pf_3_3_1 o 56 x 0 (by decide) (by decide) r) (fun y e r => m_fo_3 v e r x)
        · exact act_go h hb hk (by decide) [40, 11] (by decide) (fun y o r => pf_3_3_2 o 58 x 0 (by decide) (by decide) r) (fun y e r => m_pr_3 v e r x)
        · exact act_go h hb hk (by decide) [2, 41, 30, 10, 1, 40, 11] (by decide) (fun y o r => pf_3_3_3 o 55 x 0 (by decide) (by decide) r) (fun y e r => m_te_3 v e r x)
      · rcases a03 ha.1 ha.2 with rfl | rfl | rfl | rfl
        · exact act_go h hb hk (by decide) [20, 1] (by decide) (fun y o r => pf_4_4_0 o 58 x 0 (by decide) (by decide) r) (fun y e r => m_sl_4 v e r x)
        · exact act_go h hb hk (by decide) [10, 20, 1] (by decide) (fun y o r => pf_4_4_1 o 57 x 0 (by decide) (by decide) r) (fun y e r => m_fo_4 v e r x)
        · exact act_go h hb hk (by decide) [11] (by decide) (fun y o r => pf_4_4_2 o 59 x 0 (by decide) (by decide) r) (fun y e r => m_pr_4 v e r x)
        · exact act_go h hb hk (by decide) [50, 2, 10, 20, 1, 11] (by decide) (fun y o r => pf_4_4_3 o 55 x 0 (by decide) (by decide) r) (fun y e r => m_te_4 v e r x)
      · rcases a03 ha.1 ha.2 with rfl | rfl | rfl | rfl
        · exact act_go h hb hk (by decide) [1] (by decide) (fun y o r => pf_5_5_0 o 59 x 0 (by decide) (by decide) r) (fun y e r => m_sl_5 v e r x)
        · exact act_go h hb hk (by decide) [41, 30, 10, 1] (by decide) (fun y o r => pf_5_5_1 o 56 x 0 (by decide) (by decide) r) (fun y e r => m_fo_5 v e r x)
        · exact act_go h hb hk (by decide) [60, 40, 11, 1] (by decide) (fun y o r => pf_5_5_2 o 57 x 0 (by decide) (by decide) r) (fun y e r => m_pr_5 v e r x)
        · exact act_go h hb hk (by decide) [61, 2, 41, 30, 10, 1, 60, 40, 11, 1] (by decide) (fun y o r => pf_5_5_3 o 54 x 0 (by decide) (by decide) r) (fun y e r => m_te_5 v e r x)
      · rcases a03 ha.1 ha.2 with rfl | rfl | rfl | rfl
        · exact act_go h hb hk (by decide) [70, 1] (by decide) (fun y o r => pf_6_6_0 o 58 x 0 (by decide) (by decide) r) (fun y e r => m_sl_6 v e r x)
        · exact act_go h hb hk (by decide) [10, 70, 1] (by decide) (fun y o r => pf_6_6_1 o 57 x 0 (by decide) (by decide) r) (fun y e r => m_fo_6 v e r x)
        · exact act_go h hb hk (by decide) [11] (by decide) (fun y o r => pf_6_6_2 o 59 x 0 (by decide) (by decide) r) (fun y e r => m_pr_6 v e r x)
        · exact act_go h hb hk (by decide) [2, 10, 70, 1, 11] (by decide) (fun y o r => pf_6_6_3 o 56 x 0 (by decide) (by decide) r) (fun y e r => m_te_6 v e r x)
      · rcases a03 ha.1 ha.2 with rfl | rfl | rfl | rfl
        · exact act_go h hb hk (by decide) [81, 70, 1] (by decide) (fun y o r => pf_7_7_0 o 57 x 0 (by decide) (by decide) r) (fun y e r => m_sl_7 v e r x)
        · exact act_go h hb hk (by decide) [80, 10, 81, 70, 1, 11] (by decide) (fun y o r => pf_7_7_1 o 55 x 0 (by decide) (by decide) r) (fun y e r => m_fo_7 v e r x)
        · exact act_go h hb hk (by decide) [11] (by decide) (fun y o r => pf_7_7_2 o 59 x 0 (by decide) (by decide) r) (fun y e r => m_pr_7 v e r x)
        · exact act_go h hb hk (by decide) [2, 80, 10, 81, 70, 1, 11, 11] (by decide) (fun y o r => pf_7_7_3 o 54 x 0 (by decide) (by decide) r) (fun y e r => m_te_7 v e r x)
    · have key : INV (sI (sI q 57 3 0) 60 54 0) := INV_act h (Fr_sI (Fr_sI (Fr_refl q) rfl) rfl) rfl (by show (0 : Int) ≤ (0 : Int32).toInt; decide) (by have a := RH_trace hH; exact a)
      have key2 : T (f_X12_act (sI q 57 3 0) b a x) (fun s => INV s.2 ∧ 0 = s.1) := by
        unfold f_X12_act
        have m2 : ∀ z, f_X12_in z a 0 3 = some (bI (0 ≤ a.toInt ∧ a.toInt ≤ 3)) := fun z => m_in z a 0 3
        exact T_nm (T_rw (m_isBody (q := sI (sI q 57 3 0) 60 54 0) b0 b) (T_bp hb (T_rw (m2 _) (T_bn ha (T_some.mpr ⟨key, rfl⟩)))))
      unfold f_X11_act f_X3_begin
      have ib : f_X3_isBody (sI q 57 3 0) b = some (bI (0 ≤ b.toInt ∧ b.toInt < (q.1 60 52).toInt)) := by
        rw [x_isBody]
        show some (bI (0 ≤ b.toInt ∧ b.toInt < (q.1 57 2).toInt)) = _
        exact congrArg some (bI_c (by rw [eb]))
      refine T_b (Q := fun r => r = (0, sI q 57 3 0)) (T_nm (T_rw ib (T_bp hb (T_lt (fun _ => T_some.mpr rfl) (fun g => T_lt (fun g2 => absurd ⟨g, by omega⟩ ha) (fun _ => T_some.mpr rfl)))))) (fun r hr => ?_)
      subst hr
      exact T_some.mpr key2
  · have key : INV (sI (sI q 57 3 0) 60 54 0) := INV_act h (Fr_sI (Fr_sI (Fr_refl q) rfl) rfl) rfl (by show (0 : Int) ≤ (0 : Int32).toInt; decide) (by have a := RH_trace hH; exact a)
    have key2 : T (f_X12_act (sI q 57 3 0) b a x) (fun s => INV s.2 ∧ 0 = s.1) := by
      unfold f_X12_act
      exact T_nm (T_rw (m_isBody (q := sI (sI q 57 3 0) 60 54 0) b0 b) (T_bn hb (T_some.mpr ⟨key, rfl⟩)))
    unfold f_X11_act f_X3_begin
    have ib : f_X3_isBody (sI q 57 3 0) b = some (bI (0 ≤ b.toInt ∧ b.toInt < (q.1 60 52).toInt)) := by
      rw [x_isBody]
      show some (bI (0 ≤ b.toInt ∧ b.toInt < (q.1 57 2).toInt)) = _
      exact congrArg some (bI_c (by rw [eb]))
    refine T_b (Q := fun r => r = (0, sI q 57 3 0)) (T_nm (T_rw ib (T_bn hb (T_some.mpr rfl)))) (fun r hr => ?_)
    subst hr
    exact T_some.mpr key2

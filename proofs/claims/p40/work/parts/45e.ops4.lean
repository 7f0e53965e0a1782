/-! ===== body, keep, row, put ===== -/
theorem cnI {a : Int32} (h : 0 ≤ a.toInt) : (a.toNatClampNeg : Int) = a.toInt := by
  simp only [cn_eq]
  omega
theorem cnL {a : Int32} {n : Nat} (h0 : 0 ≤ a.toInt) (h : a.toInt < (n : Int)) : a.toNatClampNeg < n := by
  simp only [cn_eq]
  omega
theorem RS_up {q q' : SS} (e27 : q'.1 27 = q.1 27) (e28 : q'.1 28 = q.1 28) (e29 : q'.1 29 = q.1 29) (e89 : q'.1 89 = q.1 89) (e90 : q'.1 90 = q.1 90) (e60_52 : (q.1 60 52).toInt ≤ (q'.1 60 52).toInt) (l91 : q'.2 91 = q.2 91) (l31 : ∀ s, s < 6 → q'.2 (31 + s) = q.2 (31 + s)) (h : RS q) : RS q' := by
  unfold RS at h ⊢
  rw [e27, e28, e29, e89, e90]
  obtain ⟨h1, h2, h3, h4⟩ := h
  refine ⟨h1, h2, fun s hs => ?_, fun s hs h0 i hi => ?_⟩
  · rcases h3 s hs with k | k | k
    · exact Or.inl k
    · exact Or.inr (Or.inl ⟨k.1, k.2.1, k.2.2.1, by have := k.2.2.2; omega⟩)
    · exact Or.inr (Or.inr k)
  · rw [l31 s hs, l91]
    exact h4 s hs h0 i hi
theorem RH_body {q : SS} (h : RH q) {k : Int32} (hk : 0 ≤ k.toInt ∧ k.toInt ≤ 7) (hb : (q.1 60 52).toInt < 50) : RH (sI (sI (sI (sI q 58 (q.1 60 52).toNatClampNeg k) 57 2 (q.1 60 52 + 1)) 87 (q.1 60 52).toNatClampNeg k) 60 52 (q.1 60 52 + 1)) := by
  have h0 := RH_b0 h
  have e1 : (q.1 60 52 + 1).toInt = (q.1 60 52).toInt + 1 := inc1 (by omega) (by omega)
  generalize hn : q.1 60 52 + 1 = n at *
  have ec := cnI h0
  generalize hm : (q.1 60 52).toNatClampNeg = m at *
  unfold RH
  refine ⟨?_, ?_, ?_, ?_, ?_, ?_, ?_, ?_⟩
  · have a := RH_bodies h; simp [sI_rd] <;> first | omega | grind
  · have a := RH_b0 h; simp [sI_rd] <;> first | omega | grind
  · have a := RH_b50 h; simp [sI_rd] <;> first | omega | grind
  · have a := RH_kind h; funext j; have a := congrFun a j; simp [sI_rd] <;> grind
  · have a := RH_rkind h; intro i hi; simp [sI_rd] at hi ⊢ <;> (try split) <;> grind
  · have a := RH_ran h; exact a
  · have a := RH_r0 h; exact a
  · have a := RH_trace h; exact a
theorem op_body {q : SS} (h : INV q) (a : Int32) : T (f_X11_body q a) (fun r => T (f_X12_body r.2 a) (fun s => INV s.2 ∧ r.1 = s.1)) := by
  have hT := INV_RH h
  have l0 := RH_b0 hT
  have l50 := RH_b50 hT
  have el := RH_bodies hT
  have m1 : ∀ r, f_X12_in r a 0 7 = some (bI (0 ≤ a.toInt ∧ a.toInt ≤ 7)) := fun r => m_in r a 0 7
  unfold f_X11_body f_X3_addBody
  refine T_rw (x_isKind q a) ?_
  by_cases c : 0 ≤ a.toInt ∧ a.toInt ≤ 7
  · refine T_bp (by omega) ?_
    rw [el]
    by_cases g : (q.1 60 52).toInt < 50
    · have e1 : (q.1 60 52 + 1).toInt = (q.1 60 52).toInt + 1 := inc1 (by omega) (by omega)
      refine T_b (T_ltp g (T_vp l0 g (T_nm (T_nm (T_some.mpr (Eq.refl _)))))) (fun r hr => ?_)
      subst hr
      refine T_some.mpr ?_
      unfold f_X12_body
      refine T_rw (m1 _) (T_bp c (T_q (by show ¬ q.1 60 52 = 50; intro k; rw [k] at g; exact absurd g (by decide)) (T_vp l0 g (T_nm (T_nm (T_some.mpr ⟨?_, ?_⟩))))))
      · show INV (sI (sI (sI (sI q 58 (q.1 60 52).toNatClampNeg a) 57 2 (q.1 57 2 + 1)) 87 (q.1 60 52).toNatClampNeg a) 60 52 (q.1 60 52 + 1))
        rw [el]
        exact ⟨RY_fr (q := q) rfl rfl rfl rfl rfl rfl rfl rfl rfl rfl rfl rfl rfl rfl rfl rfl rfl rfl rfl rfl rfl rfl (INV_RY h), RC_fr (q := q) rfl rfl rfl rfl rfl rfl rfl rfl rfl rfl rfl rfl rfl rfl (INV_RC h), RD_fr (q := q) rfl rfl rfl rfl rfl rfl rfl rfl rfl rfl rfl rfl rfl rfl rfl rfl (INV_RD h), RT_fr (q := q) rfl rfl rfl rfl (INV_RT h), RH_body hT c g, RS_up (q := q) rfl rfl rfl rfl rfl (by show _ ≤ (q.1 60 52 + 1).toInt; omega) rfl (fun _ _ => rfl) (INV_RS h), RW_fr (q := q) rfl rfl rfl rfl rfl rfl (INV_RW h), RJ_fr (q := q) rfl rfl (INV_RJ h)⟩
      · show q.1 57 2 + 1 - 1 = q.1 60 52 + 1 - 1
        rw [el]
    · have e : q.1 60 52 = 50 := Int32.toInt_inj.mp (by have : (50 : Int32).toInt = 50 := rfl; omega)
      rw [e]
      refine T_b (T_q (by decide) (T_some.mpr (Eq.refl _))) (fun r hr => ?_)
      subst hr
      refine T_some.mpr ?_
      unfold f_X12_body
      exact T_rw (m1 _) (T_bp c (T_p e (T_some.mpr ⟨h, rfl⟩)))
  · refine T_bn (by omega) (T_some.mpr ?_)
    unfold f_X12_body
    exact T_rw (m1 _) (T_bn c (T_some.mpr ⟨h, rfl⟩))
theorem RS_keep1 {q : SS} (h : RS q) {s : Nat} (hs : s < 6) : RS (sI (sI q 27 s (-2)) 89 s (-1)) := by
  obtain ⟨h1, h2, h3, h4⟩ := h
  refine ⟨h1, h2, fun t ht => ?_, fun t ht h0 i hi => ?_⟩
  · have k := h3 t ht
    simp only [sI_rd]
    by_cases e : t = s
    · subst e; exact Or.inl ⟨by simp, by simp⟩
    · simp only [e]
      simpa using k
  · simp only [sI_rd] at h0 hi
    by_cases e : t = s
    · subst e; simp at h0
    · simp only [e] at h0
      exact h4 t ht (by simpa using h0) i (by simpa using hi)
theorem RS_keep2 {q : SS} (h : RS q) {s : Nat} (hs : s < 6) {b : Int32} (hb : 0 ≤ b.toInt ∧ b.toInt < (q.1 60 52).toInt) : RS (sI (sI (sI q 27 s (-1)) 29 s b) 89 s b) := by
  obtain ⟨h1, h2, h3, h4⟩ := h
  refine ⟨h1, h2, fun t ht => ?_, fun t ht h0 i hi => ?_⟩
  · have k := h3 t ht
    simp only [sI_rd]
    by_cases e : t = s
    · subst e; exact Or.inr (Or.inl ⟨by simp, by simp, by simpa using hb.1, by simpa using hb.2⟩)
    · simp only [e]
      simpa using k
  · simp only [sI_rd] at h0 hi
    by_cases e : t = s
    · subst e; simp at h0
    · simp only [e] at h0
      exact h4 t ht (by simpa using h0) i (by simpa using hi)
theorem op_keep {q : SS} (h : INV q) (a b : Int32) : T (f_X11_keep q a b) (fun r => T (f_X12_keep r.2 a b) (fun s => INV s.2 ∧ r.1 = s.1)) := by
  have hH := INV_RH h
  have b0 := RH_b0 hH
  have el := RH_bodies hH
  unfold f_X11_keep b_X11_keep_29
  refine T_rw (x_isShelf q a) ?_
  by_cases c : 0 ≤ a.toInt ∧ a.toInt < 6
  · have hs := cnL c.1 c.2
    refine T_bp c ?_
    by_cases d : b = -1
    · subst d
      refine T_p rfl (T_p rfl ?_)
      unfold f_X7_clear
      refine T_b (T_rw (x_isShelf q a) (T_bp c (T_vp c.1 c.2 (T_nm (T_some.mpr (Eq.refl _)))))) (fun r hr => ?_)
      subst hr
      refine T_some.mpr ?_
      unfold f_X12_keep b_X12_keep_22
      refine T_rw (m_isShelf _ a) (T_bp c (T_p rfl (T_vp c.1 c.2 (T_nm (T_some.mpr ⟨?_, rfl⟩)))))
      exact ⟨RY_fr (q := q) rfl rfl rfl rfl rfl rfl rfl rfl rfl rfl rfl rfl rfl rfl rfl rfl rfl rfl rfl rfl rfl rfl (INV_RY h), RC_fr (q := q) rfl rfl rfl rfl rfl rfl rfl rfl rfl rfl rfl rfl rfl rfl (INV_RC h), RD_fr (q := q) rfl rfl rfl rfl rfl rfl rfl rfl rfl rfl rfl rfl rfl rfl rfl rfl (INV_RD h), RT_fr (q := q) rfl rfl rfl rfl (INV_RT h), RH_fr (q := q) rfl rfl rfl rfl rfl rfl rfl rfl (INV_RH h), RS_keep1 (INV_RS h) hs, RW_fr (q := q) rfl rfl rfl rfl rfl rfl (INV_RW h), RJ_fr (q := q) rfl rfl (INV_RJ h)⟩
    · refine T_q d (T_rw (x_isBody q b) ?_)
      rw [el]
      refine T_bi (fun g => T_some.mpr ?_) (fun g => T_q d ?_)
      · unfold f_X12_keep
        exact T_rw (m_isShelf _ a) (T_bp c (T_q d (T_rw (m_isBody b0 b) (T_bn g (T_some.mpr ⟨h, rfl⟩)))))
      · unfold f_X7_holdBody
        refine T_b (T_rw (x_isShelf q a) (T_bp c (T_vp c.1 c.2 (T_nm (T_vp c.1 c.2 (T_nm (T_some.mpr (Eq.refl _)))))))) (fun r hr => ?_)
        subst hr
        refine T_some.mpr ?_
        unfold f_X12_keep b_X12_keep_22
        refine T_rw (m_isShelf _ a) (T_bp c (T_q d (T_rw (m_isBody (q := sI (sI q 27 a.toNatClampNeg (-1)) 29 a.toNatClampNeg b) b0 b) (T_bp g (T_vp c.1 c.2 (T_nm (T_some.mpr ⟨?_, rfl⟩)))))))
        exact ⟨RY_fr (q := q) rfl rfl rfl rfl rfl rfl rfl rfl rfl rfl rfl rfl rfl rfl rfl rfl rfl rfl rfl rfl rfl rfl (INV_RY h), RC_fr (q := q) rfl rfl rfl rfl rfl rfl rfl rfl rfl rfl rfl rfl rfl rfl (INV_RC h), RD_fr (q := q) rfl rfl rfl rfl rfl rfl rfl rfl rfl rfl rfl rfl rfl rfl rfl rfl (INV_RD h), RT_fr (q := q) rfl rfl rfl rfl (INV_RT h), RH_fr (q := q) rfl rfl rfl rfl rfl rfl rfl rfl (INV_RH h), RS_keep2 (INV_RS h) hs g, RW_fr (q := q) rfl rfl rfl rfl rfl rfl (INV_RW h), RJ_fr (q := q) rfl rfl (INV_RJ h)⟩
  · refine T_bn c (T_some.mpr ?_)
    unfold f_X12_keep
    exact T_rw (m_isShelf _ a) (T_bn c (T_some.mpr ⟨h, rfl⟩))

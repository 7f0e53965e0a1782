/-! ===== person, ticket ===== -/
theorem ne6 {a : Int32} (h : (a.toInt ≤ 6)) (g : ¬ a = 6) : a.toInt < 6 := by
  have : a.toInt ≠ 6 := fun k => g (Int32.toInt_inj.mp k)
  omega
theorem ne12 {a : Int32} (h : (a.toInt ≤ 12)) (g : ¬ a = 12) : a.toInt < 12 := by
  have : a.toInt ≠ 12 := fun k => g (Int32.toInt_inj.mp k)
  omega
theorem add_sub1 (a : Int32) : a + 1 - 1 = a := Int32.add_sub_cancel a 1
theorem m_person {r : SS} (h0 : 0 ≤ (r.1 60 1).toInt) (h6 : (r.1 60 1).toInt ≤ 6) (w : Int32) : f_X12_person r w = some (if 0 ≤ w.toInt ∧ w.toInt ≤ 12 then (if r.1 60 1 = 6 then (-3, r) else (r.1 60 1, sI (sI (sI (sI (sI r 61 (r.1 60 1).toNatClampNeg w) 62 (r.1 60 1).toNatClampNeg 0) 63 (r.1 60 1).toNatClampNeg 10) 64 (r.1 60 1).toNatClampNeg 0) 60 1 (r.1 60 1 + 1))) else (-1, r)) := by
  unfold f_X12_person
  rw [m_in, bind_s]
  by_cases c : 0 ≤ w.toInt ∧ w.toInt ≤ 12
  · rw [if_neg (by rw [bI_0]; exact fun k => k c), if_pos c]
    by_cases g : r.1 60 1 = 6
    · rw [if_pos g, if_pos g]
    · have v : vin (r.1 60 1) 6 := ⟨h0, ne6 h6 g⟩
      rw [if_neg g, if_neg g, if_pos v]
      show (if vin (r.1 60 1) 6 then (if vin (r.1 60 1) 6 then (if vin (r.1 60 1) 6 then some ((r.1 60 1 + 1) - 1, _) else none) else none) else none) = _
      rw [if_pos v, if_pos v, if_pos v, add_sub1]
      rfl
  · rw [if_pos (by rw [bI_0]; exact c), if_neg c]
theorem x_person {q : SS} (h0 : 0 ≤ (q.1 1 1).toInt) (h6 : (q.1 1 1).toInt ≤ 6) (hk : (q.1 1 2).toInt ≤ 12) (w : Int32) : f_X11_person q w = some (if 0 ≤ w.toInt ∧ w.toInt ≤ 12 then (if q.1 1 1 = 6 then (-3, q) else (q.1 1 1, sI (sI q 1 1 (q.1 1 1 + 1)) 3 (q.1 1 1).toNatClampNeg w)) else (-1, q)) := by
  unfold f_X11_person f_X10_addPerson
  rw [x_mayBe 0 w (by decide) (by decide), bind_s]
  by_cases c : 0 ≤ w.toInt ∧ w.toInt ≤ 12
  · rw [if_neg (by rw [bI_0]; intro k; apply k; unfold okV; simp only [Int32.reduceToInt]; omega), if_pos c]
    by_cases g : q.1 1 1 = 6
    · rw [if_pos g, if_neg (by rw [g]; decide)]
      rfl
    · have hh := ne6 h6 g
      have e1 := inc1 (a := q.1 1 1) (by omega) (by omega)
      rw [if_neg g, if_pos (Int32.lt_iff_toInt_lt.mpr hh)]
      show ((f_X10_set (sI q 1 1 (q.1 1 1 + 1)) 0 ((q.1 1 1 + 1) - 1) w).bind fun r2 => some (((r2.1 1 1) - (1 : Int32)), r2)).bind _ = _
      rw [add_sub1, x_set (q := sI q 1 1 (q.1 1 1 + 1)) (by show (q.1 1 1 + 1).toInt ≤ 6; omega) hk]
      rw [if_pos (Or.inl ⟨by decide, by decide, h0, by show (q.1 1 1).toInt < (q.1 1 1 + 1).toInt; omega⟩)]
      show some ((q.1 1 1 + 1) - 1, _) = _
      rw [add_sub1]
      rfl
  · rw [if_pos (by rw [bI_0]; intro k; exact c ⟨k.1, k.2.1 (by decide)⟩), if_neg c]
theorem op_person {q : SS} (h : INV q) (w : Int32) : T (f_X11_person q w) (fun r => T (f_X12_person r.2 w) (fun s => INV s.2 ∧ r.1 = s.1)) := by
  have hY := INV_RY h
  have a0 := RY_p0 hY
  have a6 := RY_p6 hY
  have ak := RY_k12 hY
  have ep := RY_p hY
  have ek := RY_k hY
  refine T_of (x_person (by rw [ep]; exact a0) (by rw [ep]; exact a6) (by rw [ek]; exact ak) w) ?_
  by_cases c : 0 ≤ w.toInt ∧ w.toInt ≤ 12
  · rw [if_pos c]
    by_cases g : q.1 1 1 = 6
    · rw [if_pos g]
      refine T_of (m_person a0 a6 w) ?_
      rw [if_pos c, if_pos (ep.symm.trans g)]
      exact ⟨h, rfl⟩
    · rw [if_neg g, ep]
      rw [ep] at g
      have e := m_person (r := (sI (sI q 1 1 (q.1 60 1 + 1)) 3 (q.1 60 1).toNatClampNeg w)) a0 a6 w
      rw [if_pos c, if_neg (show ¬ ((sI (sI q 1 1 (q.1 60 1 + 1)) 3 (q.1 60 1).toNatClampNeg w)).1 60 1 = 6 from g)] at e
      refine T_of e ?_
      have e1 := inc1 (a := q.1 60 1) (by omega) (by have := ne6 a6 g; omega)
      refine ⟨⟨RY_person hY c (ne6 a6 g), RC_up (q := q) rfl rfl rfl rfl rfl rfl rfl rfl rfl rfl (by show _ ≤ (q.1 60 1 + 1).toInt; omega) (Int.le_refl _) rfl rfl (INV_RC h), RD_up (q := q) rfl rfl rfl rfl rfl rfl rfl rfl rfl rfl rfl (by show _ ≤ (q.1 60 1 + 1).toInt; omega) (Int.le_refl _) rfl rfl rfl (INV_RD h), RT_fr (q := q) rfl rfl rfl rfl (INV_RT h), RH_fr (q := q) rfl rfl rfl rfl rfl rfl rfl rfl (INV_RH h), RS_fr (q := q) rfl rfl rfl rfl rfl rfl rfl (fun _ _ => rfl) (INV_RS h), RW_fr (q := q) rfl rfl rfl rfl rfl rfl (INV_RW h), RJ_fr (q := q) rfl rfl (INV_RJ h)⟩, rfl⟩
  · rw [if_neg c]
    refine T_of (m_person a0 a6 w) ?_
    rw [if_neg c]
    exact ⟨h, rfl⟩

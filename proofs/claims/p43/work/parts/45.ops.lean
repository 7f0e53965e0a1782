/-! ===== calls that change what holds: people, tickets ===== -/
theorem x_set {q : SS} (hp : (q.1 1 1).toInt ≤ 6) (hk : (q.1 1 2).toInt ≤ 12) (w n v : Int32) : f_X10_set q w n v = some (if okN (q.1 1 1).toInt (q.1 1 2).toInt w.toInt n.toInt then sI q (3 + w.toNatClampNeg) n.toNatClampNeg v else q) := by
  unfold f_X10_set
  simp only [x_hasNumber, bind_s, bI_0, vin, nm_eq]
  grind
theorem okN_up {P K P' K' w n : Int} (h : okN P K w n) (h1 : P ≤ P') (h2 : K ≤ K') : okN P' K' w n := by
  unfold okN at *
  omega
theorem okV_up {P P' w v : Int} (h : okV P w v) (h1 : P ≤ P') : okV P' w v := by
  obtain ⟨a, b, c, d, e, f, g⟩ := h
  exact ⟨a, b, c, d, e, fun k => by have := f k; omega, g⟩
theorem RC_up {q q' : SS} (e53 : q'.1 53 = q.1 53) (e54 : q'.1 54 = q.1 54) (e55 : q'.1 55 = q.1 55) (e56 : q'.1 56 = q.1 56) (e69 : q'.1 69 = q.1 69) (e70 : q'.1 70 = q.1 70) (e71 : q'.1 71 = q.1 71) (e72 : q'.1 72 = q.1 72) (e52_5 : q'.1 52 5 = q.1 52 5) (e52_6 : q'.1 52 6 = q.1 52 6) (e60_1 : (q.1 60 1).toInt ≤ (q'.1 60 1).toInt) (e60_6 : (q.1 60 6).toInt ≤ (q'.1 60 6).toInt) (e60_11 : q'.1 60 11 = q.1 60 11) (e60_12 : q'.1 60 12 = q.1 60 12) (h : RC q) : RC q' := by
  unfold RC at h ⊢
  simp only [e53, e54, e55, e56, e69, e70, e71, e72, e52_5, e52_6, e60_11, e60_12]
  obtain ⟨h1, h2, h3, h4, h5, h6, h7, h8, h9, h10⟩ := h
  refine ⟨h1, h2, h3, h4, h5, h6, h7, h8, h9, fun j hj => ?_⟩
  have k := h10 j hj
  exact ⟨okN_up k.1 e60_1 e60_6, okV_up k.2.1 e60_1, okV_up k.2.2 e60_1⟩
theorem RD_up {q q' : SS} (e48 : q'.1 48 = q.1 48) (e49 : q'.1 49 = q.1 49) (e50 : q'.1 50 = q.1 50) (e51 : q'.1 51 = q.1 51) (e83 : q'.1 83 = q.1 83) (e84 : q'.1 84 = q.1 84) (e85 : q'.1 85 = q.1 85) (e86 : q'.1 86 = q.1 86) (e47_5 : q'.1 47 5 = q.1 47 5) (e47_6 : q'.1 47 6 = q.1 47 6) (e47_7 : q'.1 47 7 = q.1 47 7) (e60_1 : (q.1 60 1).toInt ≤ (q'.1 60 1).toInt) (e60_6 : (q.1 60 6).toInt ≤ (q'.1 60 6).toInt) (e60_46 : q'.1 60 46 = q.1 60 46) (e60_47 : q'.1 60 47 = q.1 60 47) (e60_48 : q'.1 60 48 = q.1 60 48) (h : RD q) : RD q' := by
  unfold RD at h ⊢
  simp only [e48, e49, e50, e51, e83, e84, e85, e86, e47_5, e47_6, e47_7, e60_46, e60_47, e60_48]
  obtain ⟨h1, h2, h3, h4, h5, h6, h7, h8, h9, h10, h11, h12, h13, h14⟩ := h
  refine ⟨h1, h2, h3, h4, h5, h6, h7, h8, h9, by omega, h11, h12, fun t ht => ?_, h14⟩
  have := h13 t ht
  omega
theorem cn_inc {a : Int32} : a.toNatClampNeg = a.toInt.toNat := rfl
theorem RY_person {q : SS} (h : RY q) {w : Int32} (hw : 0 ≤ w.toInt ∧ w.toInt ≤ 12) (hP : (q.1 60 1).toInt < 6) : RY (sI (sI (sI (sI (sI (sI (sI q 1 1 (q.1 60 1 + 1)) 3 (q.1 60 1).toNatClampNeg w) 61 (q.1 60 1).toNatClampNeg w) 62 (q.1 60 1).toNatClampNeg 0) 63 (q.1 60 1).toNatClampNeg 10) 64 (q.1 60 1).toNatClampNeg 0) 60 1 (q.1 60 1 + 1)) := by
  have h0 := RY_p0 h
  have e1 : (q.1 60 1 + 1).toInt = (q.1 60 1).toInt + 1 := inc1 (by omega) (by omega)
  generalize hn : q.1 60 1 + 1 = n at *
  have ec : ((q.1 60 1).toNatClampNeg : Int) = (q.1 60 1).toInt := by
    simp only [cn_eq]
    omega
  generalize hm : (q.1 60 1).toNatClampNeg = m at *
  have l0 : (0 : Int32).toInt = 0 := rfl
  have l10 : (10 : Int32).toInt = 10 := rfl
  unfold RY
  refine ⟨?_, ?_, ?_, ?_, ?_, ?_, ?_, ?_, ?_, ?_, ?_, ?_, ?_, ?_, ?_, ?_, ?_, ?_, ?_, ?_, ?_, ?_, ?_, ?_, ?_, ?_, ?_, ?_, ?_⟩
  · have a := RY_p0 h; simp [sI_rd] <;> first | omega | grind
  · have a := RY_p6 h; simp [sI_rd] <;> first | omega | grind
  · have a := RY_k0 h; exact a
  · have a := RY_k12 h; exact a
  · have a := RY_p h; simp [sI_rd] <;> first | omega | grind
  · have a := RY_k h; exact a
  · have a := RY_wary h; funext j; have a := congrFun a j; simp [sI_rd] <;> grind
  · have a := RY_child h; have b0 := RY_child0 h; funext j; have a := congrFun a j; simp [sI_rd] <;> grind
  · have a := RY_takes h; have b0 := RY_takes0 h; funext j; have a := congrFun a j; simp [sI_rd] <;> grind
  · have a := RY_holder h; exact a
  · have a := RY_forged h; exact a
  · have a := RY_folds h; exact a
  · have a := RY_hour h; exact a
  · have a := RY_seen h; exact a
  · have a := RY_price h; have b0 := RY_price10 h; intro i hi; simp [sI_rd] at hi ⊢ <;> (try split) <;> grind
  · have a := RY_price10 h; intro i hi hj; simp [sI_rd] at hi ⊢ <;> (try split) <;> grind
  · have a := RY_child0 h; intro i hi; simp [sI_rd] at hi ⊢ <;> (try split) <;> grind
  · have a := RY_takes0 h; intro i hi; simp [sI_rd] at hi ⊢ <;> (try split) <;> grind
  · have a := RY_rwary h; intro i hi; simp [sI_rd] at hi ⊢ <;> (try split) <;> grind
  · have a := RY_rchild h; intro i hi; simp [sI_rd] at hi ⊢ <;> (try split) <;> grind
  · have a := RY_rprice h; intro i hi; simp [sI_rd] at hi ⊢ <;> (try split) <;> grind
  · have a := RY_rtakes h; intro i hi; simp [sI_rd] at hi ⊢ <;> (try split) <;> grind
  · intro i hi; have a := RY_rholder h i hi; exact ⟨a.1, by have := a.2; simp [sI_rd]; omega⟩
  · have a := RY_rforged h; exact a
  · have a := RY_rfolds h; exact a
  · have a := RY_h0 h; exact a
  · have a := RY_h11 h; exact a
  · have a := RY_s0 h; exact a
  · have a := RY_s9 h; exact a
/-! ===== person, ticket ===== -/
theorem ne6 {a : Int32} (h : (a.toInt ≤ 6)) (g : ¬ a = 6) : a.toInt < 6 := by
  have : a.toInt ≠ 6 := fun k => g (Int32.toInt_inj.mp k)
  omega
theorem ne12 {a : Int32} (h : (a.toInt ≤ 12)) (g : ¬ a = 12) : a.toInt < 12 := by
  have : a.toInt ≠ 12 := fun k => g (Int32.toInt_inj.mp k)
  omega
theorem add_sub1 (a : Int32) : a + 1 - 1 = a := Int32.add_sub_cancel a 1
theorem m_person {r : SS} (h0 : 0 ≤ (r.1 60 1).toInt) (h6 : (r.1 60 1).toInt ≤ 6) (w : Int32) : f_X12_person r w = some (if 0 ≤ w.toInt ∧ w.toInt ≤ 12 then (if r.1 60 1 = 6 then (-3, r) else (r.1 60 1, sI (sI (sI (sI (sI r 61 (r.1 60 1).toNatClampNeg w) 62 (r.1 60 1).toNatClampNeg 0) 63 (r.1 60 1).toNatClampNeg 10) 64 (r.1 60 1).toNatClampNeg 0) 60 1 (r.1 60 1 + 1))) else (-1, r)) := by
  unfold f_X12_person
  rw [m_in, bind_s]
  by_cases c : 0 ≤ w.toInt ∧ w.toInt ≤ 12
  · rw [if_neg (by rw [bI_0]; exact fun k => k c), if_pos c]
    by_cases g : r.1 60 1 = 6
    · rw [if_pos g, if_pos g]
    · have v : vin (r.1 60 1) 6 := ⟨h0, ne6 h6 g⟩
      rw [if_neg g, if_neg g, if_pos v]
      show (if vin (r.1 60 1) 6 then (if vin (r.1 60 1) 6 then (if vin (r.1 60 1) 6 then some ((r.1 60 1 + 1) - 1, _) else none) else none) else none) = _
      rw [if_pos v, if_pos v, if_pos v, add_sub1]
      rfl
  · rw [if_pos (by rw [bI_0]; exact c), if_neg c]
theorem x_person {q : SS} (h0 : 0 ≤ (q.1 1 1).toInt) (h6 : (q.1 1 1).toInt ≤ 6) (hk : (q.1 1 2).toInt ≤ 12) (w : Int32) : f_X11_person q w = some (if 0 ≤ w.toInt ∧ w.toInt ≤ 12 then (if q.1 1 1 = 6 then (-3, q) else (q.1 1 1, sI (sI q 1 1 (q.1 1 1 + 1)) 3 (q.1 1 1).toNatClampNeg w)) else (-1, q)) := by
  unfold f_X11_person f_X10_addPerson
  rw [x_mayBe 0 w (by decide) (by decide), bind_s]
  by_cases c : 0 ≤ w.toInt ∧ w.toInt ≤ 12
  · rw [if_neg (by rw [bI_0]; intro k; apply k; unfold okV; simp only [Int32.reduceToInt]; omega), if_pos c]
    by_cases g : q.1 1 1 = 6
    · rw [if_pos g, if_neg (by rw [g]; decide)]
      rfl
    · have hh := ne6 h6 g
      have e1 := inc1 (a := q.1 1 1) (by omega) (by omega)
      rw [if_neg g, if_pos (Int32.lt_iff_toInt_lt.mpr hh)]
      show ((f_X10_set (sI q 1 1 (q.1 1 1 + 1)) 0 ((q.1 1 1 + 1) - 1) w).bind fun r2 => some (((r2.1 1 1) - (1 : Int32)), r2)).bind _ = _
      rw [add_sub1, x_set (q := sI q 1 1 (q.1 1 1 + 1)) (by show (q.1 1 1 + 1).toInt ≤ 6; omega) hk]
      rw [if_pos (Or.inl ⟨by decide, by decide, h0, by show (q.1 1 1).toInt < (q.1 1 1 + 1).toInt; omega⟩)]
      show some ((q.1 1 1 + 1) - 1, _) = _
      rw [add_sub1]
      rfl
  · rw [if_pos (by rw [bI_0]; intro k; exact c ⟨k.1, k.2.1 (by decide)⟩), if_neg c]
theorem op_person {q : SS} (h : INV q) (w : Int32) : T (f_X11_person q w) (fun r => T (f_X12_person r.2 w) (fun s => INV s.2 ∧ r.1 = s.1)) := by
  have hY := INV_RY h
  have a0 := RY_p0 hY
  have a6 := RY_p6 hY
  have ak := RY_k12 hY
  have ep := RY_p hY
  have ek := RY_k hY
  refine T_of (x_person (by rw [ep]; exact a0) (by rw [ep]; exact a6) (by rw [ek]; exact ak) w) ?_
  by_cases c : 0 ≤ w.toInt ∧ w.toInt ≤ 12
  · rw [if_pos c]
    by_cases g : q.1 1 1 = 6
    · rw [if_pos g]
      refine T_of (m_person a0 a6 w) ?_
      rw [if_pos c, if_pos (ep.symm.trans g)]
      exact ⟨h, rfl⟩
    · rw [if_neg g, ep]
      rw [ep] at g
      have e := m_person (r := (sI (sI q 1 1 (q.1 60 1 + 1)) 3 (q.1 60 1).toNatClampNeg w)) a0 a6 w
      rw [if_pos c, if_neg (show ¬ ((sI (sI q 1 1 (q.1 60 1 + 1)) 3 (q.1 60 1).toNatClampNeg w)).1 60 1 = 6 from g)] at e
      refine T_of e ?_
      have e1 := inc1 (a := q.1 60 1) (by omega) (by have := ne6 a6 g; omega)
      refine ⟨⟨RY_person hY c (ne6 a6 g), RC_up (q := q) rfl rfl rfl rfl rfl rfl rfl rfl rfl rfl (by show _ ≤ (q.1 60 1 + 1).toInt; omega) (Int.le_refl _) rfl rfl (INV_RC h), RD_up (q := q) rfl rfl rfl rfl rfl rfl rfl rfl rfl rfl rfl (by show _ ≤ (q.1 60 1 + 1).toInt; omega) (Int.le_refl _) rfl rfl rfl (INV_RD h), RT_fr (q := q) rfl rfl rfl rfl (INV_RT h), RH_fr (q := q) rfl rfl rfl rfl rfl rfl rfl rfl (INV_RH h), RS_fr (q := q) rfl rfl rfl rfl rfl rfl rfl (fun _ _ => rfl) (INV_RS h), RW_fr (q := q) rfl rfl rfl rfl rfl rfl (INV_RW h), RJ_fr (q := q) rfl rfl (INV_RJ h)⟩, rfl⟩
  · rw [if_neg c]
    refine T_of (m_person a0 a6 w) ?_
    rw [if_neg c]
    exact ⟨h, rfl⟩
/-! ===== tickets one by one ===== -/
def xAT (q : SS) (a b k : Int32) : SS := sI (sI (sI (sI q 1 2 (q.1 1 2 + 1)) 7 (q.1 1 2).toNatClampNeg a) 8 (q.1 1 2).toNatClampNeg b) 9 (q.1 1 2).toNatClampNeg k
def mAT (q : SS) (a b k : Int32) : SS := sI (sI (sI (sI q 65 (q.1 60 6).toNatClampNeg a) 66 (q.1 60 6).toNatClampNeg b) 67 (q.1 60 6).toNatClampNeg k) 60 6 (q.1 60 6 + 1)
theorem m_addTicket {q : SS} (h0 : 0 ≤ (q.1 60 6).toInt) (h : (q.1 60 6).toInt < 12) (a b k : Int32) : f_X12_addTicket q a b k = some (q.1 60 6, mAT q a b k) := by
  have v : vin (q.1 60 6) 12 := ⟨h0, h⟩
  unfold f_X12_addTicket
  rw [if_pos v]
  show (if vin (q.1 60 6) 12 then (if vin (q.1 60 6) 12 then some ((q.1 60 6 + 1) - 1, _) else none) else none) = _
  rw [if_pos v, if_pos v, add_sub1]
  rfl
theorem x_addTicket {q : SS} (hp : (q.1 1 1).toInt ≤ 6) (h0 : 0 ≤ (q.1 1 2).toInt) (h12 : (q.1 1 2).toInt ≤ 12) (a b k : Int32) : f_X10_addTicket q a b k = some (if q.1 1 2 = 12 then (-3, q) else (q.1 1 2, xAT q a b k)) := by
  unfold f_X10_addTicket
  by_cases g : q.1 1 2 = 12
  · rw [if_pos g, if_neg (by rw [g]; decide)]
  · have hh := ne12 h12 g
    have e1 := inc1 (a := q.1 1 2) (by omega) (by omega)
    rw [if_neg g, if_pos (Int32.lt_iff_toInt_lt.mpr hh)]
    show (f_X10_set (sI q 1 2 (q.1 1 2 + 1)) 4 ((q.1 1 2 + 1) - 1) a).bind _ = _
    rw [add_sub1, x_set (q := sI q 1 2 (q.1 1 2 + 1)) hp (by show (q.1 1 2 + 1).toInt ≤ 12; omega)]
    rw [if_pos (Or.inr (Or.inl ⟨by decide, by decide, h0, by show (q.1 1 2).toInt < (q.1 1 2 + 1).toInt; omega⟩)), bind_s]
    show (f_X10_set (sI (sI q 1 2 (q.1 1 2 + 1)) 7 (q.1 1 2).toNatClampNeg a) 5 ((q.1 1 2 + 1) - 1) b).bind _ = _
    rw [add_sub1, x_set (q := sI (sI q 1 2 (q.1 1 2 + 1)) 7 (q.1 1 2).toNatClampNeg a) hp (by show (q.1 1 2 + 1).toInt ≤ 12; omega)]
    rw [if_pos (Or.inr (Or.inl ⟨by decide, by decide, h0, by show (q.1 1 2).toInt < (q.1 1 2 + 1).toInt; omega⟩)), bind_s]
    show (f_X10_set (sI (sI (sI q 1 2 (q.1 1 2 + 1)) 7 (q.1 1 2).toNatClampNeg a) 8 (q.1 1 2).toNatClampNeg b) 6 ((q.1 1 2 + 1) - 1) k).bind _ = _
    rw [add_sub1, x_set (q := sI (sI (sI q 1 2 (q.1 1 2 + 1)) 7 (q.1 1 2).toNatClampNeg a) 8 (q.1 1 2).toNatClampNeg b) hp (by show (q.1 1 2 + 1).toInt ≤ 12; omega)]
    rw [if_pos (Or.inr (Or.inl ⟨by decide, by decide, h0, by show (q.1 1 2).toInt < (q.1 1 2 + 1).toInt; omega⟩)), bind_s]
    show some ((q.1 1 2 + 1) - 1, _) = _
    rw [add_sub1]
    rfl
theorem RY_AT {q : SS} (h : RY q) {a b k : Int32} (ha : 0 ≤ a.toInt ∧ a.toInt < (q.1 60 1).toInt) (hb : 0 ≤ b.toInt ∧ b.toInt ≤ 1) (hk : 0 ≤ k.toInt ∧ k.toInt ≤ 4) (hK : (q.1 60 6).toInt < 12) : RY (mAT (xAT q a b k) a b k) := by
  have h0 := RY_k0 h
  have e1 : (q.1 60 6 + 1).toInt = (q.1 60 6).toInt + 1 := inc1 (by omega) (by omega)
  show RY (sI (sI (sI (sI (sI (sI (sI (sI q 1 2 (q.1 1 2 + 1)) 7 (q.1 1 2).toNatClampNeg a) 8 (q.1 1 2).toNatClampNeg b) 9 (q.1 1 2).toNatClampNeg k) 65 (q.1 60 6).toNatClampNeg a) 66 (q.1 60 6).toNatClampNeg b) 67 (q.1 60 6).toNatClampNeg k) 60 6 (q.1 60 6 + 1))
  rw [RY_k h]
  generalize hn : q.1 60 6 + 1 = n at *
  have ec : ((q.1 60 6).toNatClampNeg : Int) = (q.1 60 6).toInt := by
    simp only [cn_eq]
    omega
  generalize hm : (q.1 60 6).toNatClampNeg = m at *
  unfold RY
  refine ⟨?_, ?_, ?_, ?_, ?_, ?_, ?_, ?_, ?_, ?_, ?_, ?_, ?_, ?_, ?_, ?_, ?_, ?_, ?_, ?_, ?_, ?_, ?_, ?_, ?_, ?_, ?_, ?_, ?_⟩
  · have a := RY_p0 h; exact a
  · have a := RY_p6 h; exact a
  · have a := RY_k0 h; simp [sI_rd] <;> first | omega | grind
  · have a := RY_k12 h; simp [sI_rd] <;> first | omega | grind
  · have a := RY_p h; exact a
  · have a := RY_k h; simp [sI_rd] <;> first | omega | grind
  · have a := RY_wary h; exact a
  · have a := RY_child h; exact a
  · have a := RY_takes h; exact a
  · have a := RY_holder h; funext j; have a := congrFun a j; simp [sI_rd] <;> grind
  · have a := RY_forged h; funext j; have a := congrFun a j; simp [sI_rd] <;> grind
  · have a := RY_folds h; funext j; have a := congrFun a j; simp [sI_rd] <;> grind
  · have a := RY_hour h; exact a
  · have a := RY_seen h; exact a
  · have a := RY_price h; exact a
  · have a := RY_price10 h; exact a
  · have a := RY_child0 h; exact a
  · have a := RY_takes0 h; exact a
  · have a := RY_rwary h; exact a
  · have a := RY_rchild h; exact a
  · have a := RY_rprice h; exact a
  · have a := RY_rtakes h; exact a
  · have a := RY_rholder h; intro i hi; simp [sI_rd] at hi ⊢ <;> (try split) <;> grind
  · have a := RY_rforged h; intro i hi; simp [sI_rd] at hi ⊢ <;> (try split) <;> grind
  · have a := RY_rfolds h; intro i hi; simp [sI_rd] at hi ⊢ <;> (try split) <;> grind
  · have a := RY_h0 h; exact a
  · have a := RY_h11 h; exact a
  · have a := RY_s0 h; exact a
  · have a := RY_s9 h; exact a
theorem INV_AT {q : SS} (h : INV q) {a b k : Int32} (ha : 0 ≤ a.toInt ∧ a.toInt < (q.1 60 1).toInt) (hb : 0 ≤ b.toInt ∧ b.toInt ≤ 1) (hk : 0 ≤ k.toInt ∧ k.toInt ≤ 4) (hK : (q.1 60 6).toInt < 12) : INV (mAT (xAT q a b k) a b k) := by
  have h0 := RY_k0 (INV_RY h)
  have e1 : (q.1 60 6 + 1).toInt = (q.1 60 6).toInt + 1 := inc1 (by omega) (by omega)
  exact ⟨RY_AT (INV_RY h) ha hb hk hK, RC_up (q := q) rfl rfl rfl rfl rfl rfl rfl rfl rfl rfl (Int.le_refl _) (by show _ ≤ (q.1 60 6 + 1).toInt; omega) rfl rfl (INV_RC h), RD_up (q := q) rfl rfl rfl rfl rfl rfl rfl rfl rfl rfl rfl (Int.le_refl _) (by show _ ≤ (q.1 60 6 + 1).toInt; omega) rfl rfl rfl (INV_RD h), RT_fr (q := q) rfl rfl rfl rfl (INV_RT h), RH_fr (q := q) rfl rfl rfl rfl rfl rfl rfl rfl (INV_RH h), RS_fr (q := q) rfl rfl rfl rfl rfl rfl rfl (fun _ _ => rfl) (INV_RS h), RW_fr (q := q) rfl rfl rfl rfl rfl rfl (INV_RW h), RJ_fr (q := q) rfl rfl (INV_RJ h)⟩
theorem x_ticket {q : SS} (hp : (q.1 1 1).toInt ≤ 6) (h0 : 0 ≤ (q.1 1 2).toInt) (h12 : (q.1 1 2).toInt ≤ 12) (a b : Int32) : f_X11_ticket q a b = some (if (0 ≤ a.toInt ∧ a.toInt < (q.1 1 1).toInt) ∧ 0 ≤ b.toInt ∧ b.toInt ≤ 1 then (if q.1 1 2 = 12 then (-3, q) else (q.1 1 2, xAT q a b 0)) else (-1, q)) := by
  unfold f_X11_ticket
  rw [x_mayBe 4 a (by decide) (by decide), bind_s]
  by_cases c : 0 ≤ a.toInt ∧ a.toInt < (q.1 1 1).toInt
  · rw [if_neg (by rw [bI_0]; intro k; apply k; unfold okV; simp only [Int32.reduceToInt]; omega), x_mayBe 5 b (by decide) (by decide), bind_s]
    by_cases d : 0 ≤ b.toInt ∧ b.toInt ≤ 1
    · rw [if_neg (by rw [bI_0]; intro k; apply k; unfold okV; simp only [Int32.reduceToInt]; omega), if_pos ⟨c, d⟩, x_addTicket hp h0 h12, bind_s]
    · rw [if_pos (by rw [bI_0]; intro k; exact d ⟨k.1, k.2.2.2.2.2.2.1 (by decide)⟩), if_neg (fun k => d k.2)]
  · rw [if_pos (by rw [bI_0]; intro k; exact c ⟨k.1, k.2.2.2.2.2.1 (by decide)⟩), if_neg (fun k => c k.1)]
theorem m_areTicket {q : SS} (hp : 0 ≤ (q.1 60 1).toInt) (a b : Int32) : f_X12_areTicket q a b = some (bI ((0 ≤ a.toInt ∧ a.toInt < (q.1 60 1).toInt) ∧ 0 ≤ b.toInt ∧ b.toInt ≤ 1)) := by
  unfold f_X12_areTicket
  simp only [m_isOne hp, m_in, bind_s, bI_0, Int32.reduceToInt]
  unfold bI
  grind
theorem m_ticket {q : SS} (hp : 0 ≤ (q.1 60 1).toInt) (h0 : 0 ≤ (q.1 60 6).toInt) (h12 : (q.1 60 6).toInt ≤ 12) (a b : Int32) : f_X12_ticket q a b = some (if (0 ≤ a.toInt ∧ a.toInt < (q.1 60 1).toInt) ∧ 0 ≤ b.toInt ∧ b.toInt ≤ 1 then (if q.1 60 6 = 12 then (-3, q) else (q.1 60 6, mAT q a b 0)) else (-1, q)) := by
  unfold f_X12_ticket
  rw [m_areTicket hp, bind_s]
  by_cases c : (0 ≤ a.toInt ∧ a.toInt < (q.1 60 1).toInt) ∧ 0 ≤ b.toInt ∧ b.toInt ≤ 1
  · rw [if_neg (by rw [bI_0]; exact fun k => k c), if_pos c]
    by_cases g : q.1 60 6 = 12
    · rw [if_pos g, if_pos g]
    · rw [if_neg g, if_neg g, m_addTicket h0 (ne12 h12 g), bind_s]
  · rw [if_pos (by rw [bI_0]; exact c), if_neg c]
theorem op_ticket {q : SS} (h : INV q) (a b : Int32) : T (f_X11_ticket q a b) (fun r => T (f_X12_ticket r.2 a b) (fun s => INV s.2 ∧ r.1 = s.1)) := by
  have hY := INV_RY h
  have p0 := RY_p0 hY
  have p6 := RY_p6 hY
  have k0 := RY_k0 hY
  have k12 := RY_k12 hY
  have ep := RY_p hY
  have ek := RY_k hY
  refine T_of (x_ticket (by rw [ep]; exact p6) (by rw [ek]; exact k0) (by rw [ek]; exact k12) a b) ?_
  rw [ep, ek]
  by_cases c : (0 ≤ a.toInt ∧ a.toInt < (q.1 60 1).toInt) ∧ 0 ≤ b.toInt ∧ b.toInt ≤ 1
  · rw [if_pos c]
    by_cases g : q.1 60 6 = 12
    · rw [if_pos g]
      refine T_of (m_ticket p0 k0 k12 a b) ?_
      rw [if_pos c, if_pos g]
      exact ⟨h, rfl⟩
    · rw [if_neg g]
      have e := m_ticket (q := xAT q a b 0) p0 k0 k12 a b
      rw [if_pos (show (0 ≤ a.toInt ∧ a.toInt < ((xAT q a b 0).1 60 1).toInt) ∧ 0 ≤ b.toInt ∧ b.toInt ≤ 1 from c), if_neg (show ¬ (xAT q a b 0).1 60 6 = 12 from g)] at e
      exact T_of e ⟨INV_AT h c.1 c.2 ⟨by decide, by decide⟩ (ne12 k12 g), rfl⟩
  · rw [if_neg c]
    refine T_of (m_ticket p0 k0 k12 a b) ?_
    rw [if_neg c]
    exact ⟨h, rfl⟩
/-! ===== walking a function ===== -/
theorem T_ltp {ρ : Type} {a b : Int32} {x y : Option ρ} {P : ρ → Prop} (h : a.toInt < b.toInt) (k : T x P) : T (if a < b then x else y) P := by
  rw [if_pos (Int32.lt_iff_toInt_lt.mpr h)]; exact k
theorem T_ltn {ρ : Type} {a b : Int32} {x y : Option ρ} {P : ρ → Prop} (h : b.toInt ≤ a.toInt) (k : T y P) : T (if a < b then x else y) P := by
  rw [if_neg (fun g => absurd (Int32.lt_iff_toInt_lt.mp g) (by omega))]; exact k
theorem T_lep {ρ : Type} {a b : Int32} {x y : Option ρ} {P : ρ → Prop} (h : a.toInt ≤ b.toInt) (k : T x P) : T (if a ≤ b then x else y) P := by
  rw [if_pos (Int32.le_iff_toInt_le.mpr h)]; exact k
theorem T_len {ρ : Type} {a b : Int32} {x y : Option ρ} {P : ρ → Prop} (h : b.toInt < a.toInt) (k : T y P) : T (if a ≤ b then x else y) P := by
  rw [if_neg (fun g => absurd (Int32.le_iff_toInt_le.mp g) (by omega))]; exact k
theorem T_p {ρ : Type} {c : Prop} [Decidable c] {x y : Option ρ} {P : ρ → Prop} (h : c) (k : T x P) : T (if c then x else y) P := by
  rw [if_pos h]; exact k
theorem T_q {ρ : Type} {c : Prop} [Decidable c] {x y : Option ρ} {P : ρ → Prop} (h : ¬ c) (k : T y P) : T (if c then x else y) P := by
  rw [if_neg h]; exact k
theorem T_lt {ρ : Type} {a b : Int32} {x y : Option ρ} {P : ρ → Prop} (h : a.toInt < b.toInt → T x P) (k : b.toInt ≤ a.toInt → T y P) : T (if a < b then x else y) P := by
  by_cases g : a < b
  · rw [if_pos g]; exact h (Int32.lt_iff_toInt_lt.mp g)
  · rw [if_neg g]; exact k (Int32.le_iff_toInt_le.mp (Int32.not_lt.mp g))
theorem T_le {ρ : Type} {a b : Int32} {x y : Option ρ} {P : ρ → Prop} (h : a.toInt ≤ b.toInt → T x P) (k : b.toInt < a.toInt → T y P) : T (if a ≤ b then x else y) P := by
  by_cases g : a ≤ b
  · rw [if_pos g]; exact h (Int32.le_iff_toInt_le.mp g)
  · rw [if_neg g]; exact k (Int32.lt_iff_toInt_lt.mp (Int32.not_le.mp g))
theorem T_eq {ρ : Type} {a b : Int32} {x y : Option ρ} {P : ρ → Prop} (h : a = b → T x P) (k : a.toInt ≠ b.toInt → T y P) : T (if a = b then x else y) P := by
  by_cases g : a = b
  · rw [if_pos g]; exact h g
  · rw [if_neg g]; exact k (fun e => g (Int32.toInt_inj.mp e))
theorem T_vp {ρ : Type} {i : Int32} {n : Nat} {x : Option ρ} {P : ρ → Prop} (h0 : 0 ≤ i.toInt) (h : i.toInt < (n : Int)) (k : T x P) : T (if vin i n then x else none) P := by
  rw [if_pos ⟨h0, h⟩]; exact k
theorem T_nm {α ρ : Type} {e : α} {f : α → Option ρ} {P : ρ → Prop} (k : T (f e) P) : T (nm e f) P := k
theorem T_rw {α ρ : Type} {o : Option α} {r : α} {f : α → Option ρ} {P : ρ → Prop} (h : o = some r) (k : T (f r) P) : T (o.bind f) P := by
  rw [h]; exact k
theorem T_bn {ρ : Type} {c : Prop} [Decidable c] {x y : Option ρ} {P : ρ → Prop} (h : ¬ c) (k : T x P) : T (if bI c = 0 then x else y) P := by
  rw [if_pos (bI_0.mpr h)]; exact k
theorem T_bp {ρ : Type} {c : Prop} [Decidable c] {x y : Option ρ} {P : ρ → Prop} (h : c) (k : T y P) : T (if bI c = 0 then x else y) P := by
  rw [if_neg (fun g => bI_0.mp g h)]; exact k
theorem T_bi {ρ : Type} {c : Prop} [Decidable c] {x y : Option ρ} {P : ρ → Prop} (h : ¬ c → T x P) (k : c → T y P) : T (if bI c = 0 then x else y) P := by
  by_cases g : c
  · exact T_bp g (k g)
  · exact T_bn g (h g)
theorem rdn {q : SS} {o i a j : Nat} {x : Int32} (h : (a == o && j == i) = false) : (sI q o i x).1 a j = q.1 a j := by
  rw [sI_rd, if_neg]
  rintro ⟨rfl, rfl⟩
  simp at h
theorem rds {q : SS} {o i : Nat} {x : Int32} : (sI q o i x).1 o i = x := by
  rw [sI_rd, if_pos ⟨rfl, rfl⟩]
theorem rdl {q : SS} {o i a j : Nat} {x : Int64} (h : (a == o && j == i) = false) : (sL q o i x).2 a j = q.2 a j := by
  rw [sL_rd, if_neg]
  rintro ⟨rfl, rfl⟩
  simp at h
theorem rdm {q : SS} {o i : Nat} {x : Int64} : (sL q o i x).2 o i = x := by
  rw [sL_rd, if_pos ⟨rfl, rfl⟩]
/-- from i on, one for one -/
theorem i8i8 (a : Int32) : (a.toInt8.toInt32).toInt8.toInt32 = a.toInt8.toInt32 := by simp
theorem RT_feed {q : SS} (h : RT q) {a : Int32} (ha : 0 ≤ a.toInt ∧ a.toInt ≤ 255) (hl : (q.1 60 18).toInt < 120) : RT (sI (sI (sI (sI q 18 (q.1 60 18).toNatClampNeg a) 17 2 (q.1 60 18 + 1)) 73 (q.1 60 18).toNatClampNeg ((a.toInt8.toInt32).toInt8.toInt32)) 60 18 (q.1 60 18 + 1)) := by
  have h0 := RT_l0 h
  have e1 : (q.1 60 18 + 1).toInt = (q.1 60 18).toInt + 1 := inc1 (by omega) (by omega)
  rw [i8i8]
  generalize hn : q.1 60 18 + 1 = n at *
  have ec : ((q.1 60 18).toNatClampNeg : Int) = (q.1 60 18).toInt := by
    simp only [cn_eq]
    omega
  generalize hm : (q.1 60 18).toNatClampNeg = m at *
  unfold RT
  refine ⟨by simp [sI_rd], ?_, ?_, ?_, ?_⟩
  · simp [sI_rd]; omega
  · simp [sI_rd]; omega
  · have a1 := RT_byte h
    intro i hi
    have a2 := a1 i
    simp [sI_rd] at hi ⊢
    split
    · exact ha
    · exact a2 (by omega)
  · have a1 := RT_tape h
    intro i hi
    have a2 := a1 i
    simp [sI_rd] at hi ⊢
    split
    · rfl
    · exact a2 (by omega)
theorem op_feed {q : SS} (h : INV q) (a : Int32) : T (f_X11_feed q a) (fun r => T (f_X12_feed r.2 a) (fun s => INV s.2 ∧ r.1 = s.1)) := by
  have hT := INV_RT h
  have l0 := RT_l0 hT
  have l120 := RT_l120 hT
  have el := RT_len hT
  by_cases c : 0 ≤ a.toInt ∧ a.toInt ≤ 255
  · have m1 : ∀ r, f_X12_in r a 0 255 = some (bI (0 ≤ a.toInt ∧ a.toInt ≤ 255)) := fun r => m_in r a 0 255
    unfold f_X11_feed f_X5_addByte
    refine T_ltn c.1 (T_lep c.2 ?_)
    by_cases g : (q.1 60 18).toInt < 120
    · rw [el]
      have e1 : (q.1 60 18 + 1).toInt = (q.1 60 18).toInt + 1 := inc1 (by omega) (by omega)
      refine T_b (T_ltp g (T_vp l0 g (T_nm (T_nm (T_some.mpr (Eq.refl _)))))) (fun r hr => ?_)
      subst hr
      refine T_some.mpr ?_
      unfold f_X12_feed
      refine T_rw (m1 _) (T_bp c (T_q (by show ¬ q.1 60 18 = 120; intro k; rw [k] at g; exact absurd g (by decide)) (T_vp l0 g (T_nm (T_nm (T_some.mpr ⟨?_, ?_⟩))))))
      · show INV (sI (sI (sI (sI q 18 (q.1 60 18).toNatClampNeg a) 17 2 (q.1 17 2 + 1)) 73 (q.1 60 18).toNatClampNeg ((a.toInt8.toInt32).toInt8.toInt32)) 60 18 (q.1 60 18 + 1))
        rw [el]
        exact ⟨RY_fr (q := q) rfl rfl rfl rfl rfl rfl rfl rfl rfl rfl rfl rfl rfl rfl rfl rfl rfl rfl rfl rfl rfl rfl (INV_RY h), RC_fr (q := q) rfl rfl rfl rfl rfl rfl rfl rfl rfl rfl rfl rfl rfl rfl (INV_RC h), RD_fr (q := q) rfl rfl rfl rfl rfl rfl rfl rfl rfl rfl rfl rfl rfl rfl rfl rfl (INV_RD h), RT_feed hT c g, RH_fr (q := q) rfl rfl rfl rfl rfl rfl rfl rfl (INV_RH h), RS_fr (q := q) rfl rfl rfl rfl rfl rfl rfl (fun _ _ => rfl) (INV_RS h), RW_fr (q := q) rfl rfl rfl rfl rfl rfl (INV_RW h), RJ_fr (q := q) rfl rfl (INV_RJ h)⟩
      · show q.1 17 2 + 1 = q.1 60 18 + 1
        rw [el]
    · have e : q.1 60 18 = 120 := Int32.toInt_inj.mp (by have : (120 : Int32).toInt = 120 := rfl; omega)
      rw [el, e]
      refine T_b (T_q (by decide) (T_some.mpr (Eq.refl _))) (fun r hr => ?_)
      subst hr
      refine T_some.mpr ?_
      unfold f_X12_feed
      exact T_rw (m1 _) (T_bp c (T_p e (T_some.mpr ⟨h, rfl⟩)))
  · have m1 : ∀ r, f_X12_in r a 0 255 = some (bI (0 ≤ a.toInt ∧ a.toInt ≤ 255)) := fun r => m_in r a 0 255
    unfold f_X11_feed
    have key : T (f_X12_feed q a) (fun s => INV s.2 ∧ -1 = s.1) := by
      unfold f_X12_feed
      exact T_rw (m1 _) (T_bn c (T_some.mpr ⟨h, rfl⟩))
    refine T_lt (fun _ => T_some.mpr key) (fun g => T_le (fun g2 => absurd ⟨g, g2⟩ c) (fun _ => T_some.mpr key))
/-! ===== body, keep, row, put ===== -/
theorem cnI {a : Int32} (h : 0 ≤ a.toInt) : (a.toNatClampNeg : Int) = a.toInt := by
  simp only [cn_eq]
  omega
theorem cnL {a : Int32} {n : Nat} (h0 : 0 ≤ a.toInt) (h : a.toInt < (n : Int)) : a.toNatClampNeg < n := by
  simp only [cn_eq]
  omega
theorem RS_up {q q' : SS} (e27 : q'.1 27 = q.1 27) (e28 : q'.1 28 = q.1 28) (e29 : q'.1 29 = q.1 29) (e89 : q'.1 89 = q.1 89) (e90 : q'.1 90 = q.1 90) (e60_52 : (q.1 60 52).toInt ≤ (q'.1 60 52).toInt) (l91 : q'.2 91 = q.2 91) (l31 : ∀ s, s < 6 → q'.2 (31 + s) = q.2 (31 + s)) (h : RS q) : RS q' := by
  unfold RS at h ⊢
  rw [e27, e28, e29, e89, e90]
  obtain ⟨h1, h2, h3, h4⟩ := h
  refine ⟨h1, h2, fun s hs => ?_, fun s hs h0 i hi => ?_⟩
  · rcases h3 s hs with k | k | k
    · exact Or.inl k
    · exact Or.inr (Or.inl ⟨k.1, k.2.1, k.2.2.1, by have := k.2.2.2; omega⟩)
    · exact Or.inr (Or.inr k)
  · rw [l31 s hs, l91]
    exact h4 s hs h0 i hi
theorem RH_body {q : SS} (h : RH q) {k : Int32} (hk : 0 ≤ k.toInt ∧ k.toInt ≤ 7) (hb : (q.1 60 52).toInt < 50) : RH (sI (sI (sI (sI q 58 (q.1 60 52).toNatClampNeg k) 57 2 (q.1 60 52 + 1)) 87 (q.1 60 52).toNatClampNeg k) 60 52 (q.1 60 52 + 1)) := by
  have h0 := RH_b0 h
  have e1 : (q.1 60 52 + 1).toInt = (q.1 60 52).toInt + 1 := inc1 (by omega) (by omega)
  generalize hn : q.1 60 52 + 1 = n at *
  have ec := cnI h0
  generalize hm : (q.1 60 52).toNatClampNeg = m at *
  unfold RH
  refine ⟨?_, ?_, ?_, ?_, ?_, ?_, ?_, ?_⟩
  · have a := RH_bodies h; simp [sI_rd] <;> first | omega | grind
  · have a := RH_b0 h; simp [sI_rd] <;> first | omega | grind
  · have a := RH_b50 h; simp [sI_rd] <;> first | omega | grind
  · have a := RH_kind h; funext j; have a := congrFun a j; simp [sI_rd] <;> grind
  · have a := RH_rkind h; intro i hi; simp [sI_rd] at hi ⊢ <;> (try split) <;> grind
  · have a := RH_ran h; exact a
  · have a := RH_r0 h; exact a
  · have a := RH_trace h; exact a
theorem op_body {q : SS} (h : INV q) (a : Int32) : T (f_X11_body q a) (fun r => T (f_X12_body r.2 a) (fun s => INV s.2 ∧ r.1 = s.1)) := by
  have hT := INV_RH h
  have l0 := RH_b0 hT
  have l50 := RH_b50 hT
  have el := RH_bodies hT
  have m1 : ∀ r, f_X12_in r a 0 7 = some (bI (0 ≤ a.toInt ∧ a.toInt ≤ 7)) := fun r => m_in r a 0 7
  unfold f_X11_body f_X3_addBody
  refine T_rw (x_isKind q a) ?_
  by_cases c : 0 ≤ a.toInt ∧ a.toInt ≤ 7
  · refine T_bp (by omega) ?_
    rw [el]
    by_cases g : (q.1 60 52).toInt < 50
    · have e1 : (q.1 60 52 + 1).toInt = (q.1 60 52).toInt + 1 := inc1 (by omega) (by omega)
      refine T_b (T_ltp g (T_vp l0 g (T_nm (T_nm (T_some.mpr (Eq.refl _)))))) (fun r hr => ?_)
      subst hr
      refine T_some.mpr ?_
      unfold f_X12_body
      refine T_rw (m1 _) (T_bp c (T_q (by show ¬ q.1 60 52 = 50; intro k; rw [k] at g; exact absurd g (by decide)) (T_vp l0 g (T_nm (T_nm (T_some.mpr ⟨?_, ?_⟩))))))
      · show INV (sI (sI (sI (sI q 58 (q.1 60 52).toNatClampNeg a) 57 2 (q.1 57 2 + 1)) 87 (q.1 60 52).toNatClampNeg a) 60 52 (q.1 60 52 + 1))
        rw [el]
        exact ⟨RY_fr (q := q) rfl rfl rfl rfl rfl rfl rfl rfl rfl rfl rfl rfl rfl rfl rfl rfl rfl rfl rfl rfl rfl rfl (INV_RY h), RC_fr (q := q) rfl rfl rfl rfl rfl rfl rfl rfl rfl rfl rfl rfl rfl rfl (INV_RC h), RD_fr (q := q) rfl rfl rfl rfl rfl rfl rfl rfl rfl rfl rfl rfl rfl rfl rfl rfl (INV_RD h), RT_fr (q := q) rfl rfl rfl rfl (INV_RT h), RH_body hT c g, RS_up (q := q) rfl rfl rfl rfl rfl (by show _ ≤ (q.1 60 52 + 1).toInt; omega) rfl (fun _ _ => rfl) (INV_RS h), RW_fr (q := q) rfl rfl rfl rfl rfl rfl (INV_RW h), RJ_fr (q := q) rfl rfl (INV_RJ h)⟩
      · show q.1 57 2 + 1 - 1 = q.1 60 52 + 1 - 1
        rw [el]
    · have e : q.1 60 52 = 50 := Int32.toInt_inj.mp (by have : (50 : Int32).toInt = 50 := rfl; omega)
      rw [e]
      refine T_b (T_q (by decide) (T_some.mpr (Eq.refl _))) (fun r hr => ?_)
      subst hr
      refine T_some.mpr ?_
      unfold f_X12_body
      exact T_rw (m1 _) (T_bp c (T_p e (T_some.mpr ⟨h, rfl⟩)))
  · refine T_bn (by omega) (T_some.mpr ?_)
    unfold f_X12_body
    exact T_rw (m1 _) (T_bn c (T_some.mpr ⟨h, rfl⟩))
theorem RS_keep1 {q : SS} (h : RS q) {s : Nat} (hs : s < 6) : RS (sI (sI q 27 s (-2)) 89 s (-1)) := by
  obtain ⟨h1, h2, h3, h4⟩ := h
  refine ⟨h1, h2, fun t ht => ?_, fun t ht h0 i hi => ?_⟩
  · have k := h3 t ht
    simp only [sI_rd]
    by_cases e : t = s
    · subst e; exact Or.inl ⟨by simp, by simp⟩
    · simp only [e]
      simpa using k
  · simp only [sI_rd] at h0 hi
    by_cases e : t = s
    · subst e; simp at h0
    · simp only [e] at h0
      exact h4 t ht (by simpa using h0) i (by simpa using hi)
theorem RS_keep2 {q : SS} (h : RS q) {s : Nat} (hs : s < 6) {b : Int32} (hb : 0 ≤ b.toInt ∧ b.toInt < (q.1 60 52).toInt) : RS (sI (sI (sI q 27 s (-1)) 29 s b) 89 s b) := by
  obtain ⟨h1, h2, h3, h4⟩ := h
  refine ⟨h1, h2, fun t ht => ?_, fun t ht h0 i hi => ?_⟩
  · have k := h3 t ht
    simp only [sI_rd]
    by_cases e : t = s
    · subst e; exact Or.inr (Or.inl ⟨by simp, by simp, by simpa using hb.1, by simpa using hb.2⟩)
    · simp only [e]
      simpa using k
  · simp only [sI_rd] at h0 hi
    by_cases e : t = s
    · subst e; simp at h0
    · simp only [e] at h0
      exact h4 t ht (by simpa using h0) i (by simpa using hi)
theorem op_keep {q : SS} (h : INV q) (a b : Int32) : T (f_X11_keep q a b) (fun r => T (f_X12_keep r.2 a b) (fun s => INV s.2 ∧ r.1 = s.1)) := by
  have hH := INV_RH h
  have b0 := RH_b0 hH
  have el := RH_bodies hH
  unfold f_X11_keep b_X11_keep_29
  refine T_rw (x_isShelf q a) ?_
  by_cases c : 0 ≤ a.toInt ∧ a.toInt < 6
  · have hs := cnL c.1 c.2
    refine T_bp c ?_
    by_cases d : b = -1
    · subst d
      refine T_p rfl (T_p rfl ?_)
      unfold f_X7_clear
      refine T_b (T_rw (x_isShelf q a) (T_bp c (T_vp c.1 c.2 (T_nm (T_some.mpr (Eq.refl _)))))) (fun r hr => ?_)
      subst hr
      refine T_some.mpr ?_
      unfold f_X12_keep b_X12_keep_22
      refine T_rw (m_isShelf _ a) (T_bp c (T_p rfl (T_vp c.1 c.2 (T_nm (T_some.mpr ⟨?_, rfl⟩)))))
      exact ⟨RY_fr (q := q) rfl rfl rfl rfl rfl rfl rfl rfl rfl rfl rfl rfl rfl rfl rfl rfl rfl rfl rfl rfl rfl rfl (INV_RY h), RC_fr (q := q) rfl rfl rfl rfl rfl rfl rfl rfl rfl rfl rfl rfl rfl rfl (INV_RC h), RD_fr (q := q) rfl rfl rfl rfl rfl rfl rfl rfl rfl rfl rfl rfl rfl rfl rfl rfl (INV_RD h), RT_fr (q := q) rfl rfl rfl rfl (INV_RT h), RH_fr (q := q) rfl rfl rfl rfl rfl rfl rfl rfl (INV_RH h), RS_keep1 (INV_RS h) hs, RW_fr (q := q) rfl rfl rfl rfl rfl rfl (INV_RW h), RJ_fr (q := q) rfl rfl (INV_RJ h)⟩
    · refine T_q d (T_rw (x_isBody q b) ?_)
      rw [el]
      refine T_bi (fun g => T_some.mpr ?_) (fun g => T_q d ?_)
      · unfold f_X12_keep
        exact T_rw (m_isShelf _ a) (T_bp c (T_q d (T_rw (m_isBody b0 b) (T_bn g (T_some.mpr ⟨h, rfl⟩)))))
      · unfold f_X7_holdBody
        refine T_b (T_rw (x_isShelf q a) (T_bp c (T_vp c.1 c.2 (T_nm (T_vp c.1 c.2 (T_nm (T_some.mpr (Eq.refl _)))))))) (fun r hr => ?_)
        subst hr
        refine T_some.mpr ?_
        unfold f_X12_keep b_X12_keep_22
        refine T_rw (m_isShelf _ a) (T_bp c (T_q d (T_rw (m_isBody (q := sI (sI q 27 a.toNatClampNeg (-1)) 29 a.toNatClampNeg b) b0 b) (T_bp g (T_vp c.1 c.2 (T_nm (T_some.mpr ⟨?_, rfl⟩)))))))
        exact ⟨RY_fr (q := q) rfl rfl rfl rfl rfl rfl rfl rfl rfl rfl rfl rfl rfl rfl rfl rfl rfl rfl rfl rfl rfl rfl (INV_RY h), RC_fr (q := q) rfl rfl rfl rfl rfl rfl rfl rfl rfl rfl rfl rfl rfl rfl (INV_RC h), RD_fr (q := q) rfl rfl rfl rfl rfl rfl rfl rfl rfl rfl rfl rfl rfl rfl rfl rfl (INV_RD h), RT_fr (q := q) rfl rfl rfl rfl (INV_RT h), RH_fr (q := q) rfl rfl rfl rfl rfl rfl rfl rfl (INV_RH h), RS_keep2 (INV_RS h) hs g, RW_fr (q := q) rfl rfl rfl rfl rfl rfl (INV_RW h), RJ_fr (q := q) rfl rfl (INV_RJ h)⟩
  · refine T_bn c (T_some.mpr ?_)
    unfold f_X12_keep
    exact T_rw (m_isShelf _ a) (T_bn c (T_some.mpr ⟨h, rfl⟩))
/-! ===== row ===== -/
/-- longs alone are written, of one row -/
def LF (k : Nat) (q q' : SS) : Prop := q'.1 = q.1 ∧ ∀ j, j ≠ k → q'.2 j = q.2 j
theorem LF_refl {k : Nat} (q : SS) : LF k q q := ⟨rfl, fun _ _ => rfl⟩
theorem LF_sL {k i : Nat} {q q' : SS} {x : Int64} (h : LF k q q') : LF k q (sL q' k i x) := ⟨h.1, fun j hj => (sL_ro hj).trans (h.2 j hj)⟩
theorem x_zero {q : SS} {a n : Int32} (ha : 0 ≤ a.toInt ∧ a.toInt < 6) (hn : 0 ≤ n.toInt ∧ n.toInt ≤ 60) : T (b_X7_holdRow_42 q a n 0) (fun r => LF (31 + a.toNatClampNeg) q r ∧ ∀ i : Nat, (i : Int) < n.toInt → r.2 (31 + a.toNatClampNeg) i = 0) := by
  unfold b_X7_holdRow_42
  refine T_fx4 (fun q' l1 l3 l4 => l1 = a ∧ l3 = n ∧ 0 ≤ l4.toInt ∧ l4.toInt ≤ n.toInt ∧ LF (31 + a.toNatClampNeg) q q' ∧ ∀ i : Nat, (i : Int) < l4.toInt → q'.2 (31 + a.toNatClampNeg) i = 0) (fun _ _ _ l4 => (60 - l4.toInt).toNat) ?_ _ _ _ _ _ ⟨rfl, rfl, by decide, hn.1, LF_refl q, fun i hi => absurd hi (by simp only [Int32.reduceToInt]; omega)⟩ (by unfold FU; decide)
  rintro rec q' l1 l3 l4 ⟨rfl, rfl, h0, h1, h2, h3⟩ hr
  refine T_le (fun g => T_some.mpr ⟨h2, fun i hi => h3 i (by omega)⟩) (fun g => T_vp ha.1 ha.2 (T_vp h0 (by omega) (T_nm ?_)))
  have e1 := inc1 (a := l4) (by omega) (by omega)
  have ec := cnI h0
  refine hr _ _ _ _ ⟨rfl, rfl, by omega, by omega, LF_sL h2, fun i hi => ?_⟩ (by omega)
  rw [sL_rd]
  by_cases e : i = l4.toNatClampNeg
  · rw [if_pos ⟨rfl, e⟩]
  · rw [if_neg (fun k => e k.2)]
    exact h3 i (by omega)
theorem m_zero {q : SS} {a : Int32} (ha : 0 ≤ a.toInt ∧ a.toInt < 6) : T (b_X12_row_54 q a (60 * a)) (fun r => r.1 = 1 ∧ LF 91 q r.2 ∧ (∀ i : Nat, 60 * a.toNatClampNeg ≤ i → i < 60 * a.toNatClampNeg + 60 → r.2.2 91 i = 0) ∧ ∀ i : Nat, (i < 60 * a.toNatClampNeg ∨ 60 * a.toNatClampNeg + 60 ≤ i) → r.2.2 91 i = q.2 91 i) := by
  have e60 : (60 : Int32).toInt = 60 := rfl
  have e0 : ((60 : Int32) * a).toInt = 60 * a.toInt := by rw [tmul (by rw [e60]; omega) (by rw [e60]; omega), e60]
  have e2 : ((60 : Int32) * a + 60).toInt = 60 * a.toInt + 60 := by rw [tadd (by omega) (by omega), e0, e60]
  have ea := cnI ha.1
  unfold b_X12_row_54
  refine T_fx3 (fun q' l1 l4 => l1 = a ∧ 60 * a.toInt ≤ l4.toInt ∧ l4.toInt ≤ 60 * a.toInt + 60 ∧ LF 91 q q' ∧ (∀ i : Nat, 60 * a.toNatClampNeg ≤ i → (i : Int) < l4.toInt → q'.2 91 i = 0) ∧ ∀ i : Nat, (i < 60 * a.toNatClampNeg ∨ 60 * a.toNatClampNeg + 60 ≤ i) → q'.2 91 i = q.2 91 i) (fun _ _ l4 => (60 * a.toInt + 60 - l4.toInt).toNat) ?_ _ _ _ _ ⟨rfl, by omega, by omega, LF_refl q, fun i h1 h2 => absurd h2 (by omega), fun _ _ => rfl⟩ (by unfold FU; omega)
  rintro rec q' l1 l4 ⟨rfl, h0, h1, h2, h3, h4⟩ hr
  refine T_le (fun g => T_some.mpr ⟨rfl, h2, fun i k1 k2 => h3 i k1 (by omega), h4⟩) (fun g => T_vp (by omega) (by show l4.toInt < 360; omega) (T_nm ?_))
  have e1 := inc1 (a := l4) (by omega) (by omega)
  have ec := cnI (a := l4) (by omega)
  refine hr _ _ _ ⟨rfl, by omega, by omega, LF_sL h2, fun i k1 k2 => ?_, fun i k => ?_⟩ (by omega)
  · rw [sL_rd]
    by_cases e : i = l4.toNatClampNeg
    · rw [if_pos ⟨rfl, e⟩]
    · rw [if_neg (fun k => e k.2)]
      exact h3 i k1 (by omega)
  · rw [sL_rd, if_neg (fun e => by have := e.2; omega)]
    exact h4 i k
theorem RS_row {q X Y : SS} (h : RS q) {s : Nat} (hs : s < 6) {k n : Int32} (hk : 0 ≤ k.toInt ∧ k.toInt ≤ 4) (hn : 0 ≤ n.toInt ∧ n.toInt ≤ 60)
    (hX : LF (31 + s) (sI (sI q 27 s k) 28 s n) X) (hX0 : ∀ i : Nat, (i : Int) < n.toInt → X.2 (31 + s) i = 0)
    (hY : LF 91 (sI (sI X 89 s (-2 - k)) 90 s n) Y) (hY0 : ∀ i : Nat, 60 * s ≤ i → i < 60 * s + 60 → Y.2 91 i = 0) (hY1 : ∀ i : Nat, (i < 60 * s ∨ 60 * s + 60 ≤ i) → Y.2 91 i = X.2 91 i) : RS Y := by
  have ez : (-2 - k).toInt = -2 - k.toInt := by rw [tsub (by rw [lm2]; omega) (by rw [lm2]; omega), lm2]
  have r27 : Y.1 27 = (sI q 27 s k).1 27 := by rw [hY.1]; show X.1 27 = _; rw [hX.1]; rfl
  have r28 : Y.1 28 = (sI q 28 s n).1 28 := by rw [hY.1]; show X.1 28 = _; rw [hX.1]; rfl
  have r29 : Y.1 29 = q.1 29 := by rw [hY.1]; show X.1 29 = _; rw [hX.1]; rfl
  have x89 : X.1 89 = q.1 89 := by rw [hX.1]; rfl
  have x90 : X.1 90 = q.1 90 := by rw [hX.1]; rfl
  have x91 : X.2 91 = q.2 91 := hX.2 91 (by omega)
  have r89 : ∀ j, Y.1 89 j = if j = s then -2 - k else q.1 89 j := fun j => by
    rw [hY.1, ← x89]; show (if 89 = 90 ∧ j = s then n else if 89 = 89 ∧ j = s then -2 - k else X.1 89 j) = _; simp
  have r90 : ∀ j, Y.1 90 j = if j = s then n else q.1 90 j := fun j => by
    rw [hY.1, ← x90]; show (if 90 = 90 ∧ j = s then n else if 90 = 89 ∧ j = s then -2 - k else X.1 90 j) = _; simp
  have r52 : Y.1 60 52 = q.1 60 52 := by rw [hY.1]; show X.1 60 52 = _; rw [hX.1]; rfl
  obtain ⟨h1, h2, h3, h4⟩ := h
  unfold RS
  refine ⟨?_, fun t ht => ?_, fun t ht => ?_, fun t ht h0 i hi => ?_⟩
  · funext j
    rw [r28, r90 j, sI_rd, congrFun h1 j]
    simp
  · rw [r90]
    by_cases e : t = s
    · rw [if_pos e]; exact hn
    · rw [if_neg e]; exact h2 t ht
  · have k3 := h3 t ht
    rw [r27, r29, r89, r52, sI_rd]
    by_cases e : t = s
    · rw [if_pos ⟨rfl, e⟩, if_pos e]
      exact Or.inr (Or.inr ⟨hk.1, hk.2, ez⟩)
    · rw [if_neg (fun g => e g.2), if_neg e]
      exact k3
  · rw [r27, sI_rd] at h0
    rw [r90] at hi
    have l31 : Y.2 (31 + t) = X.2 (31 + t) := (hY.2 _ (by omega))
    rw [l31]
    by_cases e : t = s
    · subst e
      rw [if_pos rfl] at hi
      rw [hX0 i hi, hY0 _ (by omega) (by omega)]
    · rw [if_neg (fun g => e g.2)] at h0
      rw [if_neg e] at hi
      have := h2 t ht
      rw [hX.2 _ (by omega), hY1 _ (by omega), x91]
      exact h4 t ht h0 i hi
theorem op_row {q : SS} (h : INV q) (a b n : Int32) : T (f_X11_row q a b n) (fun r => T (f_X12_row r.2 a b n) (fun s => INV s.2 ∧ r.1 = s.1)) := by
  have m1 : ∀ r, f_X12_in r b 0 4 = some (bI (0 ≤ b.toInt ∧ b.toInt ≤ 4)) := fun r => m_in r b 0 4
  unfold f_X11_row
  refine T_rw (x_isShelf q a) ?_
  by_cases c : 0 ≤ a.toInt ∧ a.toInt < 6
  · have hs := cnL c.1 c.2
    refine T_bp c (T_rw (x_isSort q b) ?_)
    by_cases d : 0 ≤ b.toInt ∧ b.toInt ≤ 4
    · refine T_bp d (T_le (fun g => T_le (fun g0 => ?_) (fun g0 => T_some.mpr ?_)) (fun g => T_some.mpr ?_))
      · have hn : 0 ≤ n.toInt ∧ n.toInt ≤ 60 := ⟨g0, g⟩
        unfold f_X7_holdRow
        refine T_b (T_rw (x_isShelf q a) (T_bp c (T_rw (x_isSort q b) (T_bp d (T_ltn g0 (T_ltn g (T_vp c.1 c.2 (T_nm (T_vp c.1 c.2 (T_nm (x_zero c hn))))))))))) (fun X hX => ?_)
        refine T_some.mpr ?_
        unfold f_X12_row
        refine T_rw (m_isShelf _ a) (T_bp c (T_rw (m1 _) (T_bp d (T_lep g (T_lep g0 (T_vp c.1 c.2 (T_nm (T_vp c.1 c.2 (T_nm (T_nm (T_mono (m_zero c) ?_)))))))))))
        rintro ⟨v, Y⟩ ⟨hv, hY, hY0, hY1⟩
        refine ⟨?_, hv.symm⟩
        have i1 : Y.1 = (sI (sI X 89 a.toNatClampNeg (-2 - b)) 90 a.toNatClampNeg n).1 := hY.1
        have i2 : ∀ k, k ≠ 27 → k ≠ 28 → k ≠ 89 → k ≠ 90 → Y.1 k = q.1 k := fun k k1 k2 k3 k4 => by
          rw [i1, sI_ro k4, sI_ro k3, hX.1.1, sI_ro k2, sI_ro k1]
        have f := fun (k : Nat) (e : (k == 27 || k == 28 || k == 89 || k == 90) = false) => i2 k (by rintro rfl; cases e) (by rintro rfl; cases e) (by rintro rfl; cases e) (by rintro rfl; cases e)
        exact ⟨RY_fr (q := q) (f 3 rfl) (f 4 rfl) (f 5 rfl) (f 6 rfl) (f 7 rfl) (f 8 rfl) (f 9 rfl) (f 61 rfl) (f 62 rfl) (f 63 rfl) (f 64 rfl) (f 65 rfl) (f 66 rfl) (f 67 rfl) (congrFun (f 1 rfl) 1) (congrFun (f 1 rfl) 2) (congrFun (f 10 rfl) 0) (congrFun (f 11 rfl) 0) (congrFun (f 60 rfl) 1) (congrFun (f 60 rfl) 6) (congrFun (f 68 rfl) 0) (congrFun (f 68 rfl) 1) (INV_RY h), RC_fr (q := q) (f 53 rfl) (f 54 rfl) (f 55 rfl) (f 56 rfl) (f 69 rfl) (f 70 rfl) (f 71 rfl) (f 72 rfl) (congrFun (f 52 rfl) 5) (congrFun (f 52 rfl) 6) (congrFun (f 60 rfl) 1) (congrFun (f 60 rfl) 6) (congrFun (f 60 rfl) 11) (congrFun (f 60 rfl) 12) (INV_RC h), RD_fr (q := q) (f 48 rfl) (f 49 rfl) (f 50 rfl) (f 51 rfl) (f 83 rfl) (f 84 rfl) (f 85 rfl) (f 86 rfl) (congrFun (f 47 rfl) 5) (congrFun (f 47 rfl) 6) (congrFun (f 47 rfl) 7) (congrFun (f 60 rfl) 1) (congrFun (f 60 rfl) 6) (congrFun (f 60 rfl) 46) (congrFun (f 60 rfl) 47) (congrFun (f 60 rfl) 48) (INV_RD h), RT_fr (q := q) (f 18 rfl) (f 73 rfl) (congrFun (f 17 rfl) 2) (congrFun (f 60 rfl) 18) (INV_RT h), RH_fr (q := q) (f 58 rfl) (f 59 rfl) (f 87 rfl) (f 88 rfl) (congrFun (f 57 rfl) 2) (congrFun (f 57 rfl) 3) (congrFun (f 60 rfl) 52) (congrFun (f 60 rfl) 54) (INV_RH h), RS_row (INV_RS h) hs d hn hX.1 hX.2 hY hY0 hY1, RW_fr (q := q) (f 74 rfl) (f 75 rfl) (f 77 rfl) (f 78 rfl) (congrFun (f 60 rfl) 30) (congrFun (f 76 rfl) 0) (INV_RW h), RJ_fr (q := q) (f 81 rfl) (congrFun (f 37 rfl) 3) (INV_RJ h)⟩
      · unfold f_X12_row
        exact T_rw (m_isShelf _ a) (T_bp c (T_rw (m1 _) (T_bp d (T_lep g (T_len g0 (T_some.mpr ⟨h, rfl⟩))))))
      · unfold f_X12_row
        exact T_rw (m_isShelf _ a) (T_bp c (T_rw (m1 _) (T_bp d (T_len g (T_some.mpr ⟨h, rfl⟩)))))
    · refine T_bn d (T_some.mpr ?_)
      unfold f_X12_row
      exact T_rw (m_isShelf _ a) (T_bp c (T_rw (m1 _) (T_bn d (T_some.mpr ⟨h, rfl⟩))))
  · refine T_bn c (T_some.mpr ?_)
    unfold f_X12_row
    exact T_rw (m_isShelf _ a) (T_bn c (T_some.mpr ⟨h, rfl⟩))
/-! ===== elements ===== -/
theorem m_why {q : SS} {a : Int32} (c : 0 ≤ a.toInt ∧ a.toInt < 6) (h90 : 0 ≤ (q.1 90 a.toNatClampNeg).toInt) (i : Int32) : f_X12_whyNoPlace q a i = some (if q.1 89 a.toNatClampNeg = -1 then -11 else if (q.1 89 a.toNatClampNeg).toInt < 0 then (if 0 ≤ i.toInt ∧ i.toInt < (q.1 90 a.toNatClampNeg).toInt then 0 else -13) else -12) := by
  unfold f_X12_whyNoPlace
  simp only [m_isShelf, bind_s, bI_0, m_in, dec1 h90, Int32.reduceToInt, Int32.lt_iff_toInt_lt, vin]
  grind
/-- what is told of an element's place, on both sides -/
theorem whyX {q : SS} (h : RS q) {a : Int32} (c : 0 ≤ a.toInt ∧ a.toInt < 6) (i : Int32) : f_X7_refusalOfElement q a i = f_X12_whyNoPlace q a i := by
  have hs := cnL c.1 c.2
  have hz := RS_size0 h _ hs
  have hk := RS_shelf h _ hs
  have e90 : q.1 28 a.toNatClampNeg = q.1 90 a.toNatClampNeg := congrFun (RS_size h) _
  rw [m_why c hz.1]
  unfold f_X7_refusalOfElement
  rw [x_refRow, bind_s, if_pos c]
  rcases hk with ⟨k1, k2⟩ | ⟨k1, k2, k3, k4⟩ | ⟨k1, k2, k3⟩
  · rw [if_pos k1, if_pos k2]
    rfl
  · have n2 : ¬ q.1 27 a.toNatClampNeg = -2 := by rw [k1]; decide
    have n3 : ¬ (0 ≤ (q.1 27 a.toNatClampNeg).toInt ∧ (q.1 27 a.toNatClampNeg).toInt ≤ 4) := by rw [k1]; decide
    have n4 : ¬ q.1 89 a.toNatClampNeg = -1 := by rintro k; rw [k] at k3; exact absurd k3 (by decide)
    rw [if_neg n2, if_neg n3, if_neg n4, if_neg (show ¬ (q.1 89 a.toNatClampNeg).toInt < 0 by omega)]
    rfl
  · have k4 : ¬ q.1 27 a.toNatClampNeg = -2 := by rintro k; rw [k] at k1; exact absurd k1 (by decide)
    have k5 : ¬ q.1 89 a.toNatClampNeg = -1 := by rintro k; rw [k] at k3; have := lm1; omega
    have eR : (if q.1 27 a.toNatClampNeg = -2 then (-11 : Int32) else if 0 ≤ (q.1 27 a.toNatClampNeg).toInt ∧ (q.1 27 a.toNatClampNeg).toInt ≤ 4 then 0 else -12) = 0 := by rw [if_neg k4, if_pos ⟨k1, k2⟩]
    rw [eR, if_pos rfl, if_neg k5, if_pos (show (q.1 89 a.toNatClampNeg).toInt < 0 by omega), x_hasPlaces, bind_s]
    have e : szX q a = (q.1 90 a.toNatClampNeg).toInt := by
      unfold szX
      rw [if_pos ⟨c.1, c.2, k1, k2⟩, e90]
    rw [e]
    have l1 : (1 : Int32).toInt = 1 := rfl
    by_cases g : 0 ≤ i.toInt ∧ i.toInt < (q.1 90 a.toNatClampNeg).toInt
    · rw [if_pos g, if_neg]
      rw [bI_0]
      intro k
      exact k ⟨g.1, by omega, by omega⟩
    · rw [if_neg g, if_pos]
      rw [bI_0]
      omega
theorem whyN (q : SS) {a : Int32} (c : ¬ (0 ≤ a.toInt ∧ a.toInt < 6)) (i : Int32) : f_X7_refusalOfElement q a i = some (-1) ∧ f_X12_whyNoPlace q a i = some (-1) := by
  constructor
  · unfold f_X7_refusalOfElement
    rw [x_refRow, bind_s, if_neg c]
    rfl
  · unfold f_X12_whyNoPlace
    rw [m_isShelf, bind_s, if_pos (bI_0.mpr c)]
/-- the place is there: what holds -/
theorem why0 {q : SS} (h : RS q) {a i : Int32} (c : 0 ≤ a.toInt ∧ a.toInt < 6) (g : f_X12_whyNoPlace q a i = some 0) : (0 ≤ (q.1 27 a.toNatClampNeg).toInt ∧ (q.1 27 a.toNatClampNeg).toInt ≤ 4 ∧ (q.1 89 a.toNatClampNeg).toInt = -2 - (q.1 27 a.toNatClampNeg).toInt) ∧ 0 ≤ i.toInt ∧ i.toInt < (q.1 90 a.toNatClampNeg).toInt := by
  have hs := cnL c.1 c.2
  have hz := RS_size0 h _ hs
  have hk := RS_shelf h _ hs
  rw [m_why c hz.1] at g
  have g := Option.some.inj g
  rcases hk with ⟨k1, k2⟩ | ⟨k1, k2, k3, k4⟩ | ⟨k1, k2, k3⟩
  · rw [if_pos k2] at g
    exact absurd g (by decide)
  · rw [if_neg (by rintro k; rw [k] at k3; exact absurd k3 (by decide)), if_neg (by omega)] at g
    exact absurd g (by decide)
  · refine ⟨⟨k1, k2, k3⟩, ?_⟩
    have k5 : ¬ q.1 89 a.toNatClampNeg = -1 := by rintro k; rw [k] at k3; have := lm1; omega
    rw [if_neg k5, if_pos (by omega)] at g
    by_cases e : 0 ≤ i.toInt ∧ i.toInt < (q.1 90 a.toNatClampNeg).toInt
    · exact e
    · rw [if_neg e] at g
      exact absurd g (by decide)
theorem why_neg {q : SS} (h : RS q) {a i : Int32} (c : 0 ≤ a.toInt ∧ a.toInt < 6) : ∃ v : Int32, f_X12_whyNoPlace q a i = some v ∧ (v = 0 ∨ v.toInt < 0) := by
  have hs := cnL c.1 c.2
  have hz := RS_size0 h _ hs
  rw [m_why c hz.1]
  refine ⟨_, rfl, ?_⟩
  split
  · exact Or.inr (by decide)
  · split
    · split
      · exact Or.inl rfl
      · exact Or.inr (by decide)
    · exact Or.inr (by decide)
def lb (k : Int32) (v : Int64) : Int64 := if k = 0 then ((v.toInt32).toInt8.toInt32).toInt64 else if k = 1 then ((v.toInt32).toInt16.toInt32).toInt64 else if k = 2 then (v.toInt32).toInt64 else if k = 3 then v else if v = 0 then 0 else 1
theorem k04 {w : Int32} (h0 : 0 ≤ w.toInt) (h8 : w.toInt ≤ 4) : w = 0 ∨ w = 1 ∨ w = 2 ∨ w = 3 ∨ w = 4 := by
  simp only [← Int32.toInt_inj, Int32.reduceToInt]
  omega
theorem x_low (q : SS) {k : Int32} (h0 : 0 ≤ k.toInt) (h4 : k.toInt ≤ 4) (v : Int64) : f_X7_lowestBits q k v = some (lb k v) := by
  unfold f_X7_lowestBits lb
  rcases k04 h0 h4 with rfl | rfl | rfl | rfl | rfl
  · rfl
  · rfl
  · rfl
  · rfl
  · show (if lg_cmp v 0 = 0 then some (0 : Int64) else some 1) = some (if v = 0 then 0 else 1)
    by_cases e : v = 0
    · rw [if_pos (lgc_z.mpr e), if_pos e]
    · rw [if_neg (fun g => e (lgc_z.mp g)), if_neg e]
theorem RS_put {q : SS} (h : RS q) {s i : Nat} (hs : s < 6) (hi : i < 60) (x : Int64) : RS (sL (sL q (31 + s) i x) 91 (60 * s + i) x) := by
  obtain ⟨h1, h2, h3, h4⟩ := h
  refine ⟨h1, h2, h3, fun t ht h0 j hj => ?_⟩
  have k := h4 t ht h0 j hj
  have hz := h2 t ht
  have hj' : (j : Int) < (q.1 90 t).toInt := hj
  rw [sL_rd, if_neg (by omega), sL_rd, sL_rd]
  by_cases e : t = s ∧ j = i
  · rw [if_pos (by omega), if_pos (by omega)]
  · rw [if_neg (by omega), if_neg (by omega), sL_rd, if_neg (by omega)]
    exact k
theorem op_put {q : SS} (h : INV q) (a i : Int32) (v : Int64) : T (f_X11_put q a i v) (fun r => T (f_X12_put r.2 a i v) (fun s => INV s.2 ∧ r.1 = s.1)) := by
  have hS := INV_RS h
  unfold f_X11_put
  by_cases c : 0 ≤ a.toInt ∧ a.toInt < 6
  · have hs := cnL c.1 c.2
    have hz := RS_size0 hS _ hs
    obtain ⟨w, hw, hw2⟩ := why_neg hS c (i := i)
    refine T_rw ((whyX hS c i).trans hw) ?_
    rcases hw2 with rfl | hw2
    · obtain ⟨⟨k1, k2, k3⟩, i0, i1⟩ := why0 hS c hw
      have hi := cnL (n := 60) i0 (by omega)
      have e90 : q.1 28 a.toNatClampNeg = q.1 90 a.toNatClampNeg := congrFun (RS_size hS) _
      have e : szX q a = (q.1 90 a.toNatClampNeg).toInt := by
        unfold szX
        rw [if_pos ⟨c.1, c.2, k1, k2⟩, e90]
      refine T_p rfl ?_
      unfold f_X7_set
      have l1 : (1 : Int32).toInt = 1 := rfl
      refine T_b (T_rw (x_isRow q a) (T_bp ⟨c.1, c.2, k1, k2⟩ (T_rw (x_hasPlaces q a i 1) (T_bp ⟨i0, by omega, by rw [e]; omega⟩ (T_vp c.1 c.2 (T_vp c.1 c.2 (T_rw (x_low q k1 k2 v) (T_vp i0 (by show i.toInt < 60; omega) (T_nm (T_some.mpr (Eq.refl _))))))))))) (fun r hr => ?_)
      subst hr
      refine T_some.mpr ?_
      unfold f_X12_put
      have hw' : f_X12_whyNoPlace (sL q (31 + a.toNatClampNeg) i.toNatClampNeg (lb (q.1 27 a.toNatClampNeg) v)) a i = some 0 := hw
      have ev : -2 - q.1 89 a.toNatClampNeg = q.1 27 a.toNatClampNeg := Int32.toInt_inj.mp (by rw [tsub (by rw [lm2]; omega) (by rw [lm2]; omega), lm2]; omega)
      have em := mul60 c (b := i) (by omega)
      have ec : ((60 : Int32) * a + i).toNatClampNeg = 60 * a.toNatClampNeg + i.toNatClampNeg := by
        simp only [cn_eq, em]
        omega
      refine T_rw hw' (T_p (by decide) (T_vp c.1 c.2 (T_nm ?_)))
      have ev2 : -2 - (sL q (31 + a.toNatClampNeg) i.toNatClampNeg (lb (q.1 27 a.toNatClampNeg) v)).1 89 a.toNatClampNeg = q.1 27 a.toNatClampNeg := ev
      rw [ev2]
      have fin : ∀ x, x = lb (q.1 27 a.toNatClampNeg) v → T (b_X12_put_95 (sL q (31 + a.toNatClampNeg) i.toNatClampNeg (lb (q.1 27 a.toNatClampNeg) v)) x ((60 : Int32) * a + i)) (fun s => INV s.2 ∧ (1 : Int32) = s.1) := by
        rintro x rfl
        unfold b_X12_put_95
        refine T_vp (by omega) (by show ((60 : Int32) * a + i).toInt < 360; omega) (T_nm (T_some.mpr ⟨?_, rfl⟩))
        rw [ec]
        exact ⟨RY_fr (q := q) rfl rfl rfl rfl rfl rfl rfl rfl rfl rfl rfl rfl rfl rfl rfl rfl rfl rfl rfl rfl rfl rfl (INV_RY h), RC_fr (q := q) rfl rfl rfl rfl rfl rfl rfl rfl rfl rfl rfl rfl rfl rfl (INV_RC h), RD_fr (q := q) rfl rfl rfl rfl rfl rfl rfl rfl rfl rfl rfl rfl rfl rfl rfl rfl (INV_RD h), RT_fr (q := q) rfl rfl rfl rfl (INV_RT h), RH_fr (q := q) rfl rfl rfl rfl rfl rfl rfl rfl (INV_RH h), RS_put hS hs hi _, RW_fr (q := q) rfl rfl rfl rfl rfl rfl (INV_RW h), RJ_fr (q := q) rfl rfl (INV_RJ h)⟩
      rcases k04 k1 k2 with e | e | e | e | e
      · exact T_p e (fin _ (by rw [e]; rfl))
      · exact T_q (by rw [e]; decide) (T_p e (fin _ (by rw [e]; rfl)))
      · exact T_q (by rw [e]; decide) (T_q (by rw [e]; decide) (T_p e (fin _ (by rw [e]; rfl))))
      · exact T_q (by rw [e]; decide) (T_q (by rw [e]; decide) (T_q (by rw [e]; decide) (T_p e (fin _ (by rw [e]; rfl)))))
      · refine T_q (by rw [e]; decide) (T_q (by rw [e]; decide) (T_q (by rw [e]; decide) (T_q (by rw [e]; decide) ?_)))
        by_cases g : v = 0
        · exact T_p (lgc_z.mpr g) (fin _ (by rw [e, g]; rfl))
        · refine T_q (fun k => g (lgc_z.mp k)) (fin _ ?_)
          rw [e]
          show (1 : Int64) = if v = 0 then 0 else 1
          rw [if_neg g]
    · refine T_q (by rintro rfl; exact absurd hw2 (by decide)) (T_some.mpr ?_)
      unfold f_X12_put
      exact T_rw hw (T_len (by show w.toInt < 0; exact hw2) (T_some.mpr ⟨h, rfl⟩))
  · refine T_rw (whyN q c i).1 (T_q (by decide) (T_some.mpr ?_))
    unfold f_X12_put
    exact T_rw (whyN q c i).2 (T_q (by decide) (T_some.mpr ⟨h, rfl⟩))
theorem op_element {q : SS} (h : INV q) (a i : Int32) : T (f_X11_element q a i) (fun r => T (f_X12_element q a i) (fun s => r = s)) := by
  have hS := INV_RS h
  unfold f_X11_element
  by_cases c : 0 ≤ a.toInt ∧ a.toInt < 6
  · have hs := cnL c.1 c.2
    have hz := RS_size0 hS _ hs
    obtain ⟨w, hw, hw2⟩ := why_neg hS c (i := i)
    refine T_rw ((whyX hS c i).trans hw) ?_
    rcases hw2 with rfl | hw2
    · obtain ⟨⟨k1, k2, k3⟩, i0, i1⟩ := why0 hS c hw
      have e90 : q.1 28 a.toNatClampNeg = q.1 90 a.toNatClampNeg := congrFun (RS_size hS) _
      have e : szX q a = (q.1 90 a.toNatClampNeg).toInt := by
        unfold szX
        rw [if_pos ⟨c.1, c.2, k1, k2⟩, e90]
      have em := mul60 c (b := i) (by omega)
      have ec : ((60 : Int32) * a + i).toNatClampNeg = 60 * a.toNatClampNeg + i.toNatClampNeg := by
        simp only [cn_eq, em]
        omega
      refine T_p rfl (T_rw (x_get7 q a i (by rw [e]; exact hz.2)) (T_some.mpr ?_))
      rw [if_pos ⟨i0, by rw [e]; exact i1⟩]
      unfold f_X12_element
      refine T_rw hw (T_p (by decide) (T_vp (by omega) (by show ((60 : Int32) * a + i).toInt < 360; omega) (T_some.mpr ?_)))
      rw [ec]
      exact RS_el hS _ hs k1 _ (by have := cnI i0; omega)
    · refine T_q (by rintro rfl; exact absurd hw2 (by decide)) (T_some.mpr ?_)
      unfold f_X12_element
      exact T_rw hw (T_len (by show w.toInt < 0; exact hw2) (T_some.mpr rfl))
  · refine T_rw (whyN q c i).1 (T_q (by decide) (T_some.mpr ?_))
    unfold f_X12_element
    exact T_rw (whyN q c i).2 (T_q (by decide) (T_some.mpr rfl))
/-! ===== shift; what a shelf holds; counts ===== -/
theorem x_refPair (q : SS) (a b : Int32) : f_X7_refusalOfPair q a b = some (if (0 ≤ a.toInt ∧ a.toInt < 6) ∧ 0 ≤ b.toInt ∧ b.toInt < 6 then (if q.1 27 a.toNatClampNeg = -2 ∨ q.1 27 b.toNatClampNeg = -2 then -11 else if (0 ≤ (q.1 27 a.toNatClampNeg).toInt ∧ (q.1 27 a.toNatClampNeg).toInt ≤ 4) ∧ q.1 27 a.toNatClampNeg = q.1 27 b.toNatClampNeg then 0 else -12) else -1) := by
  unfold f_X7_refusalOfPair
  simp only [x_isShelf, x_isEmpty, x_isRow, bind_s, bI_0, vin]
  grind
theorem m_cp1 {q : SS} {s o i j n : Int32} (hs : 0 ≤ s.toInt ∧ s.toInt < 6) (ho : 0 ≤ o.toInt ∧ o.toInt < 6) (hi : 0 ≤ i.toInt) (hj : 0 ≤ j.toInt) (hn : 0 ≤ n.toInt) (h1 : i.toInt + n.toInt ≤ 60) (h2 : j.toInt + n.toInt ≤ 60) {P : Int32 × SS → Prop}
    (k : ∀ r : SS, r.1 = q.1 → (∀ z, z ≠ 91 → z ≠ 92 → r.2 z = q.2 z) → (∀ z : Nat, r.2 91 z = if 60 * o.toNatClampNeg + j.toNatClampNeg ≤ z ∧ z < 60 * o.toNatClampNeg + j.toNatClampNeg + n.toNatClampNeg then q.2 91 (60 * s.toNatClampNeg + i.toNatClampNeg + (z - (60 * o.toNatClampNeg + j.toNatClampNeg))) else q.2 91 z) → P (n, r)) : T (b_X12_shift_113 q s i o j n 0) P := by
  have e60 : (60 : Int32).toInt = 60 := rfl
  have es : ((60 : Int32) * s + i).toInt = 60 * s.toInt + i.toInt := mul60 hs (by omega)
  have eo : ((60 : Int32) * o + j).toInt = 60 * o.toInt + j.toInt := mul60 ho (by omega)
  have cs := cnI hs.1
  have co := cnI ho.1
  have ci := cnI hi
  have cj := cnI hj
  have cn := cnI hn
  unfold b_X12_shift_113
  refine T_fx7 (fun q' l1 l2 l3 l4 l5 l6 => l1 = s ∧ l2 = i ∧ l3 = o ∧ l4 = j ∧ l5 = n ∧ 0 ≤ l6.toInt ∧ l6.toInt ≤ n.toInt ∧ LF 92 q q' ∧ ∀ z : Nat, (z : Int) < l6.toInt → q'.2 92 z = q.2 91 (60 * s.toNatClampNeg + i.toNatClampNeg + z)) (fun _ _ _ _ _ _ l6 => (60 - l6.toInt).toNat) ?_ _ _ _ _ _ _ _ _ ⟨rfl, rfl, rfl, rfl, rfl, by decide, by simp only [Int32.reduceToInt]; omega, LF_refl q, fun z hz => absurd hz (by simp only [Int32.reduceToInt]; omega)⟩ (by unfold FU; decide)
  rintro rec q1 l1 l2 l3 l4 l5 l6 ⟨rfl, rfl, rfl, rfl, rfl, g0, g1, g2, g3⟩ hr
  refine T_le (fun g => ?_) (fun g => ?_)
  · unfold b_X12_shift_150
    refine T_fx5 (fun q' m3 m4 m5 m6 => m3 = l3 ∧ m4 = l4 ∧ m5 = l5 ∧ 0 ≤ m6.toInt ∧ m6.toInt ≤ l5.toInt ∧ LF 91 q1 q' ∧ ∀ z : Nat, q'.2 91 z = if 60 * l3.toNatClampNeg + l4.toNatClampNeg ≤ z ∧ (z : Int) < 60 * l3.toNatClampNeg + l4.toNatClampNeg + m6.toInt then q.2 91 (60 * l1.toNatClampNeg + l2.toNatClampNeg + (z - (60 * l3.toNatClampNeg + l4.toNatClampNeg))) else q.2 91 z) (fun _ _ _ _ m6 => (60 - m6.toInt).toNat) ?_ _ _ _ _ _ _ ⟨rfl, rfl, rfl, by decide, by simp only [Int32.reduceToInt]; omega, LF_refl q1, fun z => ?_⟩ (by unfold FU; decide)
    · rintro rec2 q2 m3 m4 m5 m6 ⟨rfl, rfl, rfl, f0, f1, f2, f3⟩ hr2
      refine T_le (fun g' => T_some.mpr (k _ (f2.1.trans g2.1) (fun z z1 z2 => (f2.2 z z1).trans (g2.2 z z2)) (fun z => ?_))) (fun g' => ?_)
      · rw [f3 z]
        have : m6.toInt = m5.toInt := by omega
        rw [this, ← cn]
        have e : (60 * m3.toNatClampNeg + m4.toNatClampNeg ≤ z ∧ (z : Int) < 60 * (m3.toNatClampNeg : Int) + (m4.toNatClampNeg : Int) + (m5.toNatClampNeg : Int)) ↔ (60 * m3.toNatClampNeg + m4.toNatClampNeg ≤ z ∧ z < 60 * m3.toNatClampNeg + m4.toNatClampNeg + m5.toNatClampNeg) := by omega
        simp only [e]
      · have e1 := inc1 (a := m6) (by omega) (by omega)
        have e2 : ((60 : Int32) * m3 + m4 + m6).toInt = 60 * m3.toInt + m4.toInt + m6.toInt := by rw [tadd (by omega) (by omega), eo]
        have c6 := cnI f0
        have e3 : ((60 : Int32) * m3 + m4 + m6).toNatClampNeg = 60 * m3.toNatClampNeg + m4.toNatClampNeg + m6.toNatClampNeg := by
          simp only [cn_eq, e2]
          omega
        refine T_vp f0 (by show m6.toInt < 60; omega) (T_vp (by omega) (by show ((60 : Int32) * m3 + m4 + m6).toInt < 360; omega) (T_nm (hr2 _ _ _ _ _ ⟨rfl, rfl, rfl, by omega, by omega, LF_sL f2, fun z => ?_⟩ (by omega))))
        rw [sL_rd, e3]
        by_cases e : z = 60 * m3.toNatClampNeg + m4.toNatClampNeg + m6.toNatClampNeg
        · rw [if_pos ⟨rfl, e⟩, if_pos (by omega), f2.2 92 (by decide), g3 _ (by omega)]
          exact congrArg (q.2 91) (by omega)
        · rw [if_neg (fun x => e x.2), f3 z]
          have e : (60 * m3.toNatClampNeg + m4.toNatClampNeg ≤ z ∧ (z : Int) < 60 * (m3.toNatClampNeg : Int) + (m4.toNatClampNeg : Int) + m6.toInt) ↔ (60 * m3.toNatClampNeg + m4.toNatClampNeg ≤ z ∧ (z : Int) < 60 * (m3.toNatClampNeg : Int) + (m4.toNatClampNeg : Int) + (m6 + 1).toInt) := by omega
          simp only [e]
    · have l0 : (0 : Int32).toInt = 0 := rfl
      rw [if_neg (by omega)]
      exact congrFun (g2.2 91 (by decide)) z
  · have e1 := inc1 (a := l6) (by omega) (by omega)
    have e2 : ((60 : Int32) * l1 + l2 + l6).toInt = 60 * l1.toInt + l2.toInt + l6.toInt := by rw [tadd (by omega) (by omega), es]
    have c6 := cnI g0
    have e3 : ((60 : Int32) * l1 + l2 + l6).toNatClampNeg = 60 * l1.toNatClampNeg + l2.toNatClampNeg + l6.toNatClampNeg := by
      simp only [cn_eq, e2]
      omega
    refine T_vp (by omega) (by show ((60 : Int32) * l1 + l2 + l6).toInt < 360; omega) (T_vp g0 (by show l6.toInt < 60; omega) (T_nm (hr _ _ _ _ _ _ _ ⟨rfl, rfl, rfl, rfl, rfl, by omega, by omega, LF_sL g2, fun z hz => ?_⟩ (by omega))))
    rw [sL_rd, e3]
    by_cases e : z = l6.toNatClampNeg
    · rw [if_pos ⟨rfl, e⟩, g2.2 91 (by decide), e]
    · rw [if_neg (fun x => e x.2)]
      exact g3 z (by omega)
theorem RS_shift {q X Y : SS} (h : RS q) {s o i j n : Nat} (hs : s < 6) (ho : o < 6) (k1 : 0 ≤ (q.1 27 s).toInt) (h1 : ((i + n : Nat) : Int) ≤ (q.1 90 s).toInt) (h2 : ((j + n : Nat) : Int) ≤ (q.1 90 o).toInt) (hX : X = sRL q (31 + o) (va_cpy (q.2 (31 + s)) (q.2 (31 + o)) i j n)) (y1 : Y.1 = X.1) (y2 : ∀ z, z ≠ 91 → z ≠ 92 → Y.2 z = X.2 z)
    (y3 : ∀ z : Nat, Y.2 91 z = if 60 * o + j ≤ z ∧ z < 60 * o + j + n then X.2 91 (60 * s + i + (z - (60 * o + j))) else X.2 91 z) : RS Y := by
  subst hX
  obtain ⟨g1, g2, g3, g4⟩ := h
  have y0 : Y.1 = q.1 := y1
  unfold RS
  rw [y0]
  refine ⟨g1, g2, g3, fun t ht h0 z hz => ?_⟩
  have x91 : ∀ z, (sRL q (31 + o) (va_cpy (q.2 (31 + s)) (q.2 (31 + o)) i j n)).2 91 z = q.2 91 z := fun z => by rw [sRL_rd, if_neg (by omega)]
  have zt := g2 t ht
  have zs := g2 s hs
  have zo := g2 o ho
  rw [y2 _ (by omega) (by omega), y3, x91, x91, sRL_rd]
  by_cases e : t = o
  · subst e
    rw [if_pos rfl]
    unfold va_cpy
    by_cases g : j ≤ z ∧ z < j + n
    · rw [if_pos g, if_pos (by omega), g4 s hs k1 _ (by omega)]
      exact congrArg (q.2 91) (by omega)
    · rw [if_neg g, if_neg (by omega)]
      exact g4 t ht h0 z hz
  · rw [if_neg (by omega), if_neg (by omega)]
    exact g4 t ht h0 z hz
theorem op_shift {q : SS} (h : INV q) (a i b j n : Int32) : T (f_X11_shift q a i b j n) (fun r => T (f_X12_shift r.2 a i b j n) (fun s => INV s.2 ∧ r.1 = s.1)) := by
  have hS := INV_RS h
  unfold f_X11_shift
  refine T_rw (x_refPair q a b) ?_
  by_cases c : (0 ≤ a.toInt ∧ a.toInt < 6) ∧ 0 ≤ b.toInt ∧ b.toInt < 6
  · have ha := cnL c.1.1 c.1.2
    have hb := cnL c.2.1 c.2.2
    have za := RS_size0 hS _ ha
    have zb := RS_size0 hS _ hb
    have sa := RS_shelf hS _ ha
    have sb := RS_shelf hS _ hb
    have e28a : q.1 28 a.toNatClampNeg = q.1 90 a.toNatClampNeg := congrFun (RS_size hS) _
    have e28b : q.1 28 b.toNatClampNeg = q.1 90 b.toNatClampNeg := congrFun (RS_size hS) _
    rw [if_pos c]
    -- the model's words of the two shelves
    have w1 : q.1 27 a.toNatClampNeg = -2 ↔ q.1 89 a.toNatClampNeg = -1 := by
      rcases sa with ⟨k1, k2⟩ | ⟨k1, k2, k3, k4⟩ | ⟨k1, k2, k3⟩
      · exact ⟨fun _ => k2, fun _ => k1⟩
      · exact ⟨fun k => absurd (k1.symm.trans k) (by decide), fun k => by rw [k] at k3; exact absurd k3 (by decide)⟩
      · exact ⟨fun k => by rw [k] at k1; exact absurd k1 (by decide), fun k => by rw [k] at k3; have := lm1; omega⟩
    have w2 : q.1 27 b.toNatClampNeg = -2 ↔ q.1 89 b.toNatClampNeg = -1 := by
      rcases sb with ⟨k1, k2⟩ | ⟨k1, k2, k3, k4⟩ | ⟨k1, k2, k3⟩
      · exact ⟨fun _ => k2, fun _ => k1⟩
      · exact ⟨fun k => absurd (k1.symm.trans k) (by decide), fun k => by rw [k] at k3; exact absurd k3 (by decide)⟩
      · exact ⟨fun k => by rw [k] at k1; exact absurd k1 (by decide), fun k => by rw [k] at k3; have := lm1; omega⟩
    unfold f_X12_shift
    by_cases d : q.1 27 a.toNatClampNeg = -2 ∨ q.1 27 b.toNatClampNeg = -2
    · rw [if_pos d]
      refine T_q (by decide) (T_some.mpr ?_)
      refine T_rw (m_isShelf _ a) (T_bp c.1 (T_rw (m_isShelf _ b) (T_bp c.2 (T_vp c.1.1 c.1.2 ?_))))
      by_cases d1 : q.1 27 a.toNatClampNeg = -2
      · exact T_p (w1.mp d1) (T_some.mpr ⟨h, rfl⟩)
      · exact T_q (fun k => d1 (w1.mpr k)) (T_vp c.2.1 c.2.2 (T_p (w2.mp (d.resolve_left d1)) (T_some.mpr ⟨h, rfl⟩)))
    · rw [if_neg d]
      have d1 : ¬ q.1 89 a.toNatClampNeg = -1 := fun k => d (Or.inl (w1.mpr k))
      have d2 : ¬ q.1 89 b.toNatClampNeg = -1 := fun k => d (Or.inr (w2.mpr k))
      -- of one sort, or not
      have w3 : ((0 ≤ (q.1 27 a.toNatClampNeg).toInt ∧ (q.1 27 a.toNatClampNeg).toInt ≤ 4) ∧ q.1 27 a.toNatClampNeg = q.1 27 b.toNatClampNeg) ↔ ((q.1 89 a.toNatClampNeg).toInt < 0 ∧ q.1 89 a.toNatClampNeg = q.1 89 b.toNatClampNeg) := by
        rcases sa with ⟨k1, k2⟩ | ⟨k1, k2, k3, k4⟩ | ⟨k1, k2, k3⟩
        · exact absurd (Or.inl k1) d
        · refine ⟨fun k => by rw [k1] at k; exact absurd k.1.1 (by decide), fun k => by omega⟩
        · rcases sb with ⟨m1, m2⟩ | ⟨m1, m2, m3, m4⟩ | ⟨m1, m2, m3⟩
          · exact absurd (Or.inr m1) d
          · exact ⟨fun k => by rw [k.2, m1] at k1; exact absurd k1 (by decide), fun k => by rw [k.2] at k3; omega⟩
          · refine ⟨fun k => ⟨by omega, Int32.toInt_inj.mp (by rw [k3, m3, k.2])⟩, fun k => ⟨⟨k1, k2⟩, Int32.toInt_inj.mp ?_⟩⟩
            rw [k.2] at k3
            omega
      by_cases d3 : (0 ≤ (q.1 27 a.toNatClampNeg).toInt ∧ (q.1 27 a.toNatClampNeg).toInt ≤ 4) ∧ q.1 27 a.toNatClampNeg = q.1 27 b.toNatClampNeg
      · rw [if_pos d3]
        refine T_p rfl ?_
        have d4 := w3.mp d3
        have ea : szX q a = (q.1 90 a.toNatClampNeg).toInt := by
          unfold szX
          rw [if_pos ⟨c.1.1, c.1.2, d3.1⟩, e28a]
        have eb : szX q b = (q.1 90 b.toNatClampNeg).toInt := by
          unfold szX
          rw [← d3.2, if_pos ⟨c.2.1, c.2.2, d3.1⟩, e28b]
        have hX := x_hasPlaces q a i n
        have hY := x_hasPlaces q b j n
        rw [ea] at hX
        rw [eb] at hY
        have mod : ∀ {P : Int32 × SS → Prop} (r : SS), r.1 = q.1 → (T (if n < 0 then (some ((-13 : Int32), r)) else (if i < 0 then (some ((-13 : Int32), r)) else (if j < 0 then (some ((-13 : Int32), r)) else (if vin a 6 then if ((r.1 90 a.toNatClampNeg) - n) < i then (some ((-13 : Int32), r)) else (if vin b 6 then if j ≤ ((r.1 90 b.toNatClampNeg) - n) then (b_X12_shift_113 r a i b j n (0 : Int32)) else (some ((-13 : Int32), r)) else none) else none)))) P) → T (f_X12_shift r a i b j n) P := by
          intro P r er k
          unfold f_X12_shift
          refine T_rw (m_isShelf _ a) (T_bp c.1 (T_rw (m_isShelf _ b) (T_bp c.2 (T_vp c.1.1 c.1.2 (T_q (by rw [er]; exact d1) (T_vp c.2.1 c.2.2 (T_q (by rw [er]; exact d2) (T_vp c.1.1 c.1.2 (T_len (by rw [er]; exact d4.1) (T_vp c.1.1 c.1.2 (T_vp c.2.1 c.2.2 (T_p (by rw [er]; exact d4.2) k))))))))))))
        have l0 : (0 : Int32).toInt = 0 := rfl
        have nb := Int32.toInt_lt n
        refine T_lt (fun g => T_some.mpr (mod q rfl (T_ltp g (T_some.mpr ⟨h, rfl⟩)))) (fun g => T_rw hX (T_bi (fun g2 => T_some.mpr (mod q rfl (T_ltn g ?_))) (fun g2 => T_rw hY (T_bi (fun g3 => T_some.mpr (mod q rfl (T_ltn g ?_))) (fun g3 => ?_)))))
        · refine T_lt (fun _ => T_some.mpr ⟨h, rfl⟩) (fun g4 => T_lt (fun _ => T_some.mpr ⟨h, rfl⟩) (fun g5 => T_vp c.1.1 c.1.2 (T_ltp ?_ (T_some.mpr ⟨h, rfl⟩))))
          rw [tsub (by omega) (by omega)]
          omega
        · refine T_lt (fun _ => T_some.mpr ⟨h, rfl⟩) (fun g4 => T_lt (fun _ => T_some.mpr ⟨h, rfl⟩) (fun g5 => T_vp c.1.1 c.1.2 (T_ltn ?_ (T_vp c.2.1 c.2.2 (T_len ?_ (T_some.mpr ⟨h, rfl⟩))))))
          · rw [tsub (by omega) (by omega)]
            omega
          · rw [tsub (by omega) (by omega)]
            omega
        · have hcp : cpok 60 60 i j n := ⟨fun k => by rw [Int32.lt_iff_toInt_lt] at k; omega, fun k => by rw [Int32.lt_iff_toInt_lt] at k; omega, fun k => by rw [Int32.lt_iff_toInt_lt] at k; omega, by simp only [cn_eq]; omega, by simp only [cn_eq]; omega⟩
          have ra : f_X7_isRow q a = some (bI True) := by rw [x_isRow]; exact congrArg some (bI_c ⟨fun _ => trivial, fun _ => ⟨c.1.1, c.1.2, d3.1⟩⟩)
          have rb : f_X7_isRow q b = some (bI True) := by rw [x_isRow]; exact congrArg some (bI_c ⟨fun _ => trivial, fun _ => ⟨c.2.1, c.2.2, by rw [← d3.2]; exact d3.1⟩⟩)
          unfold f_X7_copy
          refine T_b (T_rw hX (T_bp g2 (T_rw hY (T_bp g3 (T_rw ra (T_bp trivial (T_rw rb (T_bp trivial (T_vp c.1.1 c.1.2 (T_vp c.2.1 c.2.2 (T_p hcp (T_nm (T_some.mpr (Eq.refl _)))))))))))))) (fun X hXX => ?_)
          refine T_some.mpr (mod X (by subst hXX; rfl) ?_)
          have x90 : X.1 = q.1 := by subst hXX; rfl
          refine T_ltn g (T_ltn g2.1 (T_ltn g3.1 (T_vp c.1.1 c.1.2 (T_ltn ?_ (T_vp c.2.1 c.2.2 (T_lep ?_ (m_cp1 c.1 c.2 g2.1 g3.1 g (by omega) (by omega) (fun Y y1 y2 y3 => ?_))))))))
          · rw [x90, tsub (by omega) (by omega)]
            omega
          · rw [x90, tsub (by omega) (by omega)]
            omega
          · refine ⟨?_, rfl⟩
            have y0 : Y.1 = q.1 := y1.trans x90
            have f := fun (k : Nat) (_ : true = true) => congrFun y0 k
            have ci := cnI g2.1
            have cj := cnI g3.1
            have cn := cnI g
            exact ⟨RY_fr (q := q) (f 3 rfl) (f 4 rfl) (f 5 rfl) (f 6 rfl) (f 7 rfl) (f 8 rfl) (f 9 rfl) (f 61 rfl) (f 62 rfl) (f 63 rfl) (f 64 rfl) (f 65 rfl) (f 66 rfl) (f 67 rfl) (congrFun (f 1 rfl) 1) (congrFun (f 1 rfl) 2) (congrFun (f 10 rfl) 0) (congrFun (f 11 rfl) 0) (congrFun (f 60 rfl) 1) (congrFun (f 60 rfl) 6) (congrFun (f 68 rfl) 0) (congrFun (f 68 rfl) 1) (INV_RY h), RC_fr (q := q) (f 53 rfl) (f 54 rfl) (f 55 rfl) (f 56 rfl) (f 69 rfl) (f 70 rfl) (f 71 rfl) (f 72 rfl) (congrFun (f 52 rfl) 5) (congrFun (f 52 rfl) 6) (congrFun (f 60 rfl) 1) (congrFun (f 60 rfl) 6) (congrFun (f 60 rfl) 11) (congrFun (f 60 rfl) 12) (INV_RC h), RD_fr (q := q) (f 48 rfl) (f 49 rfl) (f 50 rfl) (f 51 rfl) (f 83 rfl) (f 84 rfl) (f 85 rfl) (f 86 rfl) (congrFun (f 47 rfl) 5) (congrFun (f 47 rfl) 6) (congrFun (f 47 rfl) 7) (congrFun (f 60 rfl) 1) (congrFun (f 60 rfl) 6) (congrFun (f 60 rfl) 46) (congrFun (f 60 rfl) 47) (congrFun (f 60 rfl) 48) (INV_RD h), RT_fr (q := q) (f 18 rfl) (f 73 rfl) (congrFun (f 17 rfl) 2) (congrFun (f 60 rfl) 18) (INV_RT h), RH_fr (q := q) (f 58 rfl) (f 59 rfl) (f 87 rfl) (f 88 rfl) (congrFun (f 57 rfl) 2) (congrFun (f 57 rfl) 3) (congrFun (f 60 rfl) 52) (congrFun (f 60 rfl) 54) (INV_RH h), RS_shift hS ha hb d3.1.1 (by omega) (by omega) hXX.symm y1 y2 y3, RW_fr (q := q) (f 74 rfl) (f 75 rfl) (f 77 rfl) (f 78 rfl) (congrFun (f 60 rfl) 30) (congrFun (f 76 rfl) 0) (INV_RW h), RJ_fr (q := q) (f 81 rfl) (congrFun (f 37 rfl) 3) (INV_RJ h)⟩
      · rw [if_neg d3]
        have d4 : ¬ ((q.1 89 a.toNatClampNeg).toInt < 0 ∧ q.1 89 a.toNatClampNeg = q.1 89 b.toNatClampNeg) := fun k => d3 (w3.mpr k)
        refine T_q (by decide) (T_some.mpr ?_)
        refine T_rw (m_isShelf _ a) (T_bp c.1 (T_rw (m_isShelf _ b) (T_bp c.2 (T_vp c.1.1 c.1.2 (T_q d1 (T_vp c.2.1 c.2.2 (T_q d2 (T_vp c.1.1 c.1.2 (T_le (fun _ => T_some.mpr ⟨h, rfl⟩) (fun g => T_vp c.1.1 c.1.2 (T_vp c.2.1 c.2.2 (T_q (fun k => d4 ⟨g, k⟩) (T_some.mpr ⟨h, rfl⟩)))))))))))))
  · rw [if_neg c]
    refine T_q (by decide) (T_some.mpr ?_)
    unfold f_X12_shift
    by_cases c1 : 0 ≤ a.toInt ∧ a.toInt < 6
    · exact T_rw (m_isShelf _ a) (T_bp c1 (T_rw (m_isShelf _ b) (T_bn (fun k => c ⟨c1, k⟩) (T_some.mpr ⟨h, rfl⟩))))
    · exact T_rw (m_isShelf _ a) (T_bn c1 (T_some.mpr ⟨h, rfl⟩))
/-! ===== led, trace, taken, count; fold, hour ===== -/
theorem op_led {q : SS} (h : INV q) (a : Int32) : T (f_X11_led q a) (fun r => T (f_X12_led q a) (fun s => r = s)) := by
  have hD := INV_RD h
  have m1 : f_X12_in q a 0 3 = some (bI (0 ≤ a.toInt ∧ a.toInt ≤ 3)) := m_in q a 0 3
  unfold f_X11_led b_X11_led_9 f_X1_noted
  refine T_lt (fun g => T_some.mpr ?_) (fun g => T_lt (fun g2 => ?_) (fun g2 => T_some.mpr ?_))
  · unfold f_X12_led
    refine T_rw m1 (T_bn ?_ (T_some.mpr rfl))
    have l0 : (0 : Int32).toInt = 0 := rfl
    omega
  · have l0 : (0 : Int32).toInt = 0 := rfl
    have l4 : (4 : Int32).toInt = 4 := rfl
    refine T_b (T_ltn g (T_len g2 (T_vp g (by show a.toInt < 4; omega) (T_some.mpr (Eq.refl _))))) (fun r hr => T_some.mpr ?_)
    unfold f_X12_led
    refine T_rw m1 (T_bp (by omega) (T_vp g (by show a.toInt < 4; omega) (T_some.mpr ?_)))
    rw [← hr, RD_notes hD]
  · unfold f_X12_led
    refine T_rw m1 (T_bn ?_ (T_some.mpr rfl))
    have l4 : (4 : Int32).toInt = 4 := rfl
    omega
theorem op_trace {q : SS} (h : INV q) (a : Int32) : T (f_X11_trace q a) (fun r => T (f_X12_trace q a) (fun s => r = s)) := by
  have hH := INV_RH h
  have er := RH_ran hH
  have et := RH_trace hH
  have l0 : (0 : Int32).toInt = 0 := rfl
  have l24 : (24 : Int32).toInt = 24 := rfl
  unfold f_X11_trace b_X11_trace_15 f_X3_traceAt f_X3_traced f_X12_trace
  refine T_lt (fun g => T_some.mpr (T_ltp g (T_some.mpr rfl))) (fun g => T_rw rfl ?_)
  rw [er]
  have ej : (jmin (q.1 60 54) 24).toInt = if (q.1 60 54).toInt ≤ 24 then (q.1 60 54).toInt else 24 := by
    unfold jmin
    by_cases e : (24 : Int32) < q.1 60 54
    · have e2 := Int32.lt_iff_toInt_lt.mp e
      rw [if_pos e, if_neg (by omega)]
      rfl
    · have e2 := Int32.le_iff_toInt_le.mp (Int32.not_lt.mp e)
      rw [if_neg e, if_pos (by omega)]
  refine T_lt (fun g2 => ?_) (fun g2 => T_some.mpr ?_)
  · have g3 : a.toInt < (q.1 60 54).toInt ∧ a.toInt < 24 := by split at ej <;> omega
    refine T_b (T_ltn g (T_rw rfl (T_len g2 (T_vp g g3.2 (T_some.mpr (Eq.refl _)))))) (fun r hr => T_some.mpr ?_)
    exact T_ltn g (T_len g3.1 (T_len (by omega) (T_vp g g3.2 (T_some.mpr (by rw [← hr, et])))))
  · refine T_ltn g (T_le (fun _ => T_some.mpr rfl) (fun g4 => T_lep (by split at ej <;> omega) (T_some.mpr rfl)))
def q00 : SS := (fun _ _ => 0, fun _ _ => 0)
theorem isU_x (q : SS) : f_X3_isUnder q = f_X3_isUnder q00 := rfl
theorem isU_m (q : SS) : f_X12_isUnder q = f_X12_isUnder q00 := rfl
set_option maxRecDepth 100000 in
theorem isU_t : ∀ k, k < 8 → ∀ j, j < 8 → f_X3_isUnder q00 (Int32.ofNat k) (Int32.ofNat j) = f_X12_isUnder q00 (Int32.ofNat k) (Int32.ofNat j) ∧ (f_X12_isUnder q00 (Int32.ofNat k) (Int32.ofNat j) = some 0 ∨ f_X12_isUnder q00 (Int32.ofNat k) (Int32.ofNat j) = some 1) := by decide +kernel
set_option maxRecDepth 100000 in
theorem isU_n : ∀ j, j < 8 → f_X3_isUnder q00 (-1) (Int32.ofNat j) = some 0 := by decide +kernel
theorem ofN {a : Int32} {n : Nat} (h0 : 0 ≤ a.toInt) (h : a.toInt < (n : Int)) : ∃ m, m < n ∧ a = Int32.ofNat m := ⟨a.toNatClampNeg, cnL h0 h, (Int32.ofNat_toNatClampNeg a (Int32.le_iff_toInt_le.mpr h0)).symm⟩
theorem isU {q : SS} {k j : Int32} (hk : 0 ≤ k.toInt ∧ k.toInt ≤ 7) (hj : 0 ≤ j.toInt ∧ j.toInt < 8) : ∃ v : Int32, (v = 0 ∨ v = 1) ∧ f_X3_isUnder q k j = some v ∧ f_X12_isUnder q k j = some v := by
  obtain ⟨m, hm, rfl⟩ := ofN (n := 8) hk.1 (by omega)
  obtain ⟨n, hn, rfl⟩ := ofN (n := 8) hj.1 (by omega)
  rw [isU_x, isU_m]
  obtain ⟨e1, e2 | e2⟩ := isU_t m hm n hn
  · exact ⟨0, Or.inl rfl, e1.trans e2, e2⟩
  · exact ⟨1, Or.inr rfl, e1.trans e2, e2⟩
theorem op_taken {q : SS} (h : INV q) (a b : Int32) : T (f_X11_taken q a b) (fun r => T (f_X12_taken q a b) (fun s => r = s)) := by
  have hS := INV_RS h
  have hH := INV_RH h
  have l50 := RH_b50 hH
  have eb := RH_bodies hH
  have m1 : f_X12_in q b 0 7 = some (bI (0 ≤ b.toInt ∧ b.toInt ≤ 7)) := m_in q b 0 7
  unfold f_X11_taken b_X11_taken_64
  refine T_rw (x_isShelf q a) ?_
  by_cases c : 0 ≤ a.toInt ∧ a.toInt < 6
  · have hs := cnL c.1 c.2
    refine T_bp c (T_rw (x_isKind q b) ?_)
    by_cases d : 0 ≤ b.toInt ∧ b.toInt < 8
    · refine T_bp d (T_rw (x_isEmpty q a) ?_)
      rcases RS_shelf hS _ hs with ⟨k1, k2⟩ | ⟨k1, k2, k3, k4⟩ | ⟨k1, k2, k3⟩
      · refine T_bp ⟨c.1, c.2, k1⟩ (T_some.mpr ?_)
        unfold f_X12_taken
        exact T_rw (m_isShelf _ a) (T_bp c (T_rw m1 (T_bp (by omega) (T_vp c.1 c.2 (T_p k2 (T_some.mpr rfl))))))
      · have n1 : ¬ q.1 27 a.toNatClampNeg = -2 := by rw [k1]; decide
        have n2 : ¬ q.1 89 a.toNatClampNeg = -1 := by rintro k; rw [k] at k3; exact absurd k3 (by decide)
        refine T_bn (fun k => n1 k.2.2) (T_rw (x_isRow q a) (T_bn (fun k => by rw [k1] at k; exact absurd k.2.2.1 (by decide)) (T_rw (x_bodyOn q a) ?_)))
        rw [if_pos ⟨c.1, c.2, k1⟩, ← k2]
        refine T_rw (x_kindOf q (by rw [eb]; exact l50) _) ?_
        rw [eb, if_pos ⟨k3, k4⟩, RH_kind hH]
        have kk := RH_rkind hH (q.1 89 a.toNatClampNeg).toNatClampNeg (by rw [cnI k3]; exact k4)
        obtain ⟨v, hv, e1, e2⟩ := isU (q := q) (k := q.1 87 (q.1 89 a.toNatClampNeg).toNatClampNeg) (j := b) kk d
        refine T_rw e1 ?_
        have key : ∀ w : Int32, T (if v = 0 then some (-12 : Int32) else some (q.1 87 (q.1 89 a.toNatClampNeg).toNatClampNeg)) (fun s => w = s) → T (f_X12_taken q a b) (fun s => w = s) := by
          intro w k
          unfold f_X12_taken
          refine T_rw (m_isShelf _ a) (T_bp c (T_rw m1 (T_bp (by omega) (T_vp c.1 c.2 (T_q n2 (T_vp c.1 c.2 (T_ltn k3 (T_vp c.1 c.2 (T_vp k3 (by show (q.1 89 a.toNatClampNeg).toInt < 50; omega) (T_rw e2 ?_))))))))))
          rcases hv with rfl | rfl
          · exact T_p rfl k
          · exact T_q (by decide) (T_vp c.1 c.2 (T_vp k3 (by show (q.1 89 a.toNatClampNeg).toInt < 50; omega) k))
        rcases hv with rfl | rfl
        · exact T_p rfl (T_some.mpr (key _ (T_some.mpr rfl)))
        · exact T_q (by decide) (T_some.mpr (key _ (T_some.mpr rfl)))
      · have n1 : ¬ q.1 27 a.toNatClampNeg = -2 := by rintro k; rw [k] at k1; exact absurd k1 (by decide)
        have n2 : ¬ q.1 89 a.toNatClampNeg = -1 := by rintro k; rw [k] at k3; have := lm1; omega
        refine T_bn (fun k => n1 k.2.2) (T_rw (x_isRow q a) (T_bp ⟨c.1, c.2, k1, k2⟩ ?_))
        obtain ⟨n, hn, rfl⟩ := ofN (n := 8) d.1 (by omega)
        have e1 : f_X3_isUnder q (-1) (Int32.ofNat n) = some 0 := by rw [isU_x]; exact isU_n n hn
        refine T_rw e1 (T_p rfl (T_some.mpr ?_))
        unfold f_X12_taken
        exact T_rw (m_isShelf _ a) (T_bp c (T_rw m1 (T_bp (by omega) (T_vp c.1 c.2 (T_q n2 (T_vp c.1 c.2 (T_ltp (by show _ < (0 : Int); omega) (T_some.mpr rfl))))))))
    · refine T_bn d (T_some.mpr ?_)
      unfold f_X12_taken
      exact T_rw (m_isShelf _ a) (T_bp c (T_rw m1 (T_bn (by omega) (T_some.mpr rfl))))
  · refine T_bn c (T_some.mpr ?_)
    unfold f_X12_taken
    exact T_rw (m_isShelf _ a) (T_bn c (T_some.mpr rfl))
theorem op_count {q : SS} (h : INV q) (a : Int32) : T (f_X11_count q a) (fun r => T (f_X12_count q a) (fun s => r = s)) := by
  have e0 := RY_p (INV_RY h)
  have e1 := RY_k (INV_RY h)
  have e2 := RT_len (INV_RT h)
  have e3 := RC_done (INV_RC h)
  have e4 := RH_bodies (INV_RH h)
  have e5 := RH_ran (INV_RH h)
  unfold f_X11_count f_X12_count f_X10_people f_X10_tickets f_X5_tapeLength f_X0_done f_X3_bodies f_X3_ran
  simp only [sw, bind_s, e0, e1, e2, e3, e4, e5]
  by_cases c0 : a.toInt = 0
  · rw [if_pos c0]; exact T_some.mpr (T_some.mpr rfl)
  rw [if_neg c0]
  by_cases c0 : a.toInt = 1
  · rw [if_pos c0]; exact T_some.mpr (T_some.mpr rfl)
  rw [if_neg c0]
  by_cases c0 : a.toInt = 2
  · rw [if_pos c0]; exact T_some.mpr (T_some.mpr rfl)
  rw [if_neg c0]
  by_cases c0 : a.toInt = 3
  · rw [if_pos c0]; exact T_some.mpr (T_some.mpr rfl)
  rw [if_neg c0]
  by_cases c0 : a.toInt = 4
  · rw [if_pos c0]; exact T_some.mpr (T_some.mpr rfl)
  rw [if_neg c0]
  by_cases c0 : a.toInt = 5
  · rw [if_pos c0]; exact T_some.mpr (T_some.mpr rfl)
  rw [if_neg c0]
  exact T_some.mpr (T_some.mpr rfl)
theorem x_note {q : SS} (k : Int32) (h0 : 0 ≤ k.toInt) (h4 : k.toInt < 4) : f_X1_note q k = some (sI q 48 k.toNatClampNeg (q.1 48 k.toNatClampNeg + 1)) := by
  unfold f_X1_note
  have l0 : (0 : Int32).toInt = 0 := rfl
  have l4 : (4 : Int32).toInt = 4 := rfl
  have v : vin k 4 := ⟨h0, h4⟩
  rw [if_neg (fun g => absurd (Int32.lt_iff_toInt_lt.mp g) (by omega)), if_neg (fun g => absurd (Int32.le_iff_toInt_le.mp g) (by omega)), if_pos v, if_pos v]
  rfl
theorem RD_note {q q' : SS} (h : RD q) {k : Nat} (r48 : ∀ j, q'.1 48 j = if j = k then q.1 48 k + 1 else q.1 48 j) (r83 : ∀ j, q'.1 83 j = if j = k then q.1 83 k + 1 else q.1 83 j) (ot : ∀ z, z ∈ [49, 50, 51, 84, 85, 86, 47] → q'.1 z = q.1 z) (o60 : ∀ i, i ∈ [1, 6, 46, 47, 48] → q'.1 60 i = q.1 60 i) : RD q' := by
  have e := RD_notes h
  have hn : q'.1 48 = q'.1 83 := by
    funext j
    rw [r48, r83, e]
  unfold RD at h ⊢
  rw [ot 49 (by decide), ot 50 (by decide), ot 51 (by decide), ot 84 (by decide), ot 85 (by decide), ot 86 (by decide), ot 47 (by decide), o60 1 (by decide), o60 6 (by decide), o60 46 (by decide), o60 47 (by decide), o60 48 (by decide)]
  exact ⟨hn, h.2⟩

/-! ===== tickets one by one ===== -/
def xAT (q : SS) (a b k : Int32) : SS := sI (sI (sI (sI q 1 2 (q.1 1 2 + 1)) 7 (q.1 1 2).toNatClampNeg a) 8 (q.1 1 2).toNatClampNeg b) 9 (q.1 1 2).toNatClampNeg k
def mAT (q : SS) (a b k : Int32) : SS := sI (sI (sI (sI q 65 (q.1 60 6).toNatClampNeg a) 66 (q.1 60 6).toNatClampNeg b) 67 (q.1 60 6).toNatClampNeg k) 60 6 (q.1 60 6 + 1)
theorem m_addTicket {q : SS} (h0 : 0 ≤ (q.1 60 6).toInt) (h : (q.1 60 6).toInt < 12) (a b k : Int32) : f_X12_addTicket q a b k = some (q.1 60 6, mAT q a b k) := by
  have v : vin (q.1 60 6) 12 := ⟨h0, h⟩
  unfold f_X12_addTicket
  rw [if_pos v]
  show (if vin (q.1 60 6) 12 then (if vin (q.1 60 6) 12 then some ((q.1 60 6 + 1) - 1, _) else none) else none) = _
  rw [if_pos v, if_pos v, add_sub1]
  rfl
theorem x_addTicket {q : SS} (hp : (q.1 1 1).toInt ≤ 6) (h0 : 0 ≤ (q.1 1 2).toInt) (h12 : (q.1 1 2).toInt ≤ 12) (a b k : Int32) : f_X10_addTicket q a b k = some (if q.1 1 2 = 12 then (-3, q) else (q.1 1 2, xAT q a b k)) := by
  unfold f_X10_addTicket
  by_cases g : q.1 1 2 = 12
  · rw [if_pos g, if_neg (by rw [g]; decide)]
  · have hh := ne12 h12 g
    have e1 := inc1 (a := q.1 1 2) (by omega) (by omega)
    rw [if_neg g, if_pos (Int32.lt_iff_toInt_lt.mpr hh)]
    show (f_X10_set (sI q 1 2 (q.1 1 2 + 1)) 4 ((q.1 1 2 + 1) - 1) a).bind _ = _
    rw [add_sub1, x_set (q := sI q 1 2 (q.1 1 2 + 1)) hp (by show (q.1 1 2 + 1).toInt ≤ 12; omega)]
    rw [if_pos (Or.inr (Or.inl ⟨by decide, by decide, h0, by show (q.1 1 2).toInt < (q.1 1 2 + 1).toInt; omega⟩)), bind_s]
    show (f_X10_set (sI (sI q 1 2 (q.1 1 2 + 1)) 7 (q.1 1 2).toNatClampNeg a) 5 ((q.1 1 2 + 1) - 1) b).bind _ = _
    rw [add_sub1, x_set (q := sI (sI q 1 2 (q.1 1 2 + 1)) 7 (q.1 1 2).toNatClampNeg a) hp (by show (q.1 1 2 + 1).toInt ≤ 12; omega)]
    rw [if_pos (Or.inr (Or.inl ⟨by decide, by decide, h0, by show (q.1 1 2).toInt < (q.1 1 2 + 1).toInt; omega⟩)), bind_s]
    show (f_X10_set (sI (sI (sI q 1 2 (q.1 1 2 + 1)) 7 (q.1 1 2).toNatClampNeg a) 8 (q.1 1 2).toNatClampNeg b) 6 ((q.1 1 2 + 1) - 1) k).bind _ = _
    rw [add_sub1, x_set (q := sI (sI (sI q 1 2 (q.1 1 2 + 1)) 7 (q.1 1 2).toNatClampNeg a) 8 (q.1 1 2).toNatClampNeg b) hp (by show (q.1 1 2 + 1).toInt ≤ 12; omega)]
    rw [if_pos (Or.inr (Or.inl ⟨by decide, by decide, h0, by show (q.1 1 2).toInt < (q.1 1 2 + 1).toInt; omega⟩)), bind_s]
    show some ((q.1 1 2 + 1) - 1, _) = _
    rw [add_sub1]
    rfl
theorem RY_AT {q : SS} (h : RY q) {a b k : Int32} (ha : 0 ≤ a.toInt ∧ a.toInt < (q.1 60 1).toInt) (hb : 0 ≤ b.toInt ∧ b.toInt ≤ 1) (hk : 0 ≤ k.toInt ∧ k.toInt ≤ 4) (hK : (q.1 60 6).toInt < 12) : RY (mAT (xAT q a b k) a b k) := by
  have h0 := RY_k0 h
  have e1 : (q.1 60 6 + 1).toInt = (q.1 60 6).toInt + 1 := inc1 (by omega) (by omega)
  show RY (sI (sI (sI (sI (sI (sI (sI (sI q 1 2 (q.1 1 2 + 1)) 7 (q.1 1 2).toNatClampNeg a) 8 (q.1 1 2).toNatClampNeg b) 9 (q.1 1 2).toNatClampNeg k) 65 (q.1 60 6).toNatClampNeg a) 66 (q.1 60 6).toNatClampNeg b) 67 (q.1 60 6).toNatClampNeg k) 60 6 (q.1 60 6 + 1))
  rw [RY_k h]
  generalize hn : q.1 60 6 + 1 = n at *
  have ec : ((q.1 60 6).toNatClampNeg : Int) = (q.1 60 6).toInt := by
    simp only [cn_eq]
    omega
  generalize hm : (q.1 60 6).toNatClampNeg = m at *
  unfold RY
  refine ⟨?_, ?_, ?_, ?_, ?_, ?_, ?_, ?_, ?_, ?_, ?_, ?_, ?_, ?_, ?_, ?_, ?_, ?_, ?_, ?_, ?_, ?_, ?_, ?_, ?_, ?_, ?_, ?_, ?_⟩
  · have a := RY_p0 h; exact a
  · have a := RY_p6 h; exact a
  · have a := RY_k0 h; simp [sI_rd] <;> first | omega | grind
  · have a := RY_k12 h; simp [sI_rd] <;> first | omega | grind
  · have a := RY_p h; exact a
  · have a := RY_k h; simp [sI_rd] <;> first | omega | grind
  · have a := RY_wary h; exact a
  · have a := RY_child h; exact a
  · have a := RY_takes h; exact a
  · have a := RY_holder h; funext j; have a := congrFun a j; simp [sI_rd] <;> grind
  · have a := RY_forged h; funext j; have a := congrFun a j; simp [sI_rd] <;> grind
  · have a := RY_folds h; funext j; have a := congrFun a j; simp [sI_rd] <;> grind
  · have a := RY_hour h; exact a
  · have a := RY_seen h; exact a
  · have a := RY_price h; exact a
  · have a := RY_price10 h; exact a
  · have a := RY_child0 h; exact a
  · have a := RY_takes0 h; exact a
  · have a := RY_rwary h; exact a
  · have a := RY_rchild h; exact a
  · have a := RY_rprice h; exact a
  · have a := RY_rtakes h; exact a
  · have a := RY_rholder h; intro i hi; simp [sI_rd] at hi ⊢ <;> (try split) <;> grind
  · have a := RY_rforged h; intro i hi; simp [sI_rd] at hi ⊢ <;> (try split) <;> grind
  · have a := RY_rfolds h; intro i hi; simp [sI_rd] at hi ⊢ <;> (try split) <;> grind
  · have a := RY_h0 h; exact a
  · have a := RY_h11 h; exact a
  · have a := RY_s0 h; exact a
  · have a := RY_s9 h; exact a
theorem INV_AT {q : SS} (h : INV q) {a b k : Int32} (ha : 0 ≤ a.toInt ∧ a.toInt < (q.1 60 1).toInt) (hb : 0 ≤ b.toInt ∧ b.toInt ≤ 1) (hk : 0 ≤ k.toInt ∧ k.toInt ≤ 4) (hK : (q.1 60 6).toInt < 12) : INV (mAT (xAT q a b k) a b k) := by
  have h0 := RY_k0 (INV_RY h)
  have e1 : (q.1 60 6 + 1).toInt = (q.1 60 6).toInt + 1 := inc1 (by omega) (by omega)
  exact ⟨RY_AT (INV_RY h) ha hb hk hK, RC_up (q := q) rfl rfl rfl rfl rfl rfl rfl rfl rfl rfl (Int.le_refl _) (by show _ ≤ (q.1 60 6 + 1).toInt; omega) rfl rfl (INV_RC h), RD_up (q := q) rfl rfl rfl rfl rfl rfl rfl rfl rfl rfl rfl (Int.le_refl _) (by show _ ≤ (q.1 60 6 + 1).toInt; omega) rfl rfl rfl (INV_RD h), RT_fr (q := q) rfl rfl rfl rfl (INV_RT h), RH_fr (q := q) rfl rfl rfl rfl rfl rfl rfl rfl (INV_RH h), RS_fr (q := q) rfl rfl rfl rfl rfl rfl rfl (fun _ _ => rfl) (INV_RS h), RW_fr (q := q) rfl rfl rfl rfl rfl rfl (INV_RW h), RJ_fr (q := q) rfl rfl (INV_RJ h)⟩
theorem x_ticket {q : SS} (hp : (q.1 1 1).toInt ≤ 6) (h0 : 0 ≤ (q.1 1 2).toInt) (h12 : (q.1 1 2).toInt ≤ 12) (a b : Int32) : f_X11_ticket q a b = some (if (0 ≤ a.toInt ∧ a.toInt < (q.1 1 1).toInt) ∧ 0 ≤ b.toInt ∧ b.toInt ≤ 1 then (if q.1 1 2 = 12 then (-3, q) else (q.1 1 2, xAT q a b 0)) else (-1, q)) := by
  unfold f_X11_ticket
  rw [x_mayBe 4 a (by decide) (by decide), bind_s]
  by_cases c : 0 ≤ a.toInt ∧ a.toInt < (q.1 1 1).toInt
  · rw [if_neg (by rw [bI_0]; intro k; apply k; unfold okV; simp only [Int32.reduceToInt]; omega), x_mayBe 5 b (by decide) (by decide), bind_s]
    by_cases d : 0 ≤ b.toInt ∧ b.toInt ≤ 1
    · rw [if_neg (by rw [bI_0]; intro k; apply k; unfold okV; simp only [Int32.reduceToInt]; omega), if_pos ⟨c, d⟩, x_addTicket hp h0 h12, bind_s]
    · rw [if_pos (by rw [bI_0]; intro k; exact d ⟨k.1, k.2.2.2.2.2.2.1 (by decide)⟩), if_neg (fun k => d k.2)]
  · rw [if_pos (by rw [bI_0]; intro k; exact c ⟨k.1, k.2.2.2.2.2.1 (by decide)⟩), if_neg (fun k => c k.1)]
theorem m_areTicket {q : SS} (hp : 0 ≤ (q.1 60 1).toInt) (a b : Int32) : f_X12_areTicket q a b = some (bI ((0 ≤ a.toInt ∧ a.toInt < (q.1 60 1).toInt) ∧ 0 ≤ b.toInt ∧ b.toInt ≤ 1)) := by
  unfold f_X12_areTicket
  simp only [m_isOne hp, m_in, bind_s, bI_0, Int32.reduceToInt]
  unfold bI
  grind
theorem m_ticket {q : SS} (hp : 0 ≤ (q.1 60 1).toInt) (h0 : 0 ≤ (q.1 60 6).toInt) (h12 : (q.1 60 6).toInt ≤ 12) (a b : Int32) : f_X12_ticket q a b = some (if (0 ≤ a.toInt ∧ a.toInt < (q.1 60 1).toInt) ∧ 0 ≤ b.toInt ∧ b.toInt ≤ 1 then (if q.1 60 6 = 12 then (-3, q) else (q.1 60 6, mAT q a b 0)) else (-1, q)) := by
  unfold f_X12_ticket
  rw [m_areTicket hp, bind_s]
  by_cases c : (0 ≤ a.toInt ∧ a.toInt < (q.1 60 1).toInt) ∧ 0 ≤ b.toInt ∧ b.toInt ≤ 1
  · rw [if_neg (by rw [bI_0]; exact fun k => k c), if_pos c]
    by_cases g : q.1 60 6 = 12
    · rw [if_pos g, if_pos g]
    · rw [if_neg g, if_neg g, m_addTicket h0 (ne12 h12 g), bind_s]
  · rw [if_pos (by rw [bI_0]; exact c), if_neg c]
theorem op_ticket {q : SS} (h : INV q) (a b : Int32) : T (f_X11_ticket q a b) (fun r => T (f_X12_ticket r.2 a b) (fun s => INV s.2 ∧ r.1 = s.1)) := by
  have hY := INV_RY h
  have p0 := RY_p0 hY
  have p6 := RY_p6 hY
  have k0 := RY_k0 hY
  have k12 := RY_k12 hY
  have ep := RY_p hY
  have ek := RY_k hY
  refine T_of (x_ticket (by rw [ep]; exact p6) (by rw [ek]; exact k0) (by rw [ek]; exact k12) a b) ?_
  rw [ep, ek]
  by_cases c : (0 ≤ a.toInt ∧ a.toInt < (q.1 60 1).toInt) ∧ 0 ≤ b.toInt ∧ b.toInt ≤ 1
  · rw [if_pos c]
    by_cases g : q.1 60 6 = 12
    · rw [if_pos g]
      refine T_of (m_ticket p0 k0 k12 a b) ?_
      rw [if_pos c, if_pos g]
      exact ⟨h, rfl⟩
    · rw [if_neg g]
      have e := m_ticket (q := xAT q a b 0) p0 k0 k12 a b
      rw [if_pos (show (0 ≤ a.toInt ∧ a.toInt < ((xAT q a b 0).1 60 1).toInt) ∧ 0 ≤ b.toInt ∧ b.toInt ≤ 1 from c), if_neg (show ¬ (xAT q a b 0).1 60 6 = 12 from g)] at e
      exact T_of e ⟨INV_AT h c.1 c.2 ⟨by decide, by decide⟩ (ne12 k12 g), rfl⟩
  · rw [if_neg c]
    refine T_of (m_ticket p0 k0 k12 a b) ?_
    rw [if_neg c]
    exact ⟨h, rfl⟩

/-! ===== calls that change what holds: people, tickets ===== -/
theorem x_set {q : SS} (hp : (q.1 1 1).toInt ≤ 6) (hk : (q.1 1 2).toInt ≤ 12) (w n v : Int32) : f_X10_set q w n v = some (if okN (q.1 1 1).toInt (q.1 1 2).toInt w.toInt n.toInt then sI q (3 + w.toNatClampNeg) n.toNatClampNeg v else q) := by
  unfold f_X10_set
  simp only [x_hasNumber, bind_s, bI_0, vin, nm_eq]
  grind
theorem okN_up {P K P' K' w n : Int} (h : okN P K w n) (h1 : P ≤ P') (h2 : K ≤ K') : okN P' K' w n := by
  unfold okN at *
  omega
theorem okV_up {P P' w v : Int} (h : okV P w v) (h1 : P ≤ P') : okV P' w v := by
  obtain ⟨a, b, c, d, e, f, g⟩ := h
  exact ⟨a, b, c, d, e, fun k => by have := f k; omega, g⟩
theorem RC_up {q q' : SS} (e53 : q'.1 53 = q.1 53) (e54 : q'.1 54 = q.1 54) (e55 : q'.1 55 = q.1 55) (e56 : q'.1 56 = q.1 56) (e69 : q'.1 69 = q.1 69) (e70 : q'.1 70 = q.1 70) (e71 : q'.1 71 = q.1 71) (e72 : q'.1 72 = q.1 72) (e52_5 : q'.1 52 5 = q.1 52 5) (e52_6 : q'.1 52 6 = q.1 52 6) (e60_1 : (q.1 60 1).toInt ≤ (q'.1 60 1).toInt) (e60_6 : (q.1 60 6).toInt ≤ (q'.1 60 6).toInt) (e60_11 : q'.1 60 11 = q.1 60 11) (e60_12 : q'.1 60 12 = q.1 60 12) (h : RC q) : RC q' := by
  unfold RC at h ⊢
  simp only [e53, e54, e55, e56, e69, e70, e71, e72, e52_5, e52_6, e60_11, e60_12]
  obtain ⟨h1, h2, h3, h4, h5, h6, h7, h8, h9, h10⟩ := h
  refine ⟨h1, h2, h3, h4, h5, h6, h7, h8, h9, fun j hj => ?_⟩
  have k := h10 j hj
  exact ⟨okN_up k.1 e60_1 e60_6, okV_up k.2.1 e60_1, okV_up k.2.2 e60_1⟩
theorem RD_up {q q' : SS} (e48 : q'.1 48 = q.1 48) (e49 : q'.1 49 = q.1 49) (e50 : q'.1 50 = q.1 50) (e51 : q'.1 51 = q.1 51) (e83 : q'.1 83 = q.1 83) (e84 : q'.1 84 = q.1 84) (e85 : q'.1 85 = q.1 85) (e86 : q'.1 86 = q.1 86) (e47_5 : q'.1 47 5 = q.1 47 5) (e47_6 : q'.1 47 6 = q.1 47 6) (e47_7 : q'.1 47 7 = q.1 47 7) (e60_1 : (q.1 60 1).toInt ≤ (q'.1 60 1).toInt) (e60_6 : (q.1 60 6).toInt ≤ (q'.1 60 6).toInt) (e60_46 : q'.1 60 46 = q.1 60 46) (e60_47 : q'.1 60 47 = q.1 60 47) (e60_48 : q'.1 60 48 = q.1 60 48) (h : RD q) : RD q' := by
  unfold RD at h ⊢
  simp only [e48, e49, e50, e51, e83, e84, e85, e86, e47_5, e47_6, e47_7, e60_46, e60_47, e60_48]
  obtain ⟨h1, h2, h3, h4, h5, h6, h7, h8, h9, h10, h11, h12, h13, h14⟩ := h
  refine ⟨h1, h2, h3, h4, h5, h6, h7, h8, h9, by omega, h11, h12, fun t ht => ?_, h14⟩
  have := h13 t ht
  omega
theorem cn_inc {a : Int32} : a.toNatClampNeg = a.toInt.toNat := rfl
theorem RY_person {q : SS} (h : RY q) {w : Int32} (hw : 0 ≤ w.toInt ∧ w.toInt ≤ 12) (hP : (q.1 60 1).toInt < 6) : RY (sI (sI (sI (sI (sI (sI (sI q 1 1 (q.1 60 1 + 1)) 3 (q.1 60 1).toNatClampNeg w) 61 (q.1 60 1).toNatClampNeg w) 62 (q.1 60 1).toNatClampNeg 0) 63 (q.1 60 1).toNatClampNeg 10) 64 (q.1 60 1).toNatClampNeg 0) 60 1 (q.1 60 1 + 1)) := by
  have h0 := RY_p0 h
  have e1 : (q.1 60 1 + 1).toInt = (q.1 60 1).toInt + 1 := inc1 (by omega) (by omega)
  generalize hn : q.1 60 1 + 1 = n at *
  have ec : ((q.1 60 1).toNatClampNeg : Int) = (q.1 60 1).toInt := by
    simp only [cn_eq]
    omega
  generalize hm : (q.1 60 1).toNatClampNeg = m at *
  have l0 : (0 : Int32).toInt = 0 := rfl
  have l10 : (10 : Int32).toInt = 10 := rfl
  unfold RY
  refine ⟨?_, ?_, ?_, ?_, ?_, ?_, ?_, ?_, ?_, ?_, ?_, ?_, ?_, ?_, ?_, ?_, ?_, ?_, ?_, ?_, ?_, ?_, ?_, ?_, ?_, ?_, ?_, ?_, ?_⟩
  · have a := RY_p0 h; simp [sI_rd] <;> first | omega | grind
  · have a := RY_p6 h; simp [sI_rd] <;> first | omega | grind
  · have a := RY_k0 h; exact a
  · have a := RY_k12 h; exact a
  · have a := RY_p h; simp [sI_rd] <;> first | omega | grind
  · have a := RY_k h; exact a
  · have a := RY_wary h; funext j; have a := congrFun a j; simp [sI_rd] <;> grind
  · have a := RY_child h; have b0 := RY_child0 h; funext j; have a := congrFun a j; simp [sI_rd] <;> grind
  · have a := RY_takes h; have b0 := RY_takes0 h; funext j; have a := congrFun a j; simp [sI_rd] <;> grind
  · have a := RY_holder h; exact a
  · have a := RY_forged h; exact a
  · have a := RY_folds h; exact a
  · have a := RY_hour h; exact a
  · have a := RY_seen h; exact a
  · have a := RY_price h; have b0 := RY_price10 h; intro i hi; simp [sI_rd] at hi ⊢ <;> (try split) <;> grind
  · have a := RY_price10 h; intro i hi hj; simp [sI_rd] at hi ⊢ <;> (try split) <;> grind
  · have a := RY_child0 h; intro i hi; simp [sI_rd] at hi ⊢ <;> (try split) <;> grind
  · have a := RY_takes0 h; intro i hi; simp [sI_rd] at hi ⊢ <;> (try split) <;> grind
  · have a := RY_rwary h; intro i hi; simp [sI_rd] at hi ⊢ <;> (try split) <;> grind
  · have a := RY_rchild h; intro i hi; simp [sI_rd] at hi ⊢ <;> (try split) <;> grind
  · have a := RY_rprice h; intro i hi; simp [sI_rd] at hi ⊢ <;> (try split) <;> grind
  · have a := RY_rtakes h; intro i hi; simp [sI_rd] at hi ⊢ <;> (try split) <;> grind
  · intro i hi; have a := RY_rholder h i hi; exact ⟨a.1, by have := a.2; simp [sI_rd]; omega⟩
  · have a := RY_rforged h; exact a
  · have a := RY_rfolds h; exact a
  · have a := RY_h0 h; exact a
  · have a := RY_h11 h; exact a
  · have a := RY_s0 h; exact a
  · have a := RY_s9 h; exact a

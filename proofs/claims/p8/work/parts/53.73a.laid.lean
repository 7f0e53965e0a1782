/-! ===== a line read, and how it is laid on either side ===== -/
def segAl (A W : Nat → Int32) (c : Nat) (A' W' : Nat → Int32) (s e : Int) : Prop := ∀ k : Nat, (k : Int) < e - s → al (A (c + k)) (W (c + k)) (A' (s.toNat + k)) (W' (s.toNat + k))
def lineAl (A W : Nat → Int32) (c c' : Nat) (A' W' : Nat → Int32) (s t e : Int) : Prop := (t = s ∧ segAl A W c A' W' s e ∧ A (c + (e - s).toNat) = 59 ∧ c' = c + (e - s).toNat + 1) ∨ (t ≠ s ∧ segAl A W c A' W' s t ∧ A (c + (t - s).toNat) = 63 ∧ segAl A W (c + (t - s).toNat + 1) A' W' t e ∧ A (c + (t - s).toNat + 1 + (e - t).toNat) = 59 ∧ c' = c + (t - s).toNat + 1 + (e - t).toNat + 1)
def sLo (q : SS) (l : Nat) : Int := if l = 0 then 0 else (q.1 78 (l - 1)).toInt
theorem xAd_20 (y : SS) (a w : Int32) (k : Nat) : (xAd y a w).1 20 k = if k = (y.1 19 4).toInt.toNat then a else y.1 20 k := by
  unfold xAd
  rw [sI_ro (by decide), sI_ro (by decide), sI_rd]
  simp
theorem xAd_21 (y : SS) (a w : Int32) (k : Nat) : (xAd y a w).1 21 k = if k = (y.1 19 4).toInt.toNat then w else y.1 21 k := by
  unfold xAd
  rw [sI_ro (by decide), sI_rd, sI_ro (by decide)]
  simp
theorem xAd_L (y : SS) (a w : Int32) : (xAd y a w).1 19 4 = y.1 19 4 + 1 := rfl
def LX (y z : SS) (m : Nat) (r s : SS) : Prop := (∀ k : Nat, (k : Int) < (y.1 19 4).toInt → r.1 20 k = y.1 20 k ∧ r.1 21 k = y.1 21 k) ∧ (∀ k : Nat, (k : Int) < 130 + (z.1 60 22).toInt → s.1 74 k = z.1 74 k ∧ s.1 75 k = z.1 75 k) ∧ (∀ l : Nat, l < m → s.1 77 (61 + l) = z.1 77 (61 + l) ∧ s.1 78 (61 + l) = z.1 78 (61 + l)) ∧ lineAl (r.1 20) (r.1 21) (y.1 19 4).toInt.toNat (r.1 19 4).toInt.toNat (s.1 74) (s.1 75) (130 + (z.1 60 22).toInt) (130 + (s.1 77 (61 + m)).toInt) (130 + (s.1 60 22).toInt) ∧ 0 < (r.1 19 4).toInt ∧ (r.1 19 4).toInt ≤ 121
theorem LX_one {y z y1 r3 : SS} {m : Nat} {x0 u v o : Int32} {c : Int} {d : Nat} (l0 : 0 ≤ (y.1 19 4).toInt) (l1 : (y1.1 19 4).toInt ≤ 120) (hS : SG o c d (sI z 77 (61 + m) x0) r3) (hP : PM y (sI z 77 (61 + m) x0) y1 r3) (hx : x0.toInt = (z.1 60 22).toInt) : LX y z m (xAd y1 59 0) (sI (sI r3 78 (61 + m) u) 76 1 v) := by
  obtain ⟨_, p2, p3, p4, p5⟩ := hP
  have p2' : (y1.1 19 4).toInt - (y.1 19 4).toInt = (r3.1 60 22).toInt - (z.1 60 22).toInt := p2
  have p3' : 0 ≤ (r3.1 60 22).toInt - (z.1 60 22).toInt := p3
  have i := inc1 (a := y1.1 19 4) (by omega) (by omega)
  have r77 : r3.1 77 = (sI z 77 (61 + m) x0).1 77 := by
    have a := Fr_r hS.1 (k := 77) (fun _ => rfl)
    exact a
  have r78 : r3.1 78 = z.1 78 := by
    have a := Fr_r hS.1 (k := 78) (fun _ => rfl)
    exact a
  refine ⟨fun k hk => ?_, hS.2.2.2.1, fun l hl => ⟨?_, ?_⟩, Or.inl ⟨?_, fun k hk => ?_, ?_, ?_⟩, ?_, ?_⟩
  · rw [xAd_20, xAd_21, if_neg (by omega), if_neg (by omega)]
    exact p4 k hk
  · show r3.1 77 (61 + l) = _
    rw [r77, sI_rd, if_neg (fun h => by have := h.2; omega)]
  · rw [sI_ro (by decide), sI_rd, if_neg (fun h => by have := h.2; omega), r78]
  · show 130 + (r3.1 77 (61 + m)).toInt = 130 + (z.1 60 22).toInt
    rw [r77, sI_rd, if_pos ⟨rfl, rfl⟩, hx]
  · have hk' : (k : Int) < (r3.1 60 22).toInt - (z.1 60 22).toInt := by
      have : (k : Int) < 130 + (r3.1 60 22).toInt - (130 + (z.1 60 22).toInt) := hk
      omega
    rw [xAd_20, xAd_21, if_neg (by omega), if_neg (by omega)]
    exact p5 k hk'
  · show (xAd y1 59 0).1 20 ((y.1 19 4).toInt.toNat + (130 + (r3.1 60 22).toInt - (130 + (z.1 60 22).toInt)).toNat) = 59
    rw [xAd_20, if_pos (by omega)]
  · show ((xAd y1 59 0).1 19 4).toInt.toNat = (y.1 19 4).toInt.toNat + (130 + (r3.1 60 22).toInt - (130 + (z.1 60 22).toInt)).toNat + 1
    rw [xAd_L, i]
    omega
  · rw [xAd_L, i]; omega
  · rw [xAd_L, i]; omega
theorem LX_two {y z y1 r3 y6 r9 : SS} {m : Nat} {x0 x1 u v w w' o o2 : Int32} {c c2 : Int} {d d2 : Nat} (l0 : 0 ≤ (y.1 19 4).toInt) (l1 : (y1.1 19 4).toInt ≤ 119) (l6 : (y6.1 19 4).toInt ≤ 120) (hz : 0 ≤ (z.1 60 22).toInt) (hS : SG o c d (sI z 77 (61 + m) x0) r3) (hP : PM y (sI z 77 (61 + m) x0) y1 r3) (hlt : (z.1 60 22).toInt < (r3.1 60 22).toInt) (hS9 : SG o2 c2 d2 (sI (sI r3 60 19 w') 77 (61 + m) x1) r9) (hP9 : PM (xAd (sI y1 17 3 w) 63 0) (sI (sI r3 60 19 w') 77 (61 + m) x1) y6 r9) (hx : x1.toInt = (r3.1 60 22).toInt) : LX y z m (xAd y6 59 0) (sI (sI r9 78 (61 + m) u) 76 1 v) := by
  obtain ⟨_, p2, p3, p4, p5⟩ := hP
  obtain ⟨_, q2, q3, q4, q5⟩ := hP9
  have p2' : (y1.1 19 4).toInt - (y.1 19 4).toInt = (r3.1 60 22).toInt - (z.1 60 22).toInt := p2
  have p3' : 0 ≤ (r3.1 60 22).toInt - (z.1 60 22).toInt := p3
  have i1 := inc1 (a := y1.1 19 4) (by omega) (by omega)
  have q2' : (y6.1 19 4).toInt - (y1.1 19 4 + 1).toInt = (r9.1 60 22).toInt - (r3.1 60 22).toInt := q2
  have q3' : 0 ≤ (r9.1 60 22).toInt - (r3.1 60 22).toInt := q3
  have i6 := inc1 (a := y6.1 19 4) (by omega) (by omega)
  have q4' : ∀ k : Nat, (k : Int) < (y1.1 19 4).toInt + 1 → y6.1 20 k = (xAd (sI y1 17 3 w) 63 0).1 20 k ∧ y6.1 21 k = (xAd (sI y1 17 3 w) 63 0).1 21 k := fun k hk => q4 k (by show (k : Int) < (y1.1 19 4 + 1).toInt; omega)
  have lo : ∀ k : Nat, (k : Int) < (y1.1 19 4).toInt → y6.1 20 k = y1.1 20 k ∧ y6.1 21 k = y1.1 21 k := fun k hk => by
    have a := q4' k (by omega)
    rw [xAd_20, xAd_21] at a
    have n : ¬ k = ((sI y1 17 3 w).1 19 4).toInt.toNat := by
      show ¬ k = (y1.1 19 4).toInt.toNat
      omega
    rw [if_neg n, if_neg n] at a
    exact a
  have at63 : y6.1 20 (y1.1 19 4).toInt.toNat = 63 := by
    have a := (q4' (y1.1 19 4).toInt.toNat (by omega)).1
    rw [xAd_20] at a
    have n : (y1.1 19 4).toInt.toNat = ((sI y1 17 3 w).1 19 4).toInt.toNat := rfl
    rw [if_pos n] at a
    exact a
  have s74 : ∀ k : Nat, (k : Int) < 130 + (r3.1 60 22).toInt → r9.1 74 k = r3.1 74 k ∧ r9.1 75 k = r3.1 75 k := hS9.2.2.2.1
  have r77 : r9.1 77 = (sI (sI r3 60 19 w') 77 (61 + m) x1).1 77 := by
    have a := Fr_r hS9.1 (k := 77) (fun _ => rfl)
    exact a
  have r77' : r3.1 77 = (sI z 77 (61 + m) x0).1 77 := by
    have a := Fr_r hS.1 (k := 77) (fun _ => rfl)
    exact a
  have r78 : r9.1 78 = z.1 78 := by
    have a := Fr_r hS9.1 (k := 78) (fun _ => rfl)
    have b := Fr_r hS.1 (k := 78) (fun _ => rfl)
    have a' : r9.1 78 = r3.1 78 := a
    exact a'.trans b
  have tt : (r9.1 77 (61 + m)).toInt = (r3.1 60 22).toInt := by
    rw [r77, sI_rd, if_pos ⟨rfl, rfl⟩, hx]
  refine ⟨fun k hk => ?_, fun k hk => ?_, fun l hl => ⟨?_, ?_⟩, Or.inr ⟨?_, fun k hk => ?_, ?_, fun k hk => ?_, ?_, ?_⟩, ?_, ?_⟩
  · have a := lo k (by omega)
    have b := p4 k hk
    rw [xAd_20, xAd_21, if_neg (by omega), if_neg (by omega)]
    exact ⟨a.1.trans b.1, a.2.trans b.2⟩
  · have a := s74 k (by omega)
    have b := hS.2.2.2.1 k hk
    exact ⟨a.1.trans b.1, a.2.trans b.2⟩
  · show r9.1 77 (61 + l) = _
    rw [r77, sI_rd, if_neg (fun h => by have := h.2; omega)]
    show r3.1 77 (61 + l) = _
    rw [r77', sI_rd, if_neg (fun h => by have := h.2; omega)]
  · rw [sI_ro (by decide), sI_rd, if_neg (fun h => by have := h.2; omega), r78]
  · show 130 + (r9.1 77 (61 + m)).toInt ≠ 130 + (z.1 60 22).toInt
    rw [tt]
    omega
  · have hk' : (k : Int) < (r3.1 60 22).toInt - (z.1 60 22).toInt := by
      have : (k : Int) < 130 + (r9.1 77 (61 + m)).toInt - (130 + (z.1 60 22).toInt) := hk
      rw [tt] at this
      omega
    have a := lo ((y.1 19 4).toInt.toNat + k) (by omega)
    have b := s74 ((130 + (z.1 60 22).toInt).toNat + k) (by omega)
    rw [xAd_20, xAd_21, if_neg (by omega), if_neg (by omega), a.1, a.2]
    show al _ _ (r9.1 74 ((130 + (z.1 60 22).toInt).toNat + k)) (r9.1 75 ((130 + (z.1 60 22).toInt).toNat + k))
    rw [b.1, b.2]
    exact p5 k hk'
  · show (xAd y6 59 0).1 20 ((y.1 19 4).toInt.toNat + (130 + (r9.1 77 (61 + m)).toInt - (130 + (z.1 60 22).toInt)).toNat) = 63
    rw [tt, xAd_20, if_neg (by omega), show (y.1 19 4).toInt.toNat + (130 + (r3.1 60 22).toInt - (130 + (z.1 60 22).toInt)).toNat = (y1.1 19 4).toInt.toNat by omega]
    exact at63
  · have hk' : (k : Int) < (r9.1 60 22).toInt - (r3.1 60 22).toInt := by
      have : (k : Int) < 130 + (r9.1 60 22).toInt - (130 + (r9.1 77 (61 + m)).toInt) := hk
      rw [tt] at this
      omega
    have a := q5 k hk'
    have e1 : ((xAd (sI y1 17 3 w) 63 0).1 19 4).toInt.toNat = (y.1 19 4).toInt.toNat + (130 + (r9.1 77 (61 + m)).toInt - (130 + (z.1 60 22).toInt)).toNat + 1 := by
      show (y1.1 19 4 + 1).toInt.toNat = _
      rw [tt, i1]
      omega
    rw [e1] at a
    have e2 : (130 + (r9.1 77 (61 + m)).toInt).toNat = (130 + (r3.1 60 22).toInt).toNat := by rw [tt]
    have n : ¬ (y.1 19 4).toInt.toNat + (130 + (r9.1 77 (61 + m)).toInt - (130 + (z.1 60 22).toInt)).toNat + 1 + k = (y6.1 19 4).toInt.toNat := by
      rw [tt]
      omega
    show al ((xAd y6 59 0).1 20 ((y.1 19 4).toInt.toNat + (130 + (r9.1 77 (61 + m)).toInt - (130 + (z.1 60 22).toInt)).toNat + 1 + k)) ((xAd y6 59 0).1 21 ((y.1 19 4).toInt.toNat + (130 + (r9.1 77 (61 + m)).toInt - (130 + (z.1 60 22).toInt)).toNat + 1 + k)) (r9.1 74 ((130 + (r9.1 77 (61 + m)).toInt).toNat + k)) (r9.1 75 ((130 + (r9.1 77 (61 + m)).toInt).toNat + k))
    rw [xAd_20, xAd_21, if_neg n, if_neg n, e2]
    exact a
  · show (xAd y6 59 0).1 20 ((y.1 19 4).toInt.toNat + (130 + (r9.1 77 (61 + m)).toInt - (130 + (z.1 60 22).toInt)).toNat + 1 + (130 + (r9.1 60 22).toInt - (130 + (r9.1 77 (61 + m)).toInt)).toNat) = 59
    rw [tt, xAd_20, if_pos (by omega)]
  · show ((xAd y6 59 0).1 19 4).toInt.toNat = (y.1 19 4).toInt.toNat + (130 + (r9.1 77 (61 + m)).toInt - (130 + (z.1 60 22).toInt)).toNat + 1 + (130 + (r9.1 60 22).toInt - (130 + (r9.1 77 (61 + m)).toInt)).toNat + 1
    rw [tt, xAd_L, i6]
    omega
  · rw [xAd_L, i6]; omega
  · rw [xAd_L, i6]; omega

/-! ===== steps laid on either side ===== -/
def al (a w a' w' : Int32) : Prop := w' = w ∧ ((a = 110 ∧ a' = 2) ∨ (a = 48 ∧ a' = 1) ∨ (a = 33 ∧ a' = 3) ∨ (a = 126 ∧ a' = 4) ∨ (a' = a ∧ 1 ≤ (lvc a).toInt))
def PM (y z y' s : SS) : Prop := y'.1 17 3 = s.1 60 19 ∧ (y'.1 19 4).toInt - (y.1 19 4).toInt = (s.1 60 22).toInt - (z.1 60 22).toInt ∧ 0 ≤ (s.1 60 22).toInt - (z.1 60 22).toInt ∧ (∀ k : Nat, (k : Int) < (y.1 19 4).toInt → y'.1 20 k = y.1 20 k ∧ y'.1 21 k = y.1 21 k) ∧ (∀ k : Nat, (k : Int) < (s.1 60 22).toInt - (z.1 60 22).toInt → al (y'.1 20 ((y.1 19 4).toInt.toNat + k)) (y'.1 21 ((y.1 19 4).toInt.toNat + k)) (s.1 74 ((130 + (z.1 60 22).toInt).toNat + k)) (s.1 75 ((130 + (z.1 60 22).toInt).toNat + k)))
theorem PM_refl {y z : SS} (h : y.1 17 3 = z.1 60 19) : PM y z y z := ⟨h, by omega, by omega, fun _ _ => ⟨rfl, rfl⟩, fun k hk => absurd hk (by omega)⟩
theorem PM_pos {y z y' s : SS} (h : PM y z y' s) : PM y z (sI y' 17 3 (y'.1 17 3 + 1)) (sI s 60 19 (s.1 60 19 + 1)) := ⟨congrArg (· + 1) h.1, h.2⟩
theorem PM_tr {y z y1 z1 y2 z2 : SS} (hl : 0 ≤ (y.1 19 4).toInt) (hz : 0 ≤ (z.1 60 22).toInt) (h : PM y z y1 z1) (c : ∀ k : Nat, (k : Int) < 130 + (z1.1 60 22).toInt → z2.1 74 k = z1.1 74 k ∧ z2.1 75 k = z1.1 75 k) (g : PM y1 z1 y2 z2) : PM y z y2 z2 := by
  obtain ⟨h1, h2, h3, h4, h5⟩ := h
  obtain ⟨g1, g2, g3, g4, g5⟩ := g
  refine ⟨g1, by omega, by omega, fun k hk => ?_, fun k hk => ?_⟩
  · have a := g4 k (by omega)
    have b := h4 k hk
    exact ⟨a.1.trans b.1, a.2.trans b.2⟩
  · by_cases x : (k : Int) < (z1.1 60 22).toInt - (z.1 60 22).toInt
    · have a := g4 ((y.1 19 4).toInt.toNat + k) (by omega)
      have b := c ((130 + (z.1 60 22).toInt).toNat + k) (by omega)
      rw [a.1, a.2, b.1, b.2]
      exact h5 k x
    · have a := g5 (k - ((z1.1 60 22).toInt - (z.1 60 22).toInt).toNat) (by omega)
      have e1 : (y1.1 19 4).toInt.toNat + (k - ((z1.1 60 22).toInt - (z.1 60 22).toInt).toNat) = (y.1 19 4).toInt.toNat + k := by omega
      have e2 : (130 + (z1.1 60 22).toInt).toNat + (k - ((z1.1 60 22).toInt - (z.1 60 22).toInt).toNat) = (130 + (z.1 60 22).toInt).toNat + k := by omega
      rw [e1, e2] at a
      exact a
def xAd (y : SS) (a w : Int32) : SS := sI (sI (sI y 20 (y.1 19 4).toInt.toNat a) 21 (y.1 19 4).toInt.toNat w) 19 4 (y.1 19 4 + 1)
def mAd (z : SS) (a w : Int32) : SS := sI (sI (sI z 74 (130 + (z.1 60 22).toInt).toNat (a.toInt8.toInt32)) 75 (130 + (z.1 60 22).toInt).toNat w) 60 22 (z.1 60 22 + 1)
theorem x_addE {y : SS} (a w : Int32) (h0 : 0 ≤ (y.1 19 4).toInt) (h : (y.1 19 4).toInt < 121) : f_X4_addStep y a w = some (xAd y a w) := by
  have l121 : (121 : Int32).toInt = 121 := rfl
  unfold f_X4_addStep
  rw [if_neg (by rw [Int32.le_iff_toInt_le, l121]; omega), if_pos ⟨h0, h⟩]
  show (if vin (y.1 19 4) 121 then _ else none) = _
  rw [if_pos ⟨h0, h⟩]
  rfl
theorem m_addE {z : SS} (a w : Int32) (h0 : 0 ≤ (z.1 60 22).toInt) (h : (z.1 60 22).toInt < 130) : f_X12_addStep z a w = some (mAd z a w) := by
  have l130 : (130 : Int32).toInt = 130 := rfl
  have ad : ((130 : Int32) + z.1 60 22).toInt = 130 + (z.1 60 22).toInt := by rw [tadd (by omega) (by omega), l130]
  have ix : ((130 : Int32) + z.1 60 22).toNatClampNeg = (130 + (z.1 60 22).toInt).toNat := congrArg Int.toNat ad
  unfold f_X12_addStep
  rw [n8, if_pos ⟨by omega, by omega⟩]
  show (if vin ((130 : Int32) + z.1 60 22) 260 then nm (sI (sI z 74 ((130 : Int32) + z.1 60 22).toNatClampNeg (a.toInt8.toInt32)) 75 ((130 : Int32) + z.1 60 22).toNatClampNeg w) fun q2 => nm (sI q2 60 22 ((q2.1 60 22) + (1 : Int32))) fun q3 => some q3 else none) = _
  rw [if_pos ⟨by omega, by omega⟩, ix]
  rfl
theorem PM_add {y z y' s : SS} {a w a' w' : Int32} (hl : 0 ≤ (y.1 19 4).toInt) (hl2 : (y.1 19 4).toInt ≤ 121) (hz : 0 ≤ (z.1 60 22).toInt) (hz2 : (z.1 60 22).toInt ≤ 130) (hs : (s.1 60 22).toInt < 130) (h : PM y z y' s) (e : al a w (a'.toInt8.toInt32) w') : PM y z (xAd y' a w) (mAd s a' w') := by
  obtain ⟨h1, h2, h3, h4, h5⟩ := h
  have i1 := inc1 (a := y'.1 19 4) (by omega) (by omega)
  have i2 := inc1 (a := s.1 60 22) (by omega) (by omega)
  have rL : (xAd y' a w).1 19 4 = y'.1 19 4 + 1 := rfl
  have rD : (mAd s a' w').1 60 22 = s.1 60 22 + 1 := rfl
  have x20 : ∀ k : Nat, (xAd y' a w).1 20 k = if k = (y'.1 19 4).toInt.toNat then a else y'.1 20 k := fun k => by
    unfold xAd
    rw [sI_ro (by decide), sI_ro (by decide), sI_rd]
    simp
  have x21 : ∀ k : Nat, (xAd y' a w).1 21 k = if k = (y'.1 19 4).toInt.toNat then w else y'.1 21 k := fun k => by
    unfold xAd
    rw [sI_ro (by decide), sI_rd, sI_ro (by decide)]
    simp
  have m74 : ∀ k : Nat, (mAd s a' w').1 74 k = if k = (130 + (s.1 60 22).toInt).toNat then a'.toInt8.toInt32 else s.1 74 k := fun k => by
    unfold mAd
    rw [sI_ro (by decide), sI_ro (by decide), sI_rd]
    simp
  have m75 : ∀ k : Nat, (mAd s a' w').1 75 k = if k = (130 + (s.1 60 22).toInt).toNat then w' else s.1 75 k := fun k => by
    unfold mAd
    rw [sI_ro (by decide), sI_rd, sI_ro (by decide)]
    simp
  refine ⟨h1, by rw [rL, rD, i1, i2]; omega, by rw [rD, i2]; omega, fun k hk => ?_, fun k hk => ?_⟩
  · rw [x20, x21, if_neg (by omega), if_neg (by omega)]
    exact h4 k hk
  · rw [rD, i2] at hk
    rw [x20, x21, m74, m75]
    by_cases x : (k : Int) < (s.1 60 22).toInt - (z.1 60 22).toInt
    · rw [if_neg (by omega), if_neg (by omega), if_neg (by omega), if_neg (by omega)]
      exact h5 k x
    · rw [if_pos (by omega), if_pos (by omega), if_pos (by omega), if_pos (by omega)]
      exact e
/-- both stand at the start of a piece -/
def AQ (q y z : SS) : Prop := XL q y ∧ z.1 73 = q.1 73 ∧ z.1 60 18 = q.1 60 18 ∧ EN z ∧ y.1 17 3 = z.1 60 19 ∧ (y.1 19 4).toInt ≤ (z.1 60 19).toInt
/-- what a piece leaves: both read on, or both refuse at the same byte -/
def RQ (q y z : SS) (r : Int32 × SS) (s : SS) : Prop := (s.1 60 20 = -1 ∧ r.1 = 1 ∧ PM y z r.2 s) ∨ (0 ≤ (s.1 60 20).toInt ∧ r.2.1 17 3 = s.1 60 20 ∧ (r.1 = 0 ∨ (r.1 = 1 ∧ dig (CH q (s.1 60 20).toInt))))

/-! ===== a line read, and how it is laid on either side ===== -/
def segAl (A W : Nat → Int32) (c : Nat) (A' W' : Nat → Int32) (s e : Int) : Prop := ∀ k : Nat, (k : Int) < e - s → al (A (c + k)) (W (c + k)) (A' (s.toNat + k)) (W' (s.toNat + k))
def lineAl (A W : Nat → Int32) (c c' : Nat) (A' W' : Nat → Int32) (s t e : Int) : Prop := (t = s ∧ segAl A W c A' W' s e ∧ A (c + (e - s).toNat) = 59 ∧ c' = c + (e - s).toNat + 1) ∨ (t ≠ s ∧ segAl A W c A' W' s t ∧ A (c + (t - s).toNat) = 63 ∧ segAl A W (c + (t - s).toNat + 1) A' W' t e ∧ A (c + (t - s).toNat + 1 + (e - t).toNat) = 59 ∧ c' = c + (t - s).toNat + 1 + (e - t).toNat + 1)
def sLo (q : SS) (l : Nat) : Int := if l = 0 then 0 else (q.1 78 (l - 1)).toInt
theorem xAd_20 (y : SS) (a w : Int32) (k : Nat) : (xAd y a w).1 20 k = if k = (y.1 19 4).toInt.toNat then a else y.1 20 k := by
  unfold xAd
  rw [sI_ro (by decide), sI_ro (by decide), sI_rd]
  simp
theorem xAd_21 (y : SS) (a w : Int32) (k : Nat) : (xAd y a w).1 21 k = if k = (y.1 19 4).toInt.toNat then w else y.1 21 k := by
  unfold xAd
  rw [sI_ro (by decide), sI_rd, sI_ro (by decide)]
  simp
theorem xAd_L (y : SS) (a w : Int32) : (xAd y a w).1 19 4 = y.1 19 4 + 1 := rfl
def LX (y z : SS) (m : Nat) (r s : SS) : Prop := (∀ k : Nat, (k : Int) < (y.1 19 4).toInt → r.1 20 k = y.1 20 k ∧ r.1 21 k = y.1 21 k) ∧ (∀ k : Nat, (k : Int) < 130 + (z.1 60 22).toInt → s.1 74 k = z.1 74 k ∧ s.1 75 k = z.1 75 k) ∧ (∀ l : Nat, l < m → s.1 77 (61 + l) = z.1 77 (61 + l) ∧ s.1 78 (61 + l) = z.1 78 (61 + l)) ∧ lineAl (r.1 20) (r.1 21) (y.1 19 4).toInt.toNat (r.1 19 4).toInt.toNat (s.1 74) (s.1 75) (130 + (z.1 60 22).toInt) (130 + (s.1 77 (61 + m)).toInt) (130 + (s.1 60 22).toInt) ∧ 0 < (r.1 19 4).toInt ∧ (r.1 19 4).toInt ≤ 121
theorem LX_one {y z y1 r3 : SS} {m : Nat} {x0 u v o : Int32} {c : Int} {d : Nat} (l0 : 0 ≤ (y.1 19 4).toInt) (l1 : (y1.1 19 4).toInt ≤ 120) (hS : SG o c d (sI z 77 (61 + m) x0) r3) (hP : PM y (sI z 77 (61 + m) x0) y1 r3) (hx : x0.toInt = (z.1 60 22).toInt) : LX y z m (xAd y1 59 0) (sI (sI r3 78 (61 + m) u) 76 1 v) := by
  obtain ⟨_, p2, p3, p4, p5⟩ := hP
  have p2' : (y1.1 19 4).toInt - (y.1 19 4).toInt = (r3.1 60 22).toInt - (z.1 60 22).toInt := p2
  have p3' : 0 ≤ (r3.1 60 22).toInt - (z.1 60 22).toInt := p3
  have i := inc1 (a := y1.1 19 4) (by omega) (by omega)
  have r77 : r3.1 77 = (sI z 77 (61 + m) x0).1 77 := by
    have a := Fr_r hS.1 (k := 77) (fun _ => rfl)
    exact a
  have r78 : r3.1 78 = z.1 78 := by
    have a := Fr_r hS.1 (k := 78) (fun _ => rfl)
    exact a
  refine ⟨fun k hk => ?_, hS.2.2.2.1, fun l hl => ⟨?_, ?_⟩, Or.inl ⟨?_, fun k hk => ?_, ?_, ?_⟩, ?_, ?_⟩
  · rw [xAd_20, xAd_21, if_neg (by omega), if_neg (by omega)]
    exact p4 k hk
  · show r3.1 77 (61 + l) = _
    rw [r77, sI_rd, if_neg (fun h => by have := h.2; omega)]
  · rw [sI_ro (by decide), sI_rd, if_neg (fun h => by have := h.2; omega), r78]
  · show 130 + (r3.1 77 (61 + m)).toInt = 130 + (z.1 60 22).toInt
    rw [r77, sI_rd, if_pos ⟨rfl, rfl⟩, hx]
  · have hk' : (k : Int) < (r3.1 60 22).toInt - (z.1 60 22).toInt := by
      have : (k : Int) < 130 + (r3.1 60 22).toInt - (130 + (z.1 60 22).toInt) := hk
      omega
    rw [xAd_20, xAd_21, if_neg (by omega), if_neg (by omega)]
    exact p5 k hk'
  · show (xAd y1 59 0).1 20 ((y.1 19 4).toInt.toNat + (130 + (r3.1 60 22).toInt - (130 + (z.1 60 22).toInt)).toNat) = 59
    rw [xAd_20, if_pos (by omega)]
  · show ((xAd y1 59 0).1 19 4).toInt.toNat = (y.1 19 4).toInt.toNat + (130 + (r3.1 60 22).toInt - (130 + (z.1 60 22).toInt)).toNat + 1
    rw [xAd_L, i]
    omega
  · rw [xAd_L, i]; omega
  · rw [xAd_L, i]; omega
theorem LX_two {y z y1 r3 y6 r9 : SS} {m : Nat} {x0 x1 u v w w' o o2 : Int32} {c c2 : Int} {d d2 : Nat} (l0 : 0 ≤ (y.1 19 4).toInt) (l1 : (y1.1 19 4).toInt ≤ 119) (l6 : (y6.1 19 4).toInt ≤ 120) (hz : 0 ≤ (z.1 60 22).toInt) (hS : SG o c d (sI z 77 (61 + m) x0) r3) (hP : PM y (sI z 77 (61 + m) x0) y1 r3) (hlt : (z.1 60 22).toInt < (r3.1 60 22).toInt) (hS9 : SG o2 c2 d2 (sI (sI r3 60 19 w') 77 (61 + m) x1) r9) (hP9 : PM (xAd (sI y1 17 3 w) 63 0) (sI (sI r3 60 19 w') 77 (61 + m) x1) y6 r9) (hx : x1.toInt = (r3.1 60 22).toInt) : LX y z m (xAd y6 59 0) (sI (sI r9 78 (61 + m) u) 76 1 v) := by
  obtain ⟨_, p2, p3, p4, p5⟩ := hP
  obtain ⟨_, q2, q3, q4, q5⟩ := hP9
  have p2' : (y1.1 19 4).toInt - (y.1 19 4).toInt = (r3.1 60 22).toInt - (z.1 60 22).toInt := p2
  have p3' : 0 ≤ (r3.1 60 22).toInt - (z.1 60 22).toInt := p3
  have i1 := inc1 (a := y1.1 19 4) (by omega) (by omega)
  have q2' : (y6.1 19 4).toInt - (y1.1 19 4 + 1).toInt = (r9.1 60 22).toInt - (r3.1 60 22).toInt := q2
  have q3' : 0 ≤ (r9.1 60 22).toInt - (r3.1 60 22).toInt := q3
  have i6 := inc1 (a := y6.1 19 4) (by omega) (by omega)
  have q4' : ∀ k : Nat, (k : Int) < (y1.1 19 4).toInt + 1 → y6.1 20 k = (xAd (sI y1 17 3 w) 63 0).1 20 k ∧ y6.1 21 k = (xAd (sI y1 17 3 w) 63 0).1 21 k := fun k hk => q4 k (by show (k : Int) < (y1.1 19 4 + 1).toInt; omega)
  have lo : ∀ k : Nat, (k : Int) < (y1.1 19 4).toInt → y6.1 20 k = y1.1 20 k ∧ y6.1 21 k = y1.1 21 k := fun k hk => by
    have a := q4' k (by omega)
    rw [xAd_20, xAd_21] at a
    have n : ¬ k = ((sI y1 17 3 w).1 19 4).toInt.toNat := by
      show ¬ k = (y1.1 19 4).toInt.toNat
      omega
    rw [if_neg n, if_neg n] at a
    exact a
  have at63 : y6.1 20 (y1.1 19 4).toInt.toNat = 63 := by
    have a := (q4' (y1.1 19 4).toInt.toNat (by omega)).1
    rw [xAd_20] at a
    have n : (y1.1 19 4).toInt.toNat = ((sI y1 17 3 w).1 19 4).toInt.toNat := rfl
    rw [if_pos n] at a
    exact a
  have s74 : ∀ k : Nat, (k : Int) < 130 + (r3.1 60 22).toInt → r9.1 74 k = r3.1 74 k ∧ r9.1 75 k = r3.1 75 k := hS9.2.2.2.1
  have r77 : r9.1 77 = (sI (sI r3 60 19 w') 77 (61 + m) x1).1 77 := by
    have a := Fr_r hS9.1 (k := 77) (fun _ => rfl)
    exact a
  have r77' : r3.1 77 = (sI z 77 (61 + m) x0).1 77 := by
    have a := Fr_r hS.1 (k := 77) (fun _ => rfl)
    exact a
  have r78 : r9.1 78 = z.1 78 := by
    have a := Fr_r hS9.1 (k := 78) (fun _ => rfl)
    have b := Fr_r hS.1 (k := 78) (fun _ => rfl)
    have a' : r9.1 78 = r3.1 78 := a
    exact a'.trans b
  have tt : (r9.1 77 (61 + m)).toInt = (r3.1 60 22).toInt := by
    rw [r77, sI_rd, if_pos ⟨rfl, rfl⟩, hx]
  refine ⟨fun k hk => ?_, fun k hk => ?_, fun l hl => ⟨?_, ?_⟩, Or.inr ⟨?_, fun k hk => ?_, ?_, fun k hk => ?_, ?_, ?_⟩, ?_, ?_⟩
  · have a := lo k (by omega)
    have b := p4 k hk
    rw [xAd_20, xAd_21, if_neg (by omega), if_neg (by omega)]
    exact ⟨a.1.trans b.1, a.2.trans b.2⟩
  · have a := s74 k (by omega)
    have b := hS.2.2.2.1 k hk
    exact ⟨a.1.trans b.1, a.2.trans b.2⟩
  · show r9.1 77 (61 + l) = _
    rw [r77, sI_rd, if_neg (fun h => by have := h.2; omega)]
    show r3.1 77 (61 + l) = _
    rw [r77', sI_rd, if_neg (fun h => by have := h.2; omega)]
  · rw [sI_ro (by decide), sI_rd, if_neg (fun h => by have := h.2; omega), r78]
  · show 130 + (r9.1 77 (61 + m)).toInt ≠ 130 + (z.1 60 22).toInt
    rw [tt]
    omega
  · have hk' : (k : Int) < (r3.1 60 22).toInt - (z.1 60 22).toInt := by
      have : (k : Int) < 130 + (r9.1 77 (61 + m)).toInt - (130 + (z.1 60 22).toInt) := hk
      rw [tt] at this
      omega
    have a := lo ((y.1 19 4).toInt.toNat + k) (by omega)
    have b := s74 ((130 + (z.1 60 22).toInt).toNat + k) (by omega)
    rw [xAd_20, xAd_21, if_neg (by omega), if_neg (by omega), a.1, a.2]
    show al _ _ (r9.1 74 ((130 + (z.1 60 22).toInt).toNat + k)) (r9.1 75 ((130 + (z.1 60 22).toInt).toNat + k))
    rw [b.1, b.2]
    exact p5 k hk'
  · show (xAd y6 59 0).1 20 ((y.1 19 4).toInt.toNat + (130 + (r9.1 77 (61 + m)).toInt - (130 + (z.1 60 22).toInt)).toNat) = 63
    rw [tt, xAd_20, if_neg (by omega), show (y.1 19 4).toInt.toNat + (130 + (r3.1 60 22).toInt - (130 + (z.1 60 22).toInt)).toNat = (y1.1 19 4).toInt.toNat by omega]
    exact at63
  · have hk' : (k : Int) < (r9.1 60 22).toInt - (r3.1 60 22).toInt := by
      have : (k : Int) < 130 + (r9.1 60 22).toInt - (130 + (r9.1 77 (61 + m)).toInt) := hk
      rw [tt] at this
      omega
    have a := q5 k hk'
    have e1 : ((xAd (sI y1 17 3 w) 63 0).1 19 4).toInt.toNat = (y.1 19 4).toInt.toNat + (130 + (r9.1 77 (61 + m)).toInt - (130 + (z.1 60 22).toInt)).toNat + 1 := by
      show (y1.1 19 4 + 1).toInt.toNat = _
      rw [tt, i1]
      omega
    rw [e1] at a
    have e2 : (130 + (r9.1 77 (61 + m)).toInt).toNat = (130 + (r3.1 60 22).toInt).toNat := by rw [tt]
    have n : ¬ (y.1 19 4).toInt.toNat + (130 + (r9.1 77 (61 + m)).toInt - (130 + (z.1 60 22).toInt)).toNat + 1 + k = (y6.1 19 4).toInt.toNat := by
      rw [tt]
      omega
    show al ((xAd y6 59 0).1 20 ((y.1 19 4).toInt.toNat + (130 + (r9.1 77 (61 + m)).toInt - (130 + (z.1 60 22).toInt)).toNat + 1 + k)) ((xAd y6 59 0).1 21 ((y.1 19 4).toInt.toNat + (130 + (r9.1 77 (61 + m)).toInt - (130 + (z.1 60 22).toInt)).toNat + 1 + k)) (r9.1 74 ((130 + (r9.1 77 (61 + m)).toInt).toNat + k)) (r9.1 75 ((130 + (r9.1 77 (61 + m)).toInt).toNat + k))
    rw [xAd_20, xAd_21, if_neg n, if_neg n, e2]
    exact a
  · show (xAd y6 59 0).1 20 ((y.1 19 4).toInt.toNat + (130 + (r9.1 77 (61 + m)).toInt - (130 + (z.1 60 22).toInt)).toNat + 1 + (130 + (r9.1 60 22).toInt - (130 + (r9.1 77 (61 + m)).toInt)).toNat) = 59
    rw [tt, xAd_20, if_pos (by omega)]
  · show ((xAd y6 59 0).1 19 4).toInt.toNat = (y.1 19 4).toInt.toNat + (130 + (r9.1 77 (61 + m)).toInt - (130 + (z.1 60 22).toInt)).toNat + 1 + (130 + (r9.1 60 22).toInt - (130 + (r9.1 77 (61 + m)).toInt)).toNat + 1
    rw [tt, xAd_L, i6]
    omega
  · rw [xAd_L, i6]; omega
  · rw [xAd_L, i6]; omega
/-! ===== a line on either side, and what is laid ===== -/
theorem l47x {q y : SS} (hX : XL q y) (hl : (y.1 19 4).toInt ≤ 120) : b_X5_readLine_47 y 1 = some (1, xAd y 59 0) := by
  unfold b_X5_readLine_47
  rw [x_addE 59 0 hX.2.1 (by omega), bind_s, if_pos (Or.inr rfl)]
theorem sg_lt' {z r3 : SS} {m : Nat} {x0 o : Int32} {c : Int} (g : SG o c 1 (sI z 77 (61 + m) x0) r3) (n : r3.1 60 20 = -1) : (z.1 60 22).toInt < (r3.1 60 22).toInt := by
  have a := sg_lt g n
  exact a
theorem sim_line2 {q y z : SS} {m : Nat} (hT : RT q) (A : AQ q y z) (ho : z.1 60 21 = 0) (L : LN z m) (hm : 2 * (m : Int) ≤ (z.1 60 19).toInt) : T2 (f_X5_readLine y) (f_X12_line z) (fun r s => RLn q r s ∧ (s.1 60 20 = -1 → LX y z m r.2 s)) := by
  obtain ⟨b1, b2, b3, b4, b5, b6, b7⟩ := AQ_b A
  have l0 : (0 : Int32).toInt = 0 := rfl
  have l61 : (61 : Int32).toInt = 61 := rfl
  have eN : EN z := A.2.2.2.1
  have L1 := L.1
  have hv : ((61 : Int32) + z.1 76 1).toInt = 61 + (m : Int) := by rw [tadd (by omega) (by omega), l61, L1]
  have ev : ((61 : Int32) + z.1 76 1).toNatClampNeg = 61 + m := by
    show ((61 : Int32) + z.1 76 1).toInt.toNat = _
    omega
  unfold f_X5_readLine f_X12_line
  refine T2_pr (by decide) (T2_nr ?_)
  rw [show (1 : Int32).toNatClampNeg = 1 from rfl]
  refine T2_pr ⟨by omega, by omega⟩ (T2_nr ?_)
  rw [ev]
  generalize hx0 : (z.1 60 22).toInt16.toInt32.toInt16.toInt32 = x0
  have hx0' : x0.toInt = (z.1 60 22).toInt := by rw [← hx0, n16 (a := z.1 60 22) b4 (by omega), n16 b4 (by omega)]
  have A2 : AQ q y (sI z 77 (61 + m) x0) := A
  refine T2_bb (sim_either hT A2 ho) (fun r1 r3 hR => ?_)
  obtain ⟨⟨hR, hX⟩, hS⟩ := hR
  have eN2 : EN (sI z 77 (61 + m) x0) := eN
  have zx := SG_ZX (q := q) hS A.2.1 A.2.2.1
  have hb3 : (z.1 60 19).toInt ≤ (r3.1 60 19).toInt ∧ (r3.1 60 19).toInt ≤ (z.1 60 18).toInt := hS.2.1
  have tz : (z.1 60 18).toInt = (q.1 60 18).toInt := congrArg Int32.toInt A.2.2.1
  rcases hR with ⟨n5, f5, P5⟩ | ⟨w5, p5, f5⟩
  · have d3 : (r3.1 60 22).toInt + 0 ≤ (z.1 60 22).toInt + ((r3.1 60 19).toInt - (z.1 60 19).toInt) := (SG_nw hS n5).2.1
    have q2 : (r1.2.1 19 4).toInt - (y.1 19 4).toInt = (r3.1 60 22).toInt - (z.1 60 22).toInt := P5.2.1
    have q3 : 0 ≤ (r3.1 60 22).toInt - (z.1 60 22).toInt := P5.2.2.1
    have ep3 : (r1.2.1 17 3).toInt = (r3.1 60 19).toInt := congrArg Int32.toInt P5.1
    have nx := x_nextE hT hX.1 (by omega)
    rw [ep3] at nx
    have mx := m_lookE b3 zx.1 zx.2 (by omega : 0 ≤ (r3.1 60 19).toInt)
    have cm := CM_q hT (by omega : 0 ≤ (r3.1 60 19).toInt)
    have k63 := CM_eq cm (k := 63) (by decide) (by decide)
    refine T2_ql (by rw [f5]; decide) (T2_qr (by rw [n5]; decide) (T2_le nx (T2_re mx ?_)))
    by_cases c63 : CH q (r3.1 60 19).toInt = 63
    · refine T2_pl c63 (T2_pr (k63.mp c63) (T2_nl (T2_nr (T2_pr ⟨by omega, by omega⟩ (T2_nr ?_)))))
      have lt : (r3.1 60 19).toInt < (q.1 60 18).toInt := by
        by_cases c : (r3.1 60 19).toInt < (q.1 60 18).toInt
        · exact c
        · unfold CH at c63
          rw [if_neg c] at c63
          exact absurd c63 (by decide)
      have g7 := SG_hr eN2 hS n5 (by rw [zx.2]; exact lt)
      have e7 : EN (sI r3 60 19 (r3.1 60 19 + 1)) := SG_EN eN2 g7 n5 (by decide) (by decide)
      have i3 := inc1 (a := r3.1 60 19) (by omega) (by omega)
      have xe := x_addE (y := sI r1.2 17 3 (r1.2.1 17 3 + 1)) 63 0 hX.2.1 (by show (r1.2.1 19 4).toInt < 121; omega)
      have xx := T_un (x_addStep (XL_s (x := r1.2.1 17 3 + 1) hX) 63 0) xe
      refine T2_le xe ?_
      generalize hx1 : ((sI r3 60 19 (r3.1 60 19 + 1)).1 60 22).toInt16.toInt32.toInt16.toInt32 = x1
      have hx1' : x1.toInt = (r3.1 60 22).toInt := by
        rw [← hx1]
        show ((r3.1 60 22).toInt16.toInt32.toInt16.toInt32).toInt = _
        rw [n16 (a := r3.1 60 22) (by omega) (by omega), n16 (by omega) (by omega)]
      have i4 := inc1 (a := r1.2.1 19 4) (by have := hX.2.1; omega) (by omega)
      have A8 : AQ q (xAd (sI r1.2 17 3 (r1.2.1 17 3 + 1)) 63 0) (sI (sI r3 60 19 (r3.1 60 19 + 1)) 77 (61 + m) x1) := ⟨xx, zx.1, zx.2, e7, congrArg (· + 1) P5.1, by
        show (r1.2.1 19 4 + 1).toInt ≤ (r3.1 60 19 + 1).toInt
        omega⟩
      refine T2_bb (sim_either hT A8 (SG_nw hS n5).1) (fun r6 r9 hR9 => ?_)
      obtain ⟨⟨hR9, hX9⟩, hS9⟩ := hR9
      have hb9 : (r3.1 60 19 + 1).toInt ≤ (r9.1 60 19).toInt ∧ (r9.1 60 19).toInt ≤ (r3.1 60 18).toInt := hS9.2.1
      have t3 : (r3.1 60 18).toInt = (q.1 60 18).toInt := congrArg Int32.toInt zx.2
      have mo := line66 (z := r9) hv (by omega)
      rcases hR9 with ⟨n9, f9, P9⟩ | ⟨w9, p9, f9⟩
      · have d9 : (r9.1 60 22).toInt + 0 ≤ (r3.1 60 22).toInt + ((r9.1 60 19).toInt - (r3.1 60 19 + 1).toInt) := (SG_nw hS9 n9).2.1
        have q9 : (r6.2.1 19 4).toInt - (r1.2.1 19 4 + 1).toInt = (r9.1 60 22).toInt - (r3.1 60 22).toInt := P9.2.1
        rw [f9, mo, l47x hX9 (by omega)]
        have i6 := inc1 (a := r6.2.1 19 4) (by have := hX9.2.1; omega) (by omega)
        exact T2_s ⟨Or.inl ⟨n9, rfl, P9.1, by show (r6.2.1 19 4 + 1).toInt ≤ (r9.1 60 19).toInt + 1; omega, (SG_nw hS9 n9).1⟩, fun _ => LX_two b6 (by omega) (by omega) b4 hS P5 (sg_lt' hS n5) hS9 P9 hx1'⟩
      · rw [mo]
        obtain ⟨a, ha, hp⟩ := l47 (b := r6.1) hX9 (by rcases f9 with f | ⟨f, _⟩; exact Or.inl f; exact Or.inr f)
        exact ⟨a, _, ha, rfl, Or.inr ⟨w9, hp.2.2.trans p9, by rw [hp.1]; exact f9⟩, fun e => absurd w9 (by have e' : r9.1 60 20 = -1 := e; rw [e', m1i]; omega)⟩
    · refine T2_ql c63 (T2_qr (fun e => c63 (k63.mpr e)) ?_)
      rw [f5, line66 (z := r3) hv (by omega), l47x hX (by omega)]
      have i5 := inc1 (a := r1.2.1 19 4) (by have := hX.2.1; omega) (by omega)
      exact T2_s ⟨Or.inl ⟨n5, rfl, P5.1, by show (r1.2.1 19 4 + 1).toInt ≤ (r3.1 60 19).toInt + 1; omega, (SG_nw hS n5).1⟩, fun _ => LX_one b6 (by omega) hS P5 hx0'⟩
  · have mo := line66 (z := r3) hv (by omega)
    have fin : T2 (b_X5_readLine_47 r1.2 r1.1) (b_X12_line_66 r3 ((61 : Int32) + z.1 76 1)) (fun r s => RLn q r s ∧ (s.1 60 20 = -1 → LX y z m r.2 s)) := by
      rw [mo]
      obtain ⟨a, ha, hp⟩ := l47 (b := r1.1) hX (by rcases f5 with f | ⟨f, _⟩; exact Or.inl f; exact Or.inr f)
      exact ⟨a, _, ha, rfl, Or.inr ⟨w5, hp.2.2.trans p5, by rw [hp.1]; exact f5⟩, fun e => absurd w5 (by have e' : r3.1 60 20 = -1 := e; rw [e', m1i]; omega)⟩
    have w : (0 : Int32) ≤ r3.1 60 20 := Int32.le_iff_toInt_le.mpr (by rw [l0]; exact w5)
    rcases f5 with f | ⟨f, dd⟩
    · exact T2_pl f (T2_pr w fin)
    · have ep4 : (r1.2.1 17 3).toInt = (r3.1 60 20).toInt := congrArg Int32.toInt p5
      have nx4 := x_nextE hT hX.1 (by omega)
      rw [ep4] at nx4
      exact T2_ql (by rw [f]; decide) (T2_le nx4 (T2_ql (fun e => by rw [e] at dd; exact absurd dd (by decide)) (T2_pr w fin)))
/-! ===== a text taken over, and how it is laid on either side ===== -/
theorem lineAl_lt {A W A' W' : Nat → Int32} {c c' : Nat} {s t e : Int} (h : lineAl A W c c' A' W' s t e) : c < c' := by
  rcases h with ⟨_, _, _, h⟩ | ⟨_, _, _, _, _, h⟩
  · omega
  · omega
theorem segAl_c {A W A2 W2 A' W' A2' W2' : Nat → Int32} {c : Nat} {s e u : Int} (h : segAl A W c A' W' (u + s) (u + e)) (h0 : 0 ≤ s) (hu : 0 ≤ u) (hA : ∀ k : Nat, (k : Int) < c + (e - s) → A2 k = A k ∧ W2 k = W k) (hB : ∀ k : Nat, (k : Int) < e → A2' k = A' (u.toNat + k) ∧ W2' k = W' (u.toNat + k)) : segAl A2 W2 c A2' W2' s e := fun k hk => by
  have a := h k (by omega)
  have b := hA (c + k) (by omega)
  have d := hB (s.toNat + k) (by omega)
  rw [b.1, b.2, d.1, d.2, show u.toNat + (s.toNat + k) = (u + s).toNat + k by omega]
  exact a
theorem lineAl_c {A W A2 W2 A' W' A2' W2' : Nat → Int32} {c c' : Nat} {s t e u : Int} (h : lineAl A W c c' A' W' (u + s) (u + t) (u + e)) (h0 : 0 ≤ s) (st : s ≤ t) (te : t ≤ e) (hu : 0 ≤ u) (hA : ∀ k : Nat, k < c' → A2 k = A k ∧ W2 k = W k) (hB : ∀ k : Nat, (k : Int) < e → A2' k = A' (u.toNat + k) ∧ W2' k = W' (u.toNat + k)) : lineAl A2 W2 c c' A2' W2' s t e := by
  have e1 : u + e - (u + s) = e - s := by omega
  have e2 : u + t - (u + s) = t - s := by omega
  have e3 : u + e - (u + t) = e - t := by omega
  unfold lineAl at h ⊢
  rw [e1, e2, e3] at h
  rcases h with ⟨h1, h2, h3, h4⟩ | ⟨h1, h2, h3, h4, h5, h6⟩
  · refine Or.inl ⟨by omega, segAl_c h2 h0 hu (fun k hk => hA k (by omega)) hB, ?_, h4⟩
    rw [(hA _ (by omega)).1]
    exact h3
  · refine Or.inr ⟨by omega, segAl_c h2 h0 hu (fun k hk => hA k (by omega)) (fun k hk => hB k (by omega)), ?_, segAl_c h4 (by omega) hu (fun k hk => hA k (by omega)) hB, ?_, h6⟩
    · rw [(hA _ (by omega)).1]
      exact h3
    · rw [(hA _ (by omega)).1]
      exact h5
def LNA (y s : SS) (m : Nat) : Prop := 0 < (y.1 19 4).toInt ∧ (y.1 19 4).toInt ≤ 121 ∧ ∃ cs : Nat → Nat, cs 0 = 0 ∧ (cs m : Int) = (y.1 19 4).toInt ∧ (∀ l : Nat, l ≤ m → (cs l : Int) ≤ (y.1 19 4).toInt) ∧ ∀ l : Nat, l < m → lineAl (y.1 20) (y.1 21) (cs l) (cs (l + 1)) (s.1 74) (s.1 75) (130 + stU s l) (130 + (s.1 77 (61 + l)).toInt) (130 + (s.1 78 (61 + l)).toInt)
theorem stU_c {s z : SS} {m l : Nat} (h : ∀ l : Nat, l < m → s.1 78 (61 + l) = z.1 78 (61 + l)) (hl : l ≤ m) : stU s l = stU z l := by
  unfold stU
  by_cases c : l = 0
  · rw [if_pos c, if_pos c]
  · rw [if_neg c, if_neg c, h (l - 1) (by omega)]
theorem LNA_step {y z r s : SS} {m : Nat} {cs : Nat → Nat} (c0 : cs 0 = 0) (cm : (cs m : Int) = (y.1 19 4).toInt) (cle : ∀ l : Nat, l ≤ m → (cs l : Int) ≤ (y.1 19 4).toInt) (hl : ∀ l : Nat, l < m → lineAl (y.1 20) (y.1 21) (cs l) (cs (l + 1)) (z.1 74) (z.1 75) (130 + stU z l) (130 + (z.1 77 (61 + l)).toInt) (130 + (z.1 78 (61 + l)).toInt)) (L : LN z m) (X : LX y z m r s) (L2 : LN s (m + 1)) : LNA r s (m + 1) := by
  obtain ⟨x1, x2, x3, x4, x5, x6⟩ := X
  obtain ⟨_, L2s, _, _⟩ := L2
  have e78 : (s.1 78 (61 + m)).toInt = (s.1 60 22).toInt := by
    have : stU s (m + 1) = (s.1 78 (61 + m)).toInt := by
      unfold stU
      rw [if_neg (by omega)]
      rfl
    rw [← this]
    exact L2s
  have lt := lineAl_lt x4
  refine ⟨x5, x6, fun l => if l ≤ m then cs l else (r.1 19 4).toInt.toNat, ?_, ?_, fun l hlm => ?_, fun l hlm => ?_⟩
  · show (if 0 ≤ m then cs 0 else _) = 0
    rw [if_pos (Nat.zero_le _), c0]
  · show (((if m + 1 ≤ m then cs (m + 1) else (r.1 19 4).toInt.toNat) : Nat) : Int) = _
    rw [if_neg (by omega)]
    omega
  · show (((if l ≤ m then cs l else (r.1 19 4).toInt.toNat) : Nat) : Int) ≤ _
    by_cases c : l ≤ m
    · rw [if_pos c]
      have := cle l c
      omega
    · rw [if_neg c]
      omega
  · show lineAl (r.1 20) (r.1 21) (if l ≤ m then cs l else (r.1 19 4).toInt.toNat) (if l + 1 ≤ m then cs (l + 1) else (r.1 19 4).toInt.toNat) _ _ _ _ _
    rw [if_pos (by omega)]
    by_cases c : l < m
    · rw [if_pos (by omega)]
      have b := L.2.2.2 l c
      obtain ⟨b1, b2, b3, b4, _⟩ := b
      have t := cle (l + 1) (by omega)
      rw [stU_c (fun j hj => (x3 j hj).2) (by omega : l ≤ m), (x3 l c).1, (x3 l c).2]
      have hh := hl l c
      refine lineAl_c (u := 0) (s := 130 + stU z l) (t := 130 + (z.1 77 (61 + l)).toInt) (e := 130 + (z.1 78 (61 + l)).toInt) (by rw [Int.zero_add, Int.zero_add, Int.zero_add]; exact hh) (by omega) (by omega) (by omega) (by omega) (fun k hk => x1 k (by omega)) (fun k hk => ?_)
      have := x2 k (by omega)
      rw [show (0 : Int).toNat + k = k by omega]
      exact this
    · obtain rfl : l = m := by omega
      rw [if_neg (by omega), stU_c (fun j hj => (x3 j hj).2) (Nat.le_refl l), L.2.1, e78]
      have e : cs l = (y.1 19 4).toInt.toNat := by omega
      rw [e]
      exact x4
def LNF (y s : SS) : Prop := 0 < (y.1 19 4).toInt ∧ (y.1 19 4).toInt ≤ 121 ∧ ∃ cs : Nat → Nat, cs 0 = 0 ∧ (cs (s.1 76 0).toInt.toNat : Int) = (y.1 19 4).toInt ∧ ∀ l : Nat, (l : Int) < (s.1 76 0).toInt → lineAl (y.1 20) (y.1 21) (cs l) (cs (l + 1)) (s.1 74) (s.1 75) (sLo s l) (s.1 77 l).toInt (s.1 78 l).toInt
theorem m_105x {y : SS} {m : Nat} (L : LN y m) (h0 : 0 ≤ (y.1 60 22).toInt) (h121 : (y.1 60 22).toInt ≤ 121) (hm : m ≤ 60) : T (b_X12_readText_105 y 0 0) (fun r => r.1 = -1 ∧ (r.2.1 76 0).toInt = (m : Int) ∧ (∀ l : Nat, l < m → r.2.1 77 l = y.1 77 (61 + l) ∧ r.2.1 78 l = y.1 78 (61 + l)) ∧ ∀ k : Nat, (k : Int) < (y.1 60 22).toInt → r.2.1 74 k = y.1 74 (130 + k) ∧ r.2.1 75 k = y.1 75 (130 + k)) := by
  have l130 : (130 : Int32).toInt = 130 := rfl
  have z0 : (0 : Int32).toNatClampNeg = 0 := rfl
  have z1 : (1 : Int32).toNatClampNeg = 1 := rfl
  unfold b_X12_readText_105
  refine T_fx3 (fun w l1 l2 => l1 = 0 ∧ 0 ≤ l2.toInt ∧ l2.toInt ≤ (y.1 60 22).toInt ∧ Fr (fun k _ => k == 74 || k == 75) v0 y w ∧ (∀ k : Nat, 130 ≤ k → w.1 74 k = y.1 74 k ∧ w.1 75 k = y.1 75 k) ∧ (∀ k : Nat, (k : Int) < l2.toInt → w.1 74 k = y.1 74 (130 + k) ∧ w.1 75 k = y.1 75 (130 + k))) (fun _ _ l2 => ((y.1 60 22).toInt - l2.toInt).toNat) ?_ _ _ _ _ ⟨rfl, by decide, h0, Fr_refl y, fun k _ => ⟨rfl, rfl⟩, fun l hl => absurd hl (by show ¬ ((l : Int) < 0); omega)⟩ (by have : (0 : Int32).toInt = 0 := rfl; unfold FU; omega)
  rintro rec w l1 l2 ⟨rfl, h1, h2, hf, hu, hl⟩ hr
  have w22 : w.1 60 22 = y.1 60 22 := hf.1 60 22 rfl
  rw [w22]
  refine T_le (fun le => T_p (by decide) (T_p (by decide) (T_nm ?_))) (fun lt => ?_)
  · have w76 : w.1 76 1 = y.1 76 1 := hf.1 76 1 rfl
    rw [z0, z1, w76]
    have f8 : Fr w6 v0 y (sI w 76 0 (y.1 76 1)) := Fr_sI (Fr_le hf (fun k i e => by
      unfold w6 at e
      simp only [Bool.or_eq_false_iff] at e
      show (k == 74 || k == 75) = false
      rw [e.1.1.1.1, e.1.1.1.2]
      rfl) (fun _ h => h)) rfl
    have a76 : ((sI w 76 0 (y.1 76 1)).1 76 0).toInt = (m : Int) := L.1
    refine T_mono (m_177 (z := sI w 76 0 (y.1 76 1)) L h121 hm a76 ((sI_ro (by decide)).trans (Fr_r hf fun _ => rfl)) ((sI_ro (by decide)).trans (Fr_r hf fun _ => rfl))) (fun r hr7 => ?_)
    obtain ⟨r1, r2, r3, r4⟩ := hr7
    refine ⟨r1, ?_, fun l hl => ⟨r3 l hl, r4 l hl⟩, fun k hk => ?_⟩
    · rw [r2.1 76 0 rfl]
      exact a76
    · rw [Fr_r r2 (k := 74) (fun _ => rfl), Fr_r r2 (k := 75) (fun _ => rfl), sI_ro (by decide), sI_ro (by decide)]
      exact hl k (by omega)
  · have i130 : ((130 : Int32) + l2).toInt = 130 + l2.toInt := by rw [tadd (by omega) (by omega), l130]
    have n130 : ((130 : Int32) + l2).toNatClampNeg = 130 + l2.toInt.toNat := by
      show ((130 : Int32) + l2).toInt.toNat = _
      omega
    have n0 : l2.toNatClampNeg = l2.toInt.toNat := rfl
    rw [Int32.mul_zero, Int32.zero_add]
    have u := hu (130 + l2.toInt.toNat) (by omega)
    have x74 : (w.1 74 (130 + l2.toInt.toNat)).toInt8.toInt32 = y.1 74 (130 + l2.toInt.toNat) := by rw [u.1, L.2.2.1 _ (by omega) (by omega)]
    refine T_vp (by omega) (by omega) (T_vp (by omega) (by omega) (T_nm (T_vp (by omega) (by omega) (T_vp (by omega) (by omega) (T_nm ?_)))))
    rw [n130, n0, x74]
    have s75 : (sI w 74 l2.toInt.toNat (y.1 74 (130 + l2.toInt.toNat))).1 75 = w.1 75 := sI_ro (by decide)
    rw [s75, u.2]
    have i := inc1 (a := l2) (by omega) (by omega)
    refine hr _ _ _ ⟨rfl, by omega, by omega, Fr_sI (Fr_sI hf rfl) rfl, fun k hk => ?_, fun l h => ?_⟩ (by omega)
    · rw [sI_ro (by decide), sI_rd, if_neg (fun c => by have := c.2; omega), sI_rd, if_neg (fun c => by have := c.2; omega), s75]
      exact hu k hk
    · rw [sI_ro (by decide), sI_rd, sI_rd, s75]
      by_cases c : l = l2.toInt.toNat
      · rw [if_pos ⟨rfl, c⟩, if_pos ⟨rfl, c⟩, c]
        exact ⟨rfl, rfl⟩
      · rw [if_neg (fun h => c h.2), if_neg (fun h => c h.2)]
        exact hl l (by omega)
theorem m_86x {y1 s : SS} {m : Nat} (e : EN s) (L : LN s m) (hm : 2 * (m : Int) ≤ (s.1 60 19).toInt + 1) (N : LNA y1 s m) : T (b_X12_readText_86 s 0) (fun r => r.1 = -1 ∧ LNF y1 r.2) := by
  obtain ⟨e1, e2, e3, e4, e5, e6, _, _⟩ := e
  obtain ⟨n1, n2, cs, c0, cm, cle, hl⟩ := N
  unfold b_X12_readText_86
  refine T_nm (T_p (by show s.1 60 20 < 0; rw [e6]; decide) (T_mono (m_105x (y := sI s 60 18 0) (m := m) L e4 (by show (s.1 60 22).toInt ≤ 121; omega) (by omega)) (fun r hr => ⟨hr.1, n1, n2, cs, c0, ?_, fun l hlm => ?_⟩)))
  · rw [hr.2.1]
    exact cm
  · rw [hr.2.1] at hlm
    obtain ⟨b1, b2, b3, b4, _⟩ := L.2.2.2 l (by omega)
    have x := hr.2.2.1 l (by omega)
    have x77 : r.2.1 77 l = s.1 77 (61 + l) := x.1
    have x78 : r.2.1 78 l = s.1 78 (61 + l) := x.2
    have st : sLo r.2 l = stU s l := by
      unfold sLo stU
      by_cases c : l = 0
      · rw [if_pos c, if_pos c]
      · have z := (hr.2.2.1 (l - 1) (by omega)).2
        have z' : r.2.1 78 (l - 1) = s.1 78 (61 + (l - 1)) := z
        rw [if_neg c, if_neg c, z']
    rw [st, x77, x78]
    exact lineAl_c (u := 130) (hl l (by omega)) b1 b2 b3 (by omega) (fun k _ => ⟨rfl, rfl⟩) (fun k hk => hr.2.2.2 k (by show (k : Int) < (s.1 60 22).toInt; omega))
theorem sim_text2 {q zz : SS} (hT : RT q) (e73 : zz.1 73 = q.1 73) (e18 : zz.1 60 18 = q.1 60 18) : T2 (f_X5_readText q) (f_X12_readText zz 0) (fun r s => r.1 = s.1 ∧ (r.1 = -1 → LNF r.2 s.2)) := by
  have l0 : (0 : Int32).toInt = 0 := rfl
  have l120 : (120 : Int32).toInt = 120 := rfl
  have z1 : (1 : Int32).toNatClampNeg = 1 := rfl
  have t0 := RT_l0 hT
  have t120 := RT_l120 hT
  have tz : (zz.1 60 18).toInt = (q.1 60 18).toInt := congrArg Int32.toInt e18
  unfold f_X5_readText f_X12_readText f_X4_clear
  refine T2_nl (T2_le rfl (T2_nr (T2_nr (T2_nr (T2_nr (T2_pr (by decide) (T2_nr ?_)))))))
  rw [z1]
  have e0 : EN (sI (sI (sI (sI (sI zz 60 19 0) 60 20 (-1)) 60 21 0) 60 22 0) 76 1 0) := ⟨Int.le_refl 0, by show (0 : Int) ≤ (zz.1 60 18).toInt; omega, by show (zz.1 60 18).toInt ≤ 120; omega, Int.le_refl 0, Int.le_refl 0, rfl, Int.le_refl 0, (by decide : (0 : Int) ≤ 6)⟩
  have L0 : LN (sI (sI (sI (sI (sI zz 60 19 0) 60 20 (-1)) 60 21 0) 60 22 0) 76 1 0) 0 := ⟨rfl, rfl, fun k k1 k2 => absurd k2 (by show ¬ ((k : Int) < 130 + 0); omega), fun l hl => absurd hl (by omega)⟩
  have x0 : XL q (sI (sI q 17 3 0) 19 4 0) := ⟨Fr_sI (Fr_sI (Fr_refl q) rfl) rfl, by show (0 : Int) ≤ 0; omega, by show (0 : Int) ≤ 121; omega⟩
  have A0 : AQ q (sI (sI q 17 3 0) 19 4 0) (sI (sI (sI (sI (sI zz 60 19 0) 60 20 (-1)) 60 21 0) 60 22 0) 76 1 0) := ⟨x0, e73, e18, e0, rfl, Int.le_refl 0⟩
  have o0 : (sI (sI (sI (sI (sI zz 60 19 0) 60 20 (-1)) 60 21 0) 60 22 0) 76 1 0).1 60 21 = 0 := rfl
  have h00 : (sI (sI (sI (sI (sI zz 60 19 0) 60 20 (-1)) 60 21 0) 60 22 0) 76 1 0).1 60 19 = 0 := rfl
  generalize (sI (sI (sI (sI (sI zz 60 19 0) 60 20 (-1)) 60 21 0) 60 22 0) 76 1 0) = z5 at e0 L0 A0 o0 h00 ⊢
  have hh0 : (z5.1 60 19).toInt = 0 := congrArg Int32.toInt h00
  refine T2_bb (T2_ar (T2_al (sim_line2 hT A0 o0 L0 (by omega)) (x_readLine x0)) (m_line e0 L0 (by omega))) (fun r3 r6 h6 => ?_)
  obtain ⟨⟨⟨hR, hLX⟩, hX, _⟩, f6, t6, ⟨p60, p61⟩, c6⟩ := h6
  have tq6 : r6.1 60 18 = q.1 60 18 := t6.trans A0.2.2.1
  have e736 : r6.1 73 = q.1 73 := (Fr_r f6 (fun _ => rfl)).trans A0.2.1
  have tz5 : (z5.1 60 18).toInt = (q.1 60 18).toInt := congrArg Int32.toInt A0.2.2.1
  unfold b_X5_readText_19 b_X12_readText_31
  refine T2_fx32 (fun y1 l1 l2 s k1 => k1 = 0 ∧ 0 ≤ l2.toInt ∧ l2.toInt ≤ 120 ∧ XL q y1 ∧ s.1 73 = q.1 73 ∧ s.1 60 18 = q.1 60 18 ∧ 0 ≤ (s.1 60 19).toInt ∧ (s.1 60 19).toInt ≤ (q.1 60 18).toInt ∧ ((s.1 60 20 = -1 ∧ l1 = 1 ∧ y1.1 17 3 = s.1 60 19 ∧ (y1.1 19 4).toInt ≤ (s.1 60 19).toInt + 1 ∧ l2.toInt ≤ (s.1 60 19).toInt ∧ s.1 60 21 = 0 ∧ ∃ m : Nat, (EN s ∧ LN s m ∧ 2 * (m : Int) ≤ (s.1 60 19).toInt + 1) ∧ LNA y1 s m) ∨ (0 ≤ (s.1 60 20).toInt ∧ y1.1 17 3 = s.1 60 20 ∧ (l1 = 0 ∨ (l1 = 1 ∧ dig (CH q (s.1 60 20).toInt)))))) (fun s => ((q.1 60 18).toInt - (s.1 60 19).toInt).toNat) ?_ _ _ _ _ _ _ _ ⟨rfl, by decide, by decide, hX, e736, tq6, by omega, by omega, ?_⟩ (by unfold FU; omega) (by unfold FU; omega)
  · rintro rf rg y1 l1 l2 s k1 ⟨rfl, h20, h2m, hX, e73, e18, p0, p1, hc⟩ hr
    have e17 : (y1.1 17 2).toInt = (q.1 60 18).toInt := congrArg Int32.toInt ((hX.1.1 17 2 rfl).trans (RT_len hT))
    have ts : (s.1 60 18).toInt = (q.1 60 18).toInt := congrArg Int32.toInt e18
    have mx := m_lookE t120 e73 e18 p0
    rcases hc with ⟨hn, rfl, hp, hl, h2h, ho, m, ⟨eN, L, hm⟩, NA⟩ | ⟨w, hp, hf⟩
    · have nw : ¬ (0 : Int32) ≤ s.1 60 20 := by rw [hn]; decide
      have ep : (y1.1 17 3).toInt = (s.1 60 19).toInt := congrArg Int32.toInt hp
      have nx := x_nextE hT hX.1 (by omega)
      rw [ep] at nx
      have cm := CM_q hT p0
      have k59 := CM_eq cm (k := 59) (by decide) (by decide)
      have fin : T2 (b_X5_readText_59 y1 1) (b_X12_readText_64 s 0) (fun r s => r.1 = s.1 ∧ (r.1 = -1 → LNF r.2 s.2)) := by
        unfold b_X5_readText_59 b_X12_readText_64
        refine T2_ql (by decide) (T2_qr nw ?_)
        by_cases lt : (s.1 60 19).toInt < (q.1 60 18).toInt
        · refine T2_pl (Int32.lt_iff_toInt_lt.mpr (by omega)) (T2_qr (fun e => by have := Int32.le_iff_toInt_le.mp e; omega) (T2_re (m_wrE hn) ?_))
          rw [m_86w (by show 0 ≤ (s.1 60 19).toInt; exact p0)]
          exact T2_s ⟨hp, fun e => absurd p0 (by have e' : y1.1 17 3 = -1 := e; rw [← hp, e', m1i]; omega)⟩
        · refine T2_ql (fun e => by have := Int32.lt_iff_toInt_lt.mp e; omega) (T2_pr (Int32.le_iff_toInt_le.mpr (by omega)) ?_)
          obtain ⟨a, ha, hpa⟩ := m_86x eN L hm NA
          exact ⟨_, a, rfl, ha, hpa.1.symm, fun _ => hpa.2⟩
      by_cases g : (120 : Int32) ≤ l2
      · have g' := Int32.le_iff_toInt_le.mp g
        have mN : MH q (s.1 60 19).toInt = -1 := by unfold MH; rw [if_neg (by omega)]
        rw [mN] at mx
        exact T2_pl g (T2_qr nw (T2_re mx (T2_qr (by decide) fin)))
      refine T2_ql g (T2_ql (by decide) (T2_le nx (T2_qr nw (T2_re mx ?_))))
      by_cases c59 : CH q (s.1 60 19).toInt = 59
      · refine T2_pl c59 (T2_pr (k59.mp c59) (T2_nl (T2_nr ?_)))
        have lt : (s.1 60 19).toInt < (q.1 60 18).toInt := by
          by_cases c : (s.1 60 19).toInt < (q.1 60 18).toInt
          · exact c
          · unfold CH at c59
            rw [if_neg c] at c59
            exact absurd c59 (by decide)
        have i := inc1 (a := s.1 60 19) (by omega) (by omega)
        have i2 := inc1 (a := l2) (by omega) (by omega)
        have e20 : EN (sI s 60 19 (s.1 60 19 + 1)) := ⟨by show 0 ≤ (s.1 60 19 + 1).toInt; omega, by show (s.1 60 19 + 1).toInt ≤ (s.1 60 18).toInt; omega, by show (s.1 60 18).toInt ≤ 120; omega, eN.2.2.2.1, by show (s.1 60 22).toInt ≤ (s.1 60 19 + 1).toInt; have := eN.2.2.2.2.1; omega, eN.2.2.2.2.2⟩
        have L20 : LN (sI s 60 19 (s.1 60 19 + 1)) m := L
        have hm2 : 2 * (m : Int) ≤ ((sI s 60 19 (s.1 60 19 + 1)).1 60 19).toInt := by
          show 2 * (m : Int) ≤ (s.1 60 19 + 1).toInt
          omega
        have A' : AQ q (sI y1 17 3 (y1.1 17 3 + 1)) (sI s 60 19 (s.1 60 19 + 1)) := ⟨XL_s hX, e73, e18, e20, congrArg (· + 1) hp, by
          show (y1.1 19 4).toInt ≤ (s.1 60 19 + 1).toInt
          omega⟩
        refine T2_bb (T2_ar (T2_al (sim_line2 hT A' ho L20 hm2) (x_readLine A'.1)) (m_line e20 L20 hm2)) (fun r8 r21 h => ?_)
        obtain ⟨⟨⟨hR, hLX⟩, hX8, _⟩, f8, t8, q8, c8⟩ := h
        have q8' : (s.1 60 19 + 1).toInt ≤ (r21.1 60 19).toInt ∧ (r21.1 60 19).toInt ≤ (s.1 60 18).toInt := q8
        have t8' : r21.1 60 18 = q.1 60 18 := t8.trans e18
        have e738 : r21.1 73 = q.1 73 := (Fr_r f8 (fun _ => rfl)).trans e73
        refine hr _ _ _ _ _ ⟨rfl, by omega, by omega, hX8, e738, t8', by omega, by omega, ?_⟩ (by omega)
        rcases hR with ⟨a1, a2, a3, a4, a5⟩ | h
        · rcases c8 with c | c
          · rw [a1, m1i] at c
            exact absurd c (by omega)
          · obtain ⟨n1, n2, cs, c0, cm, cle, hla⟩ := NA
            exact Or.inl ⟨a1, a2, a3, a4, by omega, a5, m + 1, c, LNA_step c0 cm cle hla L20 (hLX a1) c.2.1⟩
        · exact Or.inr h
      · exact T2_ql c59 (T2_qr (fun e => c59 (k59.mpr e)) fin)
    · have w' : (0 : Int32) ≤ s.1 60 20 := Int32.le_iff_toInt_le.mpr (by rw [l0]; exact w)
      have ep : (y1.1 17 3).toInt = (s.1 60 20).toInt := congrArg Int32.toInt hp
      have nx := x_nextE hT hX.1 (by omega)
      rw [ep] at nx
      have fin : T2 (b_X5_readText_59 y1 l1) (b_X12_readText_64 s 0) (fun r s => r.1 = s.1 ∧ (r.1 = -1 → LNF r.2 s.2)) := by
        unfold b_X5_readText_59 b_X12_readText_64
        refine T2_pr w' ?_
        rw [m_86w w]
        rcases hf with rfl | ⟨rfl, d⟩
        · exact T2_pl rfl (T2_s ⟨hp, fun e => absurd w (by have e' : y1.1 17 3 = -1 := e; rw [← hp, e', m1i]; omega)⟩)
        · have lt : (s.1 60 20).toInt < (q.1 60 18).toInt := by
            by_cases c : (s.1 60 20).toInt < (q.1 60 18).toInt
            · exact c
            · unfold CH at d
              rw [if_neg c] at d
              exact absurd d (by decide)
          exact T2_ql (by decide) (T2_pl (Int32.lt_iff_toInt_lt.mpr (by omega)) (T2_s ⟨hp, fun e => absurd w (by have e' : y1.1 17 3 = -1 := e; rw [← hp, e', m1i]; omega)⟩))
      refine T2_pr w' ?_
      by_cases g : (120 : Int32) ≤ l2
      · exact T2_pl g fin
      · refine T2_ql g ?_
        rcases hf with rfl | ⟨rfl, d⟩
        · exact T2_pl rfl fin
        · exact T2_ql (by decide) (T2_le nx (T2_ql (fun e => by rw [e] at d; exact absurd d (by decide)) fin))
  · rcases hR with ⟨a1, a2, a3, a4, a5⟩ | h
    · rcases c6 with c | c
      · rw [a1, m1i] at c
        exact absurd c (by omega)
      · exact Or.inl ⟨a1, a2, a3, a4, by show (0 : Int) ≤ _; omega, a5, 0 + 1, c, LNA_step (y := sI (sI q 17 3 0) 19 4 0) (z := z5) (cs := fun _ => 0) rfl rfl (fun _ _ => Int.le_refl 0) (fun l hl => absurd hl (by omega)) L0 (hLX a1) c.2.1⟩
    · exact Or.inr h
/-! ===== a line worked out: on lists ===== -/
def op2 (a x y : Int32) : Int32 :=
  if a = 37 then (if y = 0 then 0 else jrem x y)
  else if a = 38 then (if x = 0 then 0 else if y = 0 then 0 else 1)
  else if a = 42 then x * y
  else if a = 43 then x + y
  else if a = 45 then x - y
  else if a = 47 then (if y = 0 then 0 else x / y)
  else if a = 60 then (if y ≤ x then 0 else 1)
  else if a = 61 then (if x = y then 1 else 0)
  else if a = 62 then (if x ≤ y then 0 else 1)
  else (if x = 0 then (if y = 0 then 0 else 1) else 1)
def stp (N : Nat → Int32) (a w : Int32) (st : List Int32) : List Int32 :=
  if a = 1 then w :: st
  else if a = 2 then N w.toInt.toNat :: st
  else if a = 3 then (match st with | x :: r => (if x = 0 then 1 else 0) :: r | [] => [])
  else if a = 4 then (match st with | x :: r => (-x) :: r | [] => [])
  else (match st with | y :: x :: r => op2 a x y :: r | _ => [])
def evl (N A W : Nat → Int32) : Nat → Nat → List Int32 → List Int32
  | 0, _, st => st
  | n + 1, i, st => evl N A W n (i + 1) (stp N (A i) (W i) st)
theorem evl_c {N A W A' W' : Nat → Int32} (c : Nat) : ∀ (n i : Nat) (st : List Int32), (∀ k, i ≤ k → k < i + n → A' k = A (c + k) ∧ W' k = W (c + k)) → evl N A' W' n i st = evl N A W n (c + i) st
  | 0, _, _, _ => rfl
  | n + 1, i, st, h => by
    have e := h i (by omega) (by omega)
    show evl N A' W' n (i + 1) (stp N (A' i) (W' i) st) = evl N A W n (c + i + 1) (stp N (A (c + i)) (W (c + i)) st)
    rw [e.1, e.2]
    exact evl_c c n (i + 1) _ (fun k hk hl => h k (by omega) (by omega))
/-- a pile of the class's, top first -/
def CP (y : SS) (st : List Int32) : Prop := (y.1 12 5).toInt = (st.length : Int) ∧ ∀ j : Nat, j < st.length → y.1 15 (st.length - 1 - j) = st.getD j 0
theorem CP_push {y : SS} {st : List Int32} {v : Int32} (h : CP y st) (hl : st.length < 121) : T (f_X4_push y v) (fun r => CP r (v :: st) ∧ r = sI (sI y 15 st.length v) 12 5 (y.1 12 5 + 1)) := by
  have l121 : (121 : Int32).toInt = 121 := rfl
  have l0 : (0 : Int32).toInt = 0 := rfl
  have e5 := h.1
  have i := inc1 (a := y.1 12 5) (by omega) (by omega)
  have ix : (y.1 12 5).toNatClampNeg = st.length := by
    show (y.1 12 5).toInt.toNat = _
    omega
  unfold f_X4_push
  refine T_ltn (by omega) (T_len (by omega) (T_vp (by omega) (by show (y.1 12 5).toInt < 121; omega) (T_nm (T_nm (T_some.mpr ?_)))))
  rw [ix]
  refine ⟨⟨?_, fun j hj => ?_⟩, rfl⟩
  · show (y.1 12 5 + 1).toInt = ((v :: st).length : Int)
    rw [i, List.length_cons]
    omega
  · rw [List.length_cons] at hj
    rw [sI_ro (by decide), sI_rd, List.length_cons]
    cases j with
    | zero =>
      rw [if_pos ⟨rfl, by omega⟩]
      rfl
    | succ j =>
      rw [if_neg (fun c => by have := c.2; omega)]
      have := h.2 j (by omega)
      rw [show st.length + 1 - 1 - (j + 1) = st.length - 1 - j by omega, this]
      rfl
theorem CP_pop {y : SS} {st : List Int32} {v : Int32} (h : CP y (v :: st)) (hl : st.length < 121) : T (f_X4_pop y) (fun r => r.1 = v ∧ CP r.2 st ∧ r.2 = sI y 12 5 (y.1 12 5 - 1)) := by
  have l121 : (121 : Int32).toInt = 121 := rfl
  have l0 : (0 : Int32).toInt = 0 := rfl
  have e5 := h.1
  rw [List.length_cons] at e5
  have i := dec1 (a := y.1 12 5) (by omega)
  have ix : (y.1 12 5 - 1).toNatClampNeg = st.length := by
    show (y.1 12 5 - 1).toInt.toNat = _
    omega
  have top := h.2 0 (by rw [List.length_cons]; omega)
  rw [List.length_cons, show st.length + 1 - 1 - 0 = st.length by omega] at top
  unfold f_X4_pop
  refine T_len (by omega) (T_lep (by omega) (T_nm ?_))
  show T (if vin (y.1 12 5 - 1) 121 then some (y.1 15 (y.1 12 5 - 1).toNatClampNeg, sI y 12 5 (y.1 12 5 - 1)) else none) _
  refine T_vp (by omega) (by show (y.1 12 5 - 1).toInt < 121; omega) (T_some.mpr ?_)
  rw [ix]
  refine ⟨top, ⟨?_, fun j hj => ?_⟩, rfl⟩
  · show (y.1 12 5 - 1).toInt = _
    omega
  · have := h.2 (j + 1) (by rw [List.length_cons]; omega)
    rw [List.length_cons, show st.length + 1 - 1 - (j + 1) = st.length - 1 - j by omega] at this
    exact this
theorem x_joinE (q : SS) {a x y : Int32} (h : 1 ≤ (lvc a).toInt) : f_X4_join q a x y = some (op2 a x y) := by
  unfold f_X4_join b_X4_join_100
  rw [swI (k := 37) (n := 37) rfl, swI (k := 38) (n := 38) rfl, swI (k := 42) (n := 42) rfl, swI (k := 43) (n := 43) rfl, swI (k := 45) (n := 45) rfl, swI (k := 47) (n := 47) rfl, swI (k := 60) (n := 60) rfl, swI (k := 61) (n := 61) rfl, swI (k := 62) (n := 62) rfl, swI (k := 124) (n := 124) rfl]
  rcases lvc_in a with ⟨_, h3⟩ | ⟨_, h3⟩ | ⟨_, h3⟩ | ⟨_, h3⟩ | ⟨_, h3⟩ | h3
  · rcases h3 with rfl | rfl | rfl
    · rfl
    · show (if y = 0 then some 0 else if y = 0 then none else some (x / y)) = some (if y = 0 then 0 else x / y)
      by_cases c : y = 0
      · rw [if_pos c, if_pos c]
      · rw [if_neg c, if_neg c, if_neg c]
    · show (if y = 0 then some 0 else if y = 0 then none else some (jrem x y)) = some (if y = 0 then 0 else jrem x y)
      by_cases c : y = 0
      · rw [if_pos c, if_pos c]
      · rw [if_neg c, if_neg c, if_neg c]
  · rcases h3 with rfl | rfl <;> rfl
  · rcases h3 with rfl | rfl | rfl
    · show (if y ≤ x then some 0 else some 1) = some (if y ≤ x then 0 else 1)
      split <;> rfl
    · show (if x = y then some 1 else some 0) = some (if x = y then 1 else 0)
      split <;> rfl
    · show (if x ≤ y then some 0 else some 1) = some (if x ≤ y then 0 else 1)
      split <;> rfl
  · subst h3
    show (if x = 0 then some 0 else if y = 0 then some 0 else some 1) = some (if x = 0 then 0 else if y = 0 then 0 else 1)
    split
    · rfl
    · split <;> rfl
  · subst h3
    show (if x = 0 then (if y = 0 then some 0 else some 1) else some 1) = some (if x = 0 then (if y = 0 then 0 else 1) else 1)
    split
    · split <;> rfl
    · rfl
  · rw [h3] at h
    exact absurd h (by decide)
theorem div_m1 (x : Int32) : x / (-1) = -x := by
  apply Int32.toInt_inj.mp
  rw [Int32.toInt_div, show (-1 : Int32).toInt = -1 from rfl, Int.tdiv_neg, Int.tdiv_one, Int32.toInt_neg]
theorem jrem_m1 (x : Int32) : jrem x (-1) = 0 := by
  show x - x / (-1) * (-1) = 0
  rw [div_m1, Int32.neg_mul_neg, Int32.mul_one, Int32.sub_self]
theorem m_twoE (q : SS) {a x y : Int32} (h : 1 ≤ (lvc a).toInt) : f_X12_twoOf q a x y = some (op2 a x y) := by
  unfold f_X12_twoOf b_X12_twoOf_163 b_X12_twoOf_226
  rcases lvc_in a with ⟨_, h3⟩ | ⟨_, h3⟩ | ⟨_, h3⟩ | ⟨_, h3⟩ | ⟨_, h3⟩ | h3
  · rcases h3 with rfl | rfl | rfl
    · rfl
    · show (if y = 0 then some 0 else if y = -1 then some (-x) else if y = 0 then none else some (x / y)) = some (if y = 0 then 0 else x / y)
      by_cases c : y = 0
      · rw [if_pos c, if_pos c]
      · rw [if_neg c, if_neg c, if_neg c]
        by_cases e : y = -1
        · rw [if_pos e, e, div_m1]
        · rw [if_neg e]
    · show (if y = 0 then some 0 else if y = -1 then some 0 else if y = 0 then none else some (jrem x y)) = some (if y = 0 then 0 else jrem x y)
      by_cases c : y = 0
      · rw [if_pos c, if_pos c]
      · rw [if_neg c, if_neg c, if_neg c]
        by_cases e : y = -1
        · rw [if_pos e, e, jrem_m1]
        · rw [if_neg e]
  · rcases h3 with rfl | rfl <;> rfl
  · rcases h3 with rfl | rfl | rfl
    · show (if y ≤ x then some 0 else some 1) = some (if y ≤ x then 0 else 1)
      split <;> rfl
    · show (if x = y then some 1 else some 0) = some (if x = y then 1 else 0)
      split <;> rfl
    · show (if x ≤ y then some 0 else some 1) = some (if x ≤ y then 0 else 1)
      split <;> rfl
  · subst h3
    show (if x = 0 then some 0 else if y = 0 then some 0 else some 1) = some (if x = 0 then 0 else if y = 0 then 0 else 1)
    split
    · rfl
    · split <;> rfl
  · subst h3
    show (if x = 0 then (if y = 0 then some 0 else some 1) else some 1) = some (if x = 0 then (if y = 0 then 0 else 1) else 1)
    split
    · split <;> rfl
    · rfl
  · rw [h3] at h
    exact absurd h (by decide)
theorem lv_ne {a : Int32} (h : 1 ≤ (lvc a).toInt) : a ≠ 1 ∧ a ≠ 2 ∧ a ≠ 3 ∧ a ≠ 4 ∧ a ≠ 48 ∧ a ≠ 110 ∧ a ≠ 126 ∧ a ≠ 33 ∧ a ≠ 63 ∧ a ≠ 59 := by
  rcases lvc_in a with ⟨_, h3⟩ | ⟨_, h3⟩ | ⟨_, h3⟩ | ⟨_, h3⟩ | ⟨_, h3⟩ | h3
  · rcases h3 with rfl | rfl | rfl <;> decide
  · rcases h3 with rfl | rfl <;> decide
  · rcases h3 with rfl | rfl | rfl <;> decide
  · subst h3; decide
  · subst h3; decide
  · rw [h3] at h; exact absurd h (by decide)
/-- one step of the class's -/
theorem x_doE {y : SS} {st : List Int32} {a w a' w' : Int32} {d : Nat} (h : CP y st) (hl : st.length < 121) (e : al a w a' w') (s : stepd a' w' st.length = some d) : T (f_X4_doStep y a w) (fun r => CP r (stp (y.1 16) a' w' st) ∧ (stp (y.1 16) a' w' st).length = d ∧ Fr wE v0 y r ∧ r.1 16 = y.1 16) := by
  obtain ⟨rfl, e⟩ := e
  have fw : ∀ (z : SS) (i : Nat) (v u : Int32), Fr wE v0 y z → z.1 16 = y.1 16 → Fr wE v0 y (sI (sI z 15 i v) 12 5 u) ∧ (sI (sI z 15 i v) 12 5 u).1 16 = y.1 16 := fun z i v u f g => ⟨Fr_sI (Fr_sI f rfl) rfl, by rw [sI_ro (by decide), sI_ro (by decide)]; exact g⟩
  have fp : ∀ (z : SS) (u : Int32), Fr wE v0 y z → z.1 16 = y.1 16 → Fr wE v0 y (sI z 12 5 u) ∧ (sI z 12 5 u).1 16 = y.1 16 := fun z u f g => ⟨Fr_sI f rfl, by rw [sI_ro (by decide)]; exact g⟩
  have f0 : Fr wE v0 y y ∧ y.1 16 = y.1 16 := ⟨Fr_refl y, rfl⟩
  unfold f_X4_doStep b_X4_doStep_43 b_X4_doStep_44 b_X4_doStep_87
  rcases e with ⟨rfl, rfl⟩ | ⟨rfl, rfl⟩ | ⟨rfl, rfl⟩ | ⟨rfl, rfl⟩ | ⟨rfl, hv⟩
  · have s2 := stepd_2 s
    have l0 : (0 : Int32).toInt = 0 := rfl
    have l6 : (6 : Int32).toInt = 6 := rfl
    refine T_q (by decide) (T_p rfl (T_ltn (by omega) (T_len (by omega) (T_vp s2.1.1 s2.1.2 (T_b (CP_push h hl) (fun r hr => T_some.mpr ?_))))))
    refine ⟨hr.1, by rw [s2.2]; rfl, ?_⟩
    rw [hr.2]
    exact fw y _ _ _ f0.1 f0.2
  · have s1 : some (st.length + 1) = some d := s
    have := Option.some.inj s1
    refine T_p rfl (T_b (CP_push h hl) (fun r hr => T_some.mpr ⟨hr.1, by rw [← this]; rfl, ?_⟩))
    rw [hr.2]
    exact fw y _ _ _ f0.1 f0.2
  · have s3 := stepd_34 (Or.inl rfl) s
    cases st with
    | nil => exact absurd s3.1 (by decide)
    | cons x r =>
      rw [List.length_cons] at hl s3
      have hd : (stp (y.1 16) 3 w' (x :: r)) = (if x = 0 then 1 else 0) :: r := rfl
      rw [hd]
      refine T_q (by decide) (T_q (by decide) (T_q (by decide) (T_p rfl (T_b (CP_pop h (by omega)) (fun r1 h1 => ?_)))))
      have f1 := fp y (y.1 12 5 - 1) f0.1 f0.2
      rw [← h1.2.2] at f1
      rw [h1.1]
      refine T_i (fun c => ?_) (fun c => ?_)
      · rw [if_pos c]
        refine T_b (CP_push h1.2.1 (by omega)) (fun r2 h2 => T_some.mpr ⟨h2.1, by rw [List.length_cons]; omega, ?_⟩)
        rw [h2.2]
        exact fw _ _ _ _ f1.1 f1.2
      · rw [if_neg c]
        refine T_b (CP_push h1.2.1 (by omega)) (fun r2 h2 => T_some.mpr ⟨h2.1, by rw [List.length_cons]; omega, ?_⟩)
        rw [h2.2]
        exact fw _ _ _ _ f1.1 f1.2
  · have s3 := stepd_34 (Or.inr rfl) s
    cases st with
    | nil => exact absurd s3.1 (by decide)
    | cons x r =>
      rw [List.length_cons] at hl s3
      have hd : (stp (y.1 16) 4 w' (x :: r)) = (-x) :: r := rfl
      rw [hd]
      refine T_q (by decide) (T_q (by decide) (T_p rfl (T_b (CP_pop h (by omega)) (fun r1 h1 => ?_))))
      have f1 := fp y (y.1 12 5 - 1) f0.1 f0.2
      rw [← h1.2.2] at f1
      rw [h1.1]
      refine T_b (CP_push h1.2.1 (by omega)) (fun r2 h2 => T_some.mpr ⟨h2.1, by rw [List.length_cons]; omega, ?_⟩)
      rw [h2.2]
      exact fw _ _ _ _ f1.1 f1.2
  · obtain ⟨n1, n2, n3, n4, n5, n6, n7, n8, _⟩ := lv_ne hv
    have s5 := stepd_5 n1 n2 n3 n4 s
    cases st with
    | nil => exact absurd s5.1 (by decide)
    | cons b r =>
      cases r with
      | nil => exact absurd s5.1 (by show ¬ (2 ≤ 1); omega)
      | cons x r =>
        rw [List.length_cons, List.length_cons] at hl s5
        have hd : (stp (y.1 16) a' w' (b :: x :: r)) = op2 a' x b :: r := by
          unfold stp
          rw [if_neg n1, if_neg n2, if_neg n3, if_neg n4]
        rw [hd]
        refine T_q n5 (T_q n6 (T_q n7 (T_q n8 (T_b (CP_pop h (by rw [List.length_cons]; omega)) (fun r1 h1 => T_b (CP_pop h1.2.1 (by omega)) (fun r2 h2 => T_rw (x_joinE _ hv) ?_))))))
        have f1 := fp y (y.1 12 5 - 1) f0.1 f0.2
        rw [← h1.2.2] at f1
        have f2 := fp r1.2 (r1.2.1 12 5 - 1) f1.1 f1.2
        rw [← h2.2.2] at f2
        rw [h1.1, h2.1]
        refine T_b (CP_push h2.2.1 (by omega)) (fun r3 h3 => T_some.mpr ⟨h3.1, by rw [List.length_cons]; omega, ?_⟩)
        rw [h3.2]
        exact fw _ _ _ _ f2.1 f2.2
/-! ===== a segment on either side ===== -/
def FW (rec : SS → Int32 → Int32 → Option (Int32 × SS)) (q : SS) (l7 l8 : Int32) : Option (Int32 × SS) :=
  if (q.1 12 4) ≤ l8 then (some ((0 : Int32), q)) else (if (121 : Int32) ≤ l8 then (some ((0 : Int32), q)) else (if vin l8 121 then nm (q.1 13 l8.toNatClampNeg) fun v8 => if v8 = (63 : Int32) then ((f_X4_pop q).bind fun r9 => if r9.1 = 0 then (b_X4_workOut_100 rec r9.2 l8 (0 : Int32)) else (b_X4_workOut_100 rec r9.2 l8 (1 : Int32))) else (if v8 = (59 : Int32) then ((f_X4_pop q).bind fun r11 => if l7 = 0 then (b_X4_workOut_145 rec r11.2 (1 : Int32) l8) else (some (r11.1, r11.2))) else (if vin l8 121 then (f_X4_doStep q v8 (q.1 14 l8.toNatClampNeg)).bind fun r13 => b_X4_workOut_145 rec r13 l7 l8 else none)) else none))
theorem FW_e : b_X4_workOut_56 = fx3 FW FU := rfl
theorem al_ne {a w a' w' : Int32} (h : al a w a' w') : a ≠ 63 ∧ a ≠ 59 := by
  rcases h.2 with ⟨rfl, _⟩ | ⟨rfl, _⟩ | ⟨rfl, _⟩ | ⟨rfl, _⟩ | ⟨_, hv⟩
  · decide
  · decide
  · decide
  · decide
  · have := lv_ne hv
    exact ⟨this.2.2.2.2.2.2.2.2.1, this.2.2.2.2.2.2.2.2.2⟩
/-- the class's steps of a segment -/
theorem x_seg {A' W' : Nat → Int32} {q : SS} {l7 : Int32} {P : Int32 × SS → Prop} : ∀ (n c s k d : Nat) (y : SS) (c32 : Int32) (st : List Int32), Fr wE v0 q y → CP y st → c32.toInt = (c : Int) → st.length ≤ c → (c : Int) + n ≤ (q.1 12 4).toInt → (q.1 12 4).toInt ≤ 121 → (∀ j : Nat, j < n → al (q.1 13 (c + j)) (q.1 14 (c + j)) (A' (s + j)) (W' (s + j))) → dp A' W' n s st.length = some d → (∀ (y' : SS) (e32 : Int32), Fr wE v0 q y' → CP y' (evl (y.1 16) A' W' n s st) → (evl (y.1 16) A' W' n s st).length = d → e32.toInt = (c : Int) + n → y'.1 16 = y.1 16 → T (fx3 FW k y' l7 e32) P) → T (fx3 FW (k + n) y l7 c32) P
  | 0, c, s, k, d, y, c32, st, f, h, hc, _, _, _, _, hd, K => by
    have hd' : some st.length = some d := hd
    exact K y c32 f h (Option.some.inj hd') (by omega) rfl
  | n + 1, c, s, k, d, y, c32, st, f, h, hc, hl, hb, h121, ha, hd, K => by
    have l121 : (121 : Int32).toInt = 121 := rfl
    have hd' : (stepd (A' s) (W' s) st.length).bind (fun d' => dp A' W' n (s + 1) d') = some d := hd
    cases g : stepd (A' s) (W' s) st.length with
    | none => rw [g] at hd'; cases hd'
    | some d1 =>
      rw [g] at hd'
      have hd1 : dp A' W' n (s + 1) d1 = some d := hd'
      have e4 : y.1 12 4 = q.1 12 4 := f.1 12 4 rfl
      have ix : c32.toNatClampNeg = c := by
        show c32.toInt.toNat = _
        omega
      have e13 : y.1 13 = q.1 13 := Fr_r f (fun _ => rfl)
      have e14 : y.1 14 = q.1 14 := Fr_r f (fun _ => rfl)
      have a0 := ha 0 (by omega)
      rw [Nat.add_zero, Nat.add_zero] at a0
      have ne := al_ne a0
      have i := inc1 (a := c32) (by omega) (by omega)
      show T (FW (fx3 FW (k + n)) y l7 c32) P
      generalize hrec : fx3 FW (k + n) = rec
      unfold FW b_X4_workOut_145
      rw [e4, e13, e14, ix]
      refine T_len (by omega) (T_len (by omega) (T_vp (by omega) (by show c32.toInt < 121; omega) (T_nm (T_q ne.1 (T_q ne.2 (T_vp (by omega) (by show c32.toInt < 121; omega) (T_b (x_doE h (by omega) a0 g) (fun r hr => ?_))))))))
      rw [← hrec]
      refine x_seg n (c + 1) (s + 1) k d r (c32 + 1) _ (Fr_tr f hr.2.2.1) hr.1 (by omega) ?_ (by omega) h121 (fun j hj => ?_) (by rw [hr.2.1]; exact hd1) (fun y' e32 g1 g2 g3 g4 g5 => ?_)
      · have : d1 ≤ st.length + 1 := by
          have := hr.2.1
          unfold stepd at g
          split at g
          · have := Option.some.inj g; omega
          · split at g
            · split at g
              · have := Option.some.inj g; omega
              · cases g
            · split at g
              · split at g
                · have := Option.some.inj g; omega
                · cases g
              · split at g
                · have := Option.some.inj g; omega
                · cases g
        rw [hr.2.1]
        omega
      · have := ha (j + 1) (by omega)
        rw [show c + (j + 1) = c + 1 + j by omega, show s + (j + 1) = s + 1 + j by omega] at this
        exact this
      · rw [hr.2.2.2] at g2 g3 g5
        exact K y' e32 g1 g2 g3 (by omega) g5
/-! ===== the model's segment, exactly ===== -/
def MPl (z : SS) (st : List Int32) : Prop := ∀ j : Nat, j < st.length → z.1 80 (st.length - 1 - j) = st.getD j 0
theorem MPl_push {z : SS} {st : List Int32} (v : Int32) (h : MPl z st) : MPl (sI z 80 st.length v) (v :: st) := fun j hj => by
  rw [List.length_cons] at hj ⊢
  rw [sI_rd]
  cases j with
  | zero => rw [if_pos ⟨rfl, by omega⟩]; rfl
  | succ j =>
    rw [if_neg (fun c => by have := c.2; omega), show st.length + 1 - 1 - (j + 1) = st.length - 1 - j by omega, h j (by omega)]
    rfl
theorem MPl_drop {z : SS} {st : List Int32} {v : Int32} (h : MPl z (v :: st)) : MPl z st := fun j hj => by
  have := h (j + 1) (by rw [List.length_cons]; omega)
  rw [List.length_cons, show st.length + 1 - 1 - (j + 1) = st.length - 1 - j by omega] at this
  exact this
theorem MPl_top {z : SS} {st : List Int32} {v : Int32} (h : MPl z (v :: st)) : z.1 80 st.length = v := by
  have := h 0 (by rw [List.length_cons]; omega)
  rw [List.length_cons, show st.length + 1 - 1 - 0 = st.length by omega] at this
  exact this
/-- a model's step is of a known kind -/
def kn (a : Int32) : Prop := a = 1 ∨ a = 2 ∨ a = 3 ∨ a = 4 ∨ 1 ≤ (lvc a).toInt
theorem m_workedE {q : SS} {s e : Int32} (hs : 0 ≤ s.toInt) (he : e.toInt ≤ 130) (ok : okSeg (q.1 74) (q.1 75) s.toInt e.toInt) (hk : ∀ k : Nat, s.toInt ≤ (k : Int) → (k : Int) < e.toInt → kn (q.1 74 k)) : T (f_X12_worked q 0 s e) (fun r => F80 q r.2 ∧ evl (q.1 79) (q.1 74) (q.1 75) (e.toInt - s.toInt).toNat s.toInt.toNat [] = [r.1]) := by
  have o130 : (130 : Int32) * 0 = 0 := by decide
  have z0 : ∀ x : Int32, (0 : Int32) + x = x := fun x => Int32.zero_add x
  unfold f_X12_worked
  rw [o130, z0]
  refine T_nm ?_
  unfold b_X12_worked_12
  refine T_fx5 (fun z l1 l3 l4 l5 => F80 q z ∧ l1 = 0 ∧ l3 = e ∧ (s.toInt ≤ l5.toInt ∧ (l5.toInt ≤ e.toInt ∨ s = l5)) ∧ ∃ st : List Int32, MPl z st ∧ (l4.toInt = (st.length : Int) ∧ (st.length : Int) ≤ l5.toInt - s.toInt) ∧ dp (q.1 74) (q.1 75) (e.toInt - l5.toInt).toNat l5.toInt.toNat st.length = some 1 ∧ evl (q.1 79) (q.1 74) (q.1 75) (e.toInt - l5.toInt).toNat l5.toInt.toNat st = evl (q.1 79) (q.1 74) (q.1 75) (e.toInt - s.toInt).toNat s.toInt.toNat []) (fun _ _ _ _ l5 => (e.toInt - l5.toInt).toNat) ?_ _ _ _ _ _ _ ⟨⟨rfl, fun _ _ => rfl⟩, rfl, rfl, ⟨by omega, Or.inr rfl⟩, [], fun j hj => absurd hj (by show ¬ j < 0; omega), ⟨rfl, by show (0 : Int) ≤ _; omega⟩, ok, rfl⟩ (by unfold FU; omega)
  rintro rec z l1 l3 l4 l5 ⟨hf, rfl, rfl, ⟨b1, _⟩, st, hP, ⟨n4, nb⟩, hd, hE⟩ hr
  rw [o130, z0]
  refine T_le (fun le => T_vp (by decide) (by decide) (T_some.mpr ⟨hf, ?_⟩)) (fun g => T_vp (by omega) (by show l5.toInt < 260; omega) (T_nm ?_))
  · rw [← hE]
    rw [show (l3.toInt - l5.toInt).toNat = 0 by omega] at hd ⊢
    have hd' : some st.length = some 1 := hd
    have h1 := Option.some.inj hd'
    cases st with
    | nil => cases h1
    | cons v r =>
      cases r with
      | nil =>
        have := MPl_top hP
        show [v] = [z.1 80 (0 : Int32).toNatClampNeg]
        exact congrArg (fun x => [x]) this.symm
      | cons u r => rw [List.length_cons, List.length_cons] at h1; omega
  have e5 := inc1 (a := l5) (by omega) (by omega)
  obtain ⟨m, hm⟩ : ∃ m : Nat, (l3.toInt - l5.toInt).toNat = m + 1 := ⟨(l3.toInt - l5.toInt).toNat - 1, by omega⟩
  rw [hm] at hd hE
  obtain ⟨d, sd, hd2⟩ := dp_step hd
  have i5 : (l5 + 1).toInt.toNat = l5.toInt.toNat + 1 := by omega
  have m5 : (l3.toInt - (l5 + 1).toInt).toNat = m := by omega
  have hE2 : evl (q.1 79) (q.1 74) (q.1 75) m (l5.toInt.toNat + 1) (stp (q.1 79) (q.1 74 l5.toInt.toNat) (q.1 75 l5.toInt.toNat) st) = evl (q.1 79) (q.1 74) (q.1 75) (l3.toInt - s.toInt).toNat s.toInt.toNat [] := hE
  have hkn := hk l5.toInt.toNat (by omega) (by omega)
  have go : ∀ (y : SS) (v : Int32) (st' : List Int32), F80 q y → MPl y st' → stp (q.1 79) (q.1 74 l5.toInt.toNat) (q.1 75 l5.toInt.toNat) st = st' → v.toInt = (st'.length : Int) → st'.length = d → (d : Int) ≤ st.length + 1 → T (rec y 0 l3 v (l5 + 1)) (fun r => F80 q r.2 ∧ evl (q.1 79) (q.1 74) (q.1 75) (l3.toInt - s.toInt).toNat s.toInt.toNat [] = [r.1]) := by
    intro y v st' hy hp hst hv hdl hdn
    refine hr _ _ _ _ _ ⟨hy, rfl, rfl, ⟨by omega, Or.inl (by omega)⟩, st', hp, ⟨hv, by omega⟩, ?_, ?_⟩ (by omega)
    · rw [m5, i5, hdl]
      exact hd2
    · rw [m5, i5, ← hst]
      exact hE2
  have e4 := inc1 (a := l4) (by omega) (by omega)
  have d4 : 1 ≤ st.length → (l4 - 1).toInt = l4.toInt - 1 := fun _ => dec1 (by omega)
  have a74 : z.1 74 l5.toNatClampNeg = q.1 74 l5.toInt.toNat := by rw [hf.2 74 (by decide)]; rfl
  have a75 : z.1 75 l5.toNatClampNeg = q.1 75 l5.toInt.toNat := by rw [hf.2 75 (by decide)]; rfl
  have a79 : z.1 79 = q.1 79 := hf.2 79 (by decide)
  have ix4 : l4.toNatClampNeg = st.length := by
    show l4.toInt.toNat = _
    omega
  rw [a74]
  generalize ga : q.1 74 l5.toInt.toNat = A at sd hkn go ⊢
  generalize gw : q.1 75 l5.toInt.toNat = W at sd a75 go
  unfold b_X12_worked_45 b_X12_worked_79 b_X12_worked_117 b_X12_worked_182
  have v130 : ((130 : Nat) : Int) = 130 := rfl
  by_cases c1 : A = 1
  · subst c1
    have sd' : some (st.length + 1) = some d := sd
    have := Option.some.inj sd'
    refine T_p rfl (T_p rfl (T_vp (by omega) (by show l5.toInt < 260; omega) (T_vp (by omega) (by rw [v130]; omega) (T_nm ?_))))
    rw [a75, ix4]
    exact go _ _ _ (F80_s hf _ _) (MPl_push _ hP) rfl (by rw [List.length_cons]; omega) (by rw [List.length_cons]; omega) (by omega)
  by_cases c2 : A = 2
  · subst c2
    have s2 := stepd_2 sd
    refine T_q c1 (T_p rfl (T_q c1 (T_vp (by omega) (by show l5.toInt < 260; omega) (T_vp ?_ ?_ (T_vp (by omega) (by rw [v130]; omega) (T_nm ?_))))))
    · rw [a75]; exact s2.1.1
    · rw [a75]; exact s2.1.2
    rw [a75, ix4, a79]
    exact go _ _ _ (F80_s hf _ _) (MPl_push _ hP) rfl (by rw [List.length_cons]; omega) (by rw [List.length_cons]; omega) (by omega)
  by_cases c3 : A = 3
  · subst c3
    have s3 := stepd_34 (Or.inl rfl) sd
    have := d4 s3.1
    cases st with
    | nil => exact absurd s3.1 (by decide)
    | cons x r =>
      rw [List.length_cons] at n4 nb s3
      have ixm : (l4 - 1).toNatClampNeg = r.length := by
        show (l4 - 1).toInt.toNat = _
        omega
      have tp := MPl_top hP
      refine T_q c1 (T_q c2 (T_p rfl (T_vp (by omega) (by rw [v130]; omega) ?_)))
      rw [ixm, tp]
      refine T_i (fun c => T_vp (by omega) (by rw [v130]; omega) (T_nm ?_)) (fun c => T_vp (by omega) (by rw [v130]; omega) (T_nm ?_))
      · refine go _ _ _ (F80_s hf _ _) (MPl_push 1 (MPl_drop hP)) ?_ (by rw [List.length_cons]; omega) (by rw [List.length_cons]; omega) (by rw [List.length_cons]; omega)
        show (if x = 0 then (1 : Int32) else 0) :: r = 1 :: r
        rw [if_pos c]
      · refine go _ _ _ (F80_s hf _ _) (MPl_push 0 (MPl_drop hP)) ?_ (by rw [List.length_cons]; omega) (by rw [List.length_cons]; omega) (by rw [List.length_cons]; omega)
        show (if x = 0 then (1 : Int32) else 0) :: r = 0 :: r
        rw [if_neg c]
  by_cases c4 : A = 4
  · subst c4
    have s3 := stepd_34 (Or.inr rfl) sd
    have := d4 s3.1
    cases st with
    | nil => exact absurd s3.1 (by decide)
    | cons x r =>
      rw [List.length_cons] at n4 nb s3
      have ixm : (l4 - 1).toNatClampNeg = r.length := by
        show (l4 - 1).toInt.toNat = _
        omega
      have tp := MPl_top hP
      refine T_q c1 (T_q c2 (T_q c3 (T_p rfl (T_vp (by omega) (by rw [v130]; omega) (T_vp (by omega) (by rw [v130]; omega) (T_nm ?_))))))
      rw [ixm, tp]
      exact go _ _ _ (F80_s hf _ _) (MPl_push (-x) (MPl_drop hP)) rfl (by rw [List.length_cons]; omega) (by rw [List.length_cons]; omega) (by rw [List.length_cons]; omega)
  have s5 := stepd_5 c1 c2 c3 c4 sd
  have hv : 1 ≤ (lvc A).toInt := by
    rcases hkn with h | h | h | h | h
    · exact absurd h c1
    · exact absurd h c2
    · exact absurd h c3
    · exact absurd h c4
    · exact h
  cases st with
  | nil => exact absurd s5.1 (by decide)
  | cons b r =>
    cases r with
    | nil => exact absurd s5.1 (by show ¬ (2 ≤ 1); omega)
    | cons x r =>
      rw [List.length_cons, List.length_cons] at n4 nb s5
      have em : l4 + (-1) = l4 - 1 := by rw [Int32.sub_eq_add_neg]
      rw [em]
      have d1 := d4 (by rw [List.length_cons, List.length_cons]; omega)
      have d2 : (l4 - 1 - 1).toInt = (l4 - 1).toInt - 1 := dec1 (by omega)
      have ix1 : (l4 - 1).toNatClampNeg = r.length + 1 := by
        show (l4 - 1).toInt.toNat = _
        omega
      have ix2 : (l4 - 1 - 1).toNatClampNeg = r.length := by
        show (l4 - 1 - 1).toInt.toNat = _
        omega
      have t1 := MPl_top hP
      rw [List.length_cons] at t1
      have t2 := MPl_top (MPl_drop hP)
      refine T_q c1 (T_q c2 (T_q c3 (T_q c4 (T_vp (by omega) (by rw [v130]; omega) (T_vp (by omega) (by rw [v130]; omega) ?_)))))
      rw [ix1, ix2, t1, t2]
      refine T_rw (m_twoE z hv) (T_vp (by omega) (by rw [v130]; omega) (T_nm ?_))
      refine go _ _ _ (F80_s hf _ _) (MPl_push _ (MPl_drop (MPl_drop hP))) ?_ (by rw [List.length_cons]; omega) (by rw [List.length_cons]; omega) (by rw [List.length_cons, List.length_cons]; omega)
      unfold stp
      rw [if_neg c1, if_neg c2, if_neg c3, if_neg c4]
theorem al_kn {a w a' w' : Int32} (h : al a w a' w') : kn a' := by
  rcases h.2 with ⟨_, rfl⟩ | ⟨_, rfl⟩ | ⟨_, rfl⟩ | ⟨_, rfl⟩ | ⟨rfl, hv⟩
  · exact Or.inr (Or.inl rfl)
  · exact Or.inl rfl
  · exact Or.inr (Or.inr (Or.inl rfl))
  · exact Or.inr (Or.inr (Or.inr (Or.inl rfl)))
  · exact Or.inr (Or.inr (Or.inr (Or.inr hv)))
/-! ===== a told law, on either side ===== -/
def LAw2 (qc q : SS) (cs : Nat → Nat) : Prop := cs 0 = 0 ∧ (cs (q.1 76 0).toInt.toNat : Int) = (qc.1 12 4).toInt ∧ ∀ l : Nat, (l : Int) < (q.1 76 0).toInt → lineAl (qc.1 13) (qc.1 14) (cs l) (cs (l + 1)) (q.1 74) (q.1 75) (sLo q l) (q.1 77 l).toInt (q.1 78 l).toInt
def LAw (q : SS) (cs : Nat → Nat) : Prop := LAw2 q q cs
def RLW (q : SS) : Prop := (q.1 60 30 = 0 ∧ (q.1 12 4).toInt ≤ 0) ∨ (q.1 60 30 = 1 ∧ 0 < (q.1 12 4).toInt ∧ (q.1 12 4).toInt ≤ 121 ∧ ∃ cs, LAw q cs)
theorem evl_N {N N' A W : Nat → Int32} (h : ∀ i, i < 6 → N i = N' i) : ∀ (n i : Nat) (st : List Int32) (d : Nat), dp A W n i st.length = some d → evl N A W n i st = evl N' A W n i st
  | 0, _, _, _, _ => rfl
  | n + 1, i, st, d, hd => by
    have hd' : (stepd (A i) (W i) st.length).bind (fun d' => dp A W n (i + 1) d') = some d := hd
    cases g : stepd (A i) (W i) st.length with
    | none => rw [g] at hd'; cases hd'
    | some d1 =>
      rw [g] at hd'
      have hd1 : dp A W n (i + 1) d1 = some d := hd'
      have e : stp N (A i) (W i) st = stp N' (A i) (W i) st := by
        unfold stp
        by_cases c2 : A i = 2
        · rw [c2] at g
          have := stepd_2 g
          rw [h (W i).toInt.toNat (by omega)]
        · rw [if_neg c2, if_neg c2]
      have l1 : (stp N' (A i) (W i) st).length = d1 := by
        unfold stp
        unfold stepd at g
        by_cases c1 : A i = 1
        · rw [if_pos c1] at g ⊢
          exact Option.some.inj g
        rw [if_neg c1] at g ⊢
        by_cases c2 : A i = 2
        · rw [if_pos c2] at g ⊢
          split at g
          · exact Option.some.inj g
          · cases g
        rw [if_neg c2] at g ⊢
        by_cases c3 : A i = 3
        · rw [if_pos (Or.inl c3)] at g
          rw [if_pos c3]
          split at g
          · cases st with
            | nil => exact absurd (by assumption : 1 ≤ ([] : List Int32).length) (by decide)
            | cons x r => exact Option.some.inj g
          · cases g
        rw [if_neg c3]
        by_cases c4 : A i = 4
        · rw [if_pos (Or.inr c4)] at g
          rw [if_pos c4]
          split at g
          · cases st with
            | nil => exact absurd (by assumption : 1 ≤ ([] : List Int32).length) (by decide)
            | cons x r => exact Option.some.inj g
          · cases g
        rw [if_neg c4]
        rw [if_neg (fun x => x.elim c3 c4)] at g
        split at g
        · cases st with
          | nil => exact absurd (by assumption : 2 ≤ ([] : List Int32).length) (by decide)
          | cons x r =>
            cases r with
            | nil => exact absurd (by assumption : 2 ≤ ([x] : List Int32).length) (by show ¬ (2 ≤ 1); omega)
            | cons u r =>
              have := Option.some.inj g
              show r.length + 1 = d1
              rw [List.length_cons, List.length_cons] at this
              omega
        · cases g
      show evl N A W n (i + 1) (stp N (A i) (W i) st) = evl N' A W n (i + 1) (stp N' (A i) (W i) st)
      rw [e]
      exact evl_N h n (i + 1) _ d (by rw [l1]; exact hd1)
/-- the class's loop at a mark -/
theorem W_63 {q y : SS} {l7 c32 v : Int32} {c k : Nat} {P : Int32 × SS → Prop} (f : Fr wE v0 q y) (h : CP y [v]) (hc : c32.toInt = (c : Int)) (hb : (c : Int) < (q.1 12 4).toInt) (h121 : (q.1 12 4).toInt ≤ 121) (h63 : q.1 13 c = 63) (K : ∀ (y' : SS), Fr wE v0 q y' → CP y' [] → y'.1 16 = y.1 16 → T (fx3 FW k y' (if v = 0 then 0 else 1) (c32 + 1)) P) : T (fx3 FW (k + 1) y l7 c32) P := by
  have l121 : (121 : Int32).toInt = 121 := rfl
  have e4 : y.1 12 4 = q.1 12 4 := f.1 12 4 rfl
  have ix : c32.toNatClampNeg = c := by
    show c32.toInt.toNat = _
    omega
  have e13 : y.1 13 = q.1 13 := Fr_r f (fun _ => rfl)
  show T (FW (fx3 FW k) y l7 c32) P
  generalize hrec : fx3 FW k = rec
  unfold FW b_X4_workOut_100 b_X4_workOut_145
  rw [e4, e13, ix]
  refine T_len (by omega) (T_len (by omega) (T_vp (by omega) (by show c32.toInt < 121; omega) (T_nm (T_p h63 (T_b (CP_pop h (by decide)) (fun r hr => ?_))))))
  have fr : Fr wE v0 q r.2 := by
    rw [hr.2.2]
    exact Fr_sI f rfl
  have r16 : r.2.1 16 = y.1 16 := by
    rw [hr.2.2]
    exact sI_ro (by decide)
  have := K r.2 fr hr.2.1 r16
  rw [hrec] at this
  rw [hr.1]
  refine T_i (fun c => ?_) (fun c => ?_)
  · rw [if_pos c] at this; exact this
  · rw [if_neg c] at this; exact this
theorem W_59 {q y : SS} {l7 c32 v : Int32} {c k : Nat} {P : Int32 × SS → Prop} (f : Fr wE v0 q y) (h : CP y [v]) (hc : c32.toInt = (c : Int)) (hb : (c : Int) < (q.1 12 4).toInt) (h121 : (q.1 12 4).toInt ≤ 121) (h59 : q.1 13 c = 59) (K1 : l7 ≠ 0 → ∀ r : Int32 × SS, r.1 = v → P r) (K0 : l7 = 0 → ∀ (y' : SS), Fr wE v0 q y' → CP y' [] → y'.1 16 = y.1 16 → T (fx3 FW k y' 1 (c32 + 1)) P) : T (fx3 FW (k + 1) y l7 c32) P := by
  have l121 : (121 : Int32).toInt = 121 := rfl
  have e4 : y.1 12 4 = q.1 12 4 := f.1 12 4 rfl
  have ix : c32.toNatClampNeg = c := by
    show c32.toInt.toNat = _
    omega
  have e13 : y.1 13 = q.1 13 := Fr_r f (fun _ => rfl)
  show T (FW (fx3 FW k) y l7 c32) P
  generalize hrec : fx3 FW k = rec
  unfold FW b_X4_workOut_145
  rw [e4, e13, ix]
  refine T_len (by omega) (T_len (by omega) (T_vp (by omega) (by show c32.toInt < 121; omega) (T_nm (T_q (by rw [h59]; decide) (T_p h59 (T_b (CP_pop h (by decide)) (fun r hr => T_i (fun c => ?_) (fun c => T_some.mpr (K1 c _ hr.1)))))))))
  have fr : Fr wE v0 q r.2 := by
    rw [hr.2.2]
    exact Fr_sI f rfl
  have r16 : r.2.1 16 = y.1 16 := by
    rw [hr.2.2]
    exact sI_ro (by decide)
  have := K0 c r.2 fr hr.2.1 r16
  rw [hrec] at this
  exact this
/-- a whole segment of the class's, ended by its mark -/
theorem x_segv {q y : SS} {A' W' N : Nat → Int32} {l7 c32 : Int32} {c k : Nat} {s e : Int} {v : Int32} {P : Int32 × SS → Prop} (f : Fr wE v0 q y) (h : CP y []) (hc : c32.toInt = (c : Int)) (se : s ≤ e) (hs : 0 ≤ s) (hb : (c : Int) + (e - s) ≤ (q.1 12 4).toInt) (h121 : (q.1 12 4).toInt ≤ 121) (ha : segAl (q.1 13) (q.1 14) c A' W' s e) (ok : okSeg A' W' s e) (hN : ∀ i, i < 6 → y.1 16 i = N i) (hv : evl N A' W' (e - s).toNat s.toNat [] = [v]) (K : ∀ (y' : SS) (e32 : Int32), Fr wE v0 q y' → CP y' [v] → e32.toInt = ((c + (e - s).toNat : Nat) : Int) → y'.1 16 = y.1 16 → T (fx3 FW k y' l7 e32) P) : T (fx3 FW (k + (e - s).toNat) y l7 c32) P := by
  refine x_seg (A' := A') (W' := W') (e - s).toNat c s.toNat k 1 y c32 [] f h hc (Nat.zero_le _) (by omega) h121 (fun j hj => ha j (by omega)) ok (fun y' e32 g1 g2 g3 g4 g5 => ?_)
  rw [evl_N hN _ _ [] 1 ok, hv] at g2
  exact K y' e32 g1 g2 (by omega) g5
theorem T2_P {α β : Type} {o1 : Option α} {o2 : Option β} {R : α → β → Prop} (h : T2 o1 o2 R) : T o1 (fun a => ∃ b, o2 = some b ∧ R a b) := by
  obtain ⟨a, b, h1, h2, hr⟩ := h
  exact ⟨a, h1, b, h2, hr⟩
theorem cs_le {qc q : SS} {cs : Nat → Nat} (h : LAw2 qc q cs) (hm : 0 ≤ (q.1 76 0).toInt) {l : Nat} (hl : (l : Int) ≤ (q.1 76 0).toInt) : (cs l : Int) ≤ (qc.1 12 4).toInt := by
  rw [← h.2.1]
  have k : ∀ j : Nat, ((l + j : Nat) : Int) ≤ (q.1 76 0).toInt → cs l ≤ cs (l + j) := by
    intro j
    induction j with
    | zero => intro _; exact Nat.le_refl _
    | succ j ih =>
      intro hj
      have := lineAl_lt (h.2.2 (l + j) (by omega))
      have e : l + j + 1 = l + (j + 1) := by omega
      rw [e] at this
      have := ih (by omega)
      omega
  have := k ((q.1 76 0).toInt.toNat - l) (by omega)
  rw [show l + ((q.1 76 0).toInt.toNat - l) = (q.1 76 0).toInt.toNat by omega] at this
  omega
def FGv (rec : SS → Int32 → Int32 → Int32 → Option (Int32 × SS)) (q : SS) (l1 l2 l3 : Int32) : Option (Int32 × SS) :=
  if vin l1 2 then (if (((61 : Int32) * l1) + (q.1 76 l1.toNatClampNeg)) ≤ l3 then (some ((0 : Int32), q)) else (if vin l3 122 then (if (q.1 77 l3.toNatClampNeg) = l2 then (b_X12_gives_47 q l1 l3) else (if vin l3 122 then (f_X12_worked q l1 l2 (q.1 77 l3.toNatClampNeg)).bind fun r3 => if r3.1 = 0 then (if vin l3 122 then nm (r3.2.1 78 l3.toNatClampNeg) fun v4 => rec r3.2 l1 v4 (l3 + (1 : Int32)) else none) else (b_X12_gives_47 r3.2 l1 l3) else none)) else none)) else none
theorem FGv_e : b_X12_gives_7 = fx4 FGv FU := rfl
theorem ev_lines {qc q : SS} {cs : Nat → Nat} {N : Nat → Int32} (hW : RW q) (ht : q.1 60 30 = 1) (h121 : (qc.1 12 4).toInt ≤ 121) (hL : LAw2 qc q cs) (hN : ∀ i, i < 6 → N i = q.1 79 i) : ∀ (d l : Nat) (y z : SS) (kc km : Nat) (c32 l2 l3 : Int32), (l : Int) + d = (q.1 76 0).toInt → Fr wE v0 qc y → CP y [] → y.1 16 = N → F80 q z → c32.toInt = (cs l : Int) → l2.toInt = sLo q l → l3.toInt = (l : Int) → (qc.1 12 4).toInt - cs l < (kc : Int) → d < km → T2 (fx3 FW kc y 1 c32) (fx4 FGv km z 0 l2 l3) (fun r s => r.1 = s.1) := by
  intro d
  have l0 : (0 : Int32).toInt = 0 := rfl
  have l121 : (121 : Int32).toInt = 121 := rfl
  have o61 : (61 : Int32) * 0 = 0 := by decide
  have z0 : ∀ x : Int32, (0 : Int32) + x = x := fun x => Int32.zero_add x
  have k0 : (0 : Int32).toNatClampNeg = 0 := rfl
  have hm := RW_m hW ht
  induction d with
  | zero =>
    intro l y z kc km c32 l2 l3 hl fy hy hn fz hc e2 e3 hkc hkm
    have e4 : y.1 12 4 = qc.1 12 4 := fy.1 12 4 rfl
    have hcl : (cs l : Int) = (qc.1 12 4).toInt := by
      rw [← hL.2.1]
      exact congrArg (fun i : Nat => (cs i : Int)) (by omega)
    obtain ⟨kc, rfl⟩ : ∃ x, kc = x + 1 := ⟨kc - 1, by omega⟩
    obtain ⟨km, rfl⟩ : ∃ x, km = x + 1 := ⟨km - 1, by omega⟩
    show T2 (FW (fx3 FW kc) y 1 c32) (FGv (fx4 FGv km) z 0 l2 l3) _
    unfold FW FGv
    rw [o61, z0, k0, fz.2 76 (by decide), e4]
    exact T2_pl (Int32.le_iff_toInt_le.mpr (by omega)) (T2_pr (by decide) (T2_pr (Int32.le_iff_toInt_le.mpr (by omega)) (T2_s rfl)))
  | succ d ih =>
    intro l y z kc km c32 l2 l3 hl fy hy hn fz hc e2 e3 hkc hkm
    obtain ⟨km, rfl⟩ : ∃ x, km = x + 1 := ⟨km - 1, by omega⟩
    have L := hL.2.2 l (by omega)
    have R : okLine (q.1 74) (q.1 75) (sLo q l) (q.1 77 l).toInt (q.1 78 l).toInt := RW_line hW ht l (by omega)
    obtain ⟨s0, st, te, e130, o1, o2⟩ := R
    have eN : l3.toNatClampNeg = l := by
      show l3.toInt.toNat = _
      omega
    have kA : ∀ (c : Nat) (s e : Int), 0 ≤ s → segAl (qc.1 13) (qc.1 14) c (q.1 74) (q.1 75) s e → ∀ k : Nat, s ≤ (k : Int) → (k : Int) < e → kn (q.1 74 k) := fun c s e hs h k h1 h2 => by
      have := al_kn (h (k - s.toNat) (by omega))
      rw [show s.toNat + (k - s.toNat) = k by omega] at this
      exact this
    -- the model's value of a segment
    have mW : ∀ (z : SS) (s e : Int32) (c : Nat), F80 q z → 0 ≤ s.toInt → e.toInt ≤ 130 → okSeg (q.1 74) (q.1 75) s.toInt e.toInt → segAl (qc.1 13) (qc.1 14) c (q.1 74) (q.1 75) s.toInt e.toInt → T (f_X12_worked z 0 s e) (fun r => F80 q r.2 ∧ evl N (q.1 74) (q.1 75) (e.toInt - s.toInt).toNat s.toInt.toNat [] = [r.1]) := fun z s e c fz h0 h1 ok ha => by
      have e74 := fz.2 74 (by decide)
      have e75 := fz.2 75 (by decide)
      have e79 := fz.2 79 (by decide)
      refine T_mono (m_workedE (q := z) h0 h1 (by rw [e74, e75]; exact ok) (fun k a b => by rw [e74]; exact kA c _ _ h0 ha k a b)) (fun r hr => ⟨F80_t fz hr.1, ?_⟩)
      have := hr.2
      rw [e74, e75, e79] at this
      rw [evl_N hN _ _ [] 1 ok]
      exact this
    have w47 : ∀ (z : SS) (c : Nat), F80 q z → segAl (qc.1 13) (qc.1 14) c (q.1 74) (q.1 75) (q.1 77 l).toInt (q.1 78 l).toInt → T (b_X12_gives_47 z 0 l3) (fun r => evl N (q.1 74) (q.1 75) ((q.1 78 l).toInt - (q.1 77 l).toInt).toNat (q.1 77 l).toInt.toNat [] = [r.1]) := fun z c fz ha => by
      unfold b_X12_gives_47
      rw [fz.2 77 (by decide), fz.2 78 (by decide), eN]
      exact T_vp (by omega) (by show l3.toInt < 122; omega) (T_vp (by omega) (by show l3.toInt < 122; omega) (T_b (mW z _ _ c fz (by omega) e130 o1 ha) (fun r hr => T_some.mpr hr.2)))
    have hN' : ∀ i, i < 6 → y.1 16 i = N i := fun i _ => by rw [hn]
    show T2 (fx3 FW kc y 1 c32) (FGv (fx4 FGv km) z 0 l2 l3) _
    generalize hrec : fx4 FGv km = rec
    unfold FGv
    rw [o61, z0, k0, fz.2 76 (by decide), fz.2 77 (by decide), eN]
    refine T2_pr (by decide) (T2_qr (fun e => by have := Int32.le_iff_toInt_le.mp e; omega) (T2_pr ⟨by omega, by omega⟩ ?_))
    rcases L with ⟨c1, a1, a2, a3⟩ | ⟨c1, a1, a2, a3, a4, a5⟩
    · refine T2_pr (Int32.toInt_inj.mp (by rw [c1, e2])) ?_
      rw [← c1] at a1 a2 a3
      obtain ⟨s, hs, hv⟩ := w47 z (cs l) fz a1
      have hcl : ((cs (l + 1) : Nat) : Int) ≤ (qc.1 12 4).toInt := cs_le hL hm.1 (by omega)
      have go : T (fx3 FW kc y 1 c32) (fun r => r.1 = s.1) := by
        obtain ⟨kk, rfl⟩ : ∃ x, kc = x + 1 + ((q.1 78 l).toInt - (q.1 77 l).toInt).toNat := ⟨kc - 1 - ((q.1 78 l).toInt - (q.1 77 l).toInt).toNat, by omega⟩
        refine x_segv fy hy hc te (by omega) (by omega) h121 a1 o1 hN' hv (fun y' e32 g1 g2 g3 g4 => ?_)
        exact W_59 g1 g2 g3 (by omega) h121 a2 (fun _ r hr => hr) (fun e => absurd e (by decide))
      obtain ⟨r, hr, hp⟩ := go
      exact ⟨r, s, hr, hs, hp⟩
    · refine T2_qr (fun e => c1 (by rw [e, e2])) (T2_pr ⟨by omega, by omega⟩ ?_)
      have ok1 := o2 c1
      rw [← e2] at st s0 ok1 a1 a2 a3 a4 a5
      have hcl : ((cs (l + 1) : Nat) : Int) ≤ (qc.1 12 4).toInt := cs_le hL hm.1 (by omega)
      obtain ⟨s1, hs1, hf1, hv1⟩ := mW z l2 (q.1 77 l) (cs l) fz (by omega) (by omega) ok1 a1
      obtain ⟨kk, rfl⟩ : ∃ x, kc = x + 1 + ((q.1 78 l).toInt - (q.1 77 l).toInt).toNat + 1 + ((q.1 77 l).toInt - l2.toInt).toNat := ⟨kc - 1 - ((q.1 78 l).toInt - (q.1 77 l).toInt).toNat - 1 - ((q.1 77 l).toInt - l2.toInt).toNat, by omega⟩
      refine T2_re hs1 ?_
      by_cases z1 : s1.1 = 0
      · refine T2_pr z1 (T2_pr ⟨by omega, by omega⟩ (T2_nr ?_))
        rw [hf1.2 78 (by decide), ← hrec]
        have i3 := inc1 (a := l3) (by omega) (by omega)
        -- the value of the part behind the mark: the class works it out, and leaves it
        obtain ⟨s2, hs2, _, hv2⟩ := mW z (q.1 77 l) (q.1 78 l) (cs l + ((q.1 77 l).toInt - l2.toInt).toNat + 1) fz (by omega) e130 o1 a3
        have go : T (fx3 FW (kk + 1 + ((q.1 78 l).toInt - (q.1 77 l).toInt).toNat + 1 + ((q.1 77 l).toInt - l2.toInt).toNat) y 1 c32) (fun a => ∃ b, fx4 FGv km s1.2 0 (q.1 78 l) (l3 + 1) = some b ∧ a.1 = b.1) := by
          refine x_segv fy hy hc st (by omega) (by omega) h121 a1 ok1 hN' hv1 (fun y' e32 g1 g2 g3 g4 => ?_)
          refine W_63 g1 g2 g3 (by omega) h121 a2 (fun y2 k1 k2 k3 => ?_)
          rw [if_pos z1]
          have i32 := inc1 (a := e32) (by omega) (by omega)
          refine x_segv (c := cs l + ((q.1 77 l).toInt - l2.toInt).toNat + 1) k1 k2 (by omega) te (by omega) (by omega) h121 a3 o1 (fun i hi => by rw [k3, g4]; exact hN' i hi) hv2 (fun y3 e33 m1 m2 m3 m4 => ?_)
          refine W_59 m1 m2 m3 (by omega) h121 a4 (fun e => absurd rfl e) (fun _ y4 n1 n2 n3 => ?_)
          have i33 := inc1 (a := e33) (by omega) (by omega)
          have e78 : (q.1 78 l).toInt = sLo q (l + 1) := by
            unfold sLo
            rw [if_neg (by omega)]
            rfl
          exact T2_P (ih (l + 1) y4 s1.2 kk km (e33 + 1) (q.1 78 l) (l3 + 1) (by omega) n1 n2 (by rw [n3, m4, k3, g4, hn]) hf1 (by omega) e78 (by omega) (by omega) (by omega))
        obtain ⟨r, hr, b, hb, hp⟩ := go
        exact ⟨r, b, hr, hb, hp⟩
      · refine T2_qr z1 ?_
        obtain ⟨s, hs, hv⟩ := w47 s1.2 (cs l + ((q.1 77 l).toInt - l2.toInt).toNat + 1) hf1 a3
        have go : T (fx3 FW (kk + 1 + ((q.1 78 l).toInt - (q.1 77 l).toInt).toNat + 1 + ((q.1 77 l).toInt - l2.toInt).toNat) y 1 c32) (fun r => r.1 = s.1) := by
          refine x_segv fy hy hc st (by omega) (by omega) h121 a1 ok1 hN' hv1 (fun y' e32 g1 g2 g3 g4 => ?_)
          refine W_63 g1 g2 g3 (by omega) h121 a2 (fun y2 k1 k2 k3 => ?_)
          rw [if_neg z1]
          have i32 := inc1 (a := e32) (by omega) (by omega)
          refine x_segv (c := cs l + ((q.1 77 l).toInt - l2.toInt).toNat + 1) k1 k2 (by omega) te (by omega) (by omega) h121 a3 o1 (fun i hi => by rw [k3, g4]; exact hN' i hi) hv (fun y3 e33 m1 m2 m3 m4 => ?_)
          exact W_59 m1 m2 m3 (by omega) h121 a4 (fun _ r hr => hr) (fun e => absurd e (by decide))
        obtain ⟨r, hr, hp⟩ := go
        exact ⟨r, s, hr, hs, hp⟩
/-! ===== the law told: the two stores stay alike ===== -/
theorem RLW_low {q q' : SS} (h : RLW q) (hW : RW q) (e12 : q'.1 12 4 = q.1 12 4) (e13 : q'.1 13 = q.1 13) (e14 : q'.1 14 = q.1 14) (e30 : q'.1 60 30 = q.1 60 30) (e76 : q'.1 76 0 = q.1 76 0) (e74 : ∀ k : Nat, k < 130 → q'.1 74 k = q.1 74 k ∧ q'.1 75 k = q.1 75 k) (e77 : ∀ l : Nat, l < 61 → q'.1 77 l = q.1 77 l ∧ q'.1 78 l = q.1 78 l) : RLW q' := by
  rcases h with ⟨h1, h2⟩ | ⟨h1, h2, h3, cs, c0, c1, c2⟩
  · exact Or.inl ⟨by rw [e30]; exact h1, by rw [e12]; exact h2⟩
  · refine Or.inr ⟨by rw [e30]; exact h1, by rw [e12]; exact h2, by rw [e12]; exact h3, cs, c0, by rw [e76, e12]; exact c1, fun l hl => ?_⟩
    rw [e76] at hl
    have hm := RW_m hW h1
    obtain ⟨s0, st, te, e130, _⟩ := RW_line hW h1 l hl
    have sl : sLo q' l = sLo q l := by
      unfold sLo
      by_cases c : l = 0
      · rw [if_pos c, if_pos c]
      · rw [if_neg c, if_neg c, (e77 (l - 1) (by omega)).2]
    rw [sl, (e77 l (by omega)).1, (e77 l (by omega)).2, e13, e14]
    have L := c2 l hl
    refine lineAl_c (u := 0) (by rw [Int.zero_add, Int.zero_add, Int.zero_add]; exact L) s0 st te (by omega) (fun k _ => ⟨rfl, rfl⟩) (fun k hk => ?_)
    rw [show (0 : Int).toNat + k = k by omega]
    exact e74 k (by omega)
theorem RLW_K {q q' : SS} (f : Fr wK vK q q') (hW : RW q) (h : RLW q) : RLW q' := by
  have e74 : q'.1 74 = q.1 74 := Fr_r f (fun _ => rfl)
  have e75 : q'.1 75 = q.1 75 := Fr_r f (fun _ => rfl)
  have e77 : q'.1 77 = q.1 77 := Fr_r f (fun _ => rfl)
  have e78 : q'.1 78 = q.1 78 := Fr_r f (fun _ => rfl)
  exact RLW_low h hW (f.1 12 4 rfl) (Fr_r f (fun _ => rfl)) (Fr_r f (fun _ => rfl)) (f.1 60 30 rfl) (f.1 76 0 rfl) (fun k _ => ⟨by rw [e74], by rw [e75]⟩) (fun k _ => ⟨by rw [e77], by rw [e78]⟩)
theorem wR_lo {a i : Nat} (h : (a = 74 ∧ i < 130) ∨ (a = 75 ∧ i < 130) ∨ (a = 77 ∧ i < 61) ∨ (a = 78 ∧ i < 61)) : wR a i = false := by
  rcases h with ⟨rfl, c⟩ | ⟨rfl, c⟩ | ⟨rfl, c⟩ | ⟨rfl, c⟩
  · have : Nat.ble 130 i = false := by
      cases g : Nat.ble 130 i
      · rfl
      · exact absurd (Nat.le_of_ble_eq_true g) (by omega)
    unfold wR
    rw [this]
    simp
  · have : Nat.ble 130 i = false := by
      cases g : Nat.ble 130 i
      · rfl
      · exact absurd (Nat.le_of_ble_eq_true g) (by omega)
    unfold wR
    rw [this]
    simp
  · have : Nat.ble 61 i = false := by
      cases g : Nat.ble 61 i
      · rfl
      · exact absurd (Nat.le_of_ble_eq_true g) (by omega)
    unfold wR
    rw [this]
    simp
  · have : Nat.ble 61 i = false := by
      cases g : Nat.ble 61 i
      · rfl
      · exact absurd (Nat.le_of_ble_eq_true g) (by omega)
    unfold wR
    rw [this]
    simp
theorem opw_law {q : SS} (h : INV q) (w : RLW q) : T (f_X11_law q) (fun r => T (f_X12_law r.2) (fun s => (INV s.2 ∧ RLW s.2) ∧ r.1 = s.1)) := by
  have l0 : (0 : Int32).toInt = 0 := rfl
  have hT := INV_RT h
  obtain ⟨r, hr, s, hs, hI, hrs⟩ := opq_law h
  refine ⟨r, hr, s, hs, ⟨hI, ?_⟩, hrs⟩
  obtain ⟨r', hr', y, hy, fy, e⟩ := xo_law h
  rw [hr] at hr'
  cases hr'
  rw [e] at hs
  have e73 : (sI y 17 2 0).1 73 = q.1 73 := by
    have a : y.1 73 = q.1 73 := Fr_r fy (fun _ => rfl)
    exact a
  have e18 : (sI y 17 2 0).1 60 18 = q.1 60 18 := fy.1 60 18 rfl
  obtain ⟨a, b, ha, hb, hab, hF⟩ := sim_text2 hT e73 e18
  have hP := T_un (m_readText (q := sI y 17 2 0) (by have a := RT_l0 (INV_RT hy); exact a) (by have a := RT_l120 (INV_RT hy); exact a)) hb
  have hK := k_f_X5_readText q q (Fr_refl q) a ha
  have hX := T_un (x_readText q) ha
  -- the model's cells behind the class's reading are those of before
  have ym : ∀ k i : Nat, wL k i = false → y.1 k i = q.1 k i := fun k i c => fy.1 k i c
  unfold f_X11_law at hr
  unfold f_X12_law at hs
  rw [ha, bind_s] at hr
  rw [hb, bind_s] at hs
  by_cases c : 0 ≤ a.1
  · rw [if_pos c] at hr
    have c' := Int32.le_iff_toInt_le.mp c
    rw [if_neg (fun e => by rw [← hab] at e; have := Int32.lt_iff_toInt_lt.mp e; omega)] at hs
    have hr' : (if 0 ≤ a.1 then some (((-100 : Int32) - a.1), sI a.2 17 2 0) else some ((1 : Int32), sI a.2 17 2 0)) = some r := hr
    rw [if_pos c] at hr'
    have er : r.2 = sI a.2 17 2 0 := (congrArg Prod.snd (Option.some.inj hr')).symm
    have es : s.2 = b.2 := (congrArg Prod.snd (Option.some.inj hs)).symm
    rw [er] at e
    have hb1 : ¬ b.1 = -1 := fun x => by
      rw [hab, x] at c'
      exact absurd c' (by decide)
    have fb : Fr wR v0 (sI y 17 2 0) b.2 := by
      rcases hP with ⟨_, f, _⟩ | ⟨x, _⟩
      · exact f
      · exact absurd x hb1
    rw [es]
    -- cells of the class's law, seen through both
    have y12 : (sI y 17 2 0).1 12 4 = q.1 12 4 := by
      rw [← e]
      have x : a.2.1 12 4 = q.1 12 4 := hK.1 12 4 rfl
      exact x
    have y13 : (sI y 17 2 0).1 13 = q.1 13 := by
      rw [← e]
      have x : a.2.1 13 = q.1 13 := Fr_r hK (fun _ => rfl)
      exact x
    have y14 : (sI y 17 2 0).1 14 = q.1 14 := by
      rw [← e]
      have x : a.2.1 14 = q.1 14 := Fr_r hK (fun _ => rfl)
      exact x
    have b13 : b.2.1 13 = (sI y 17 2 0).1 13 := Fr_r fb (fun _ => rfl)
    have b14 : b.2.1 14 = (sI y 17 2 0).1 14 := Fr_r fb (fun _ => rfl)
    refine RLW_low w (INV_RW h) ((fb.1 12 4 rfl).trans y12) (b13.trans y13) (b14.trans y14) ((fb.1 60 30 rfl).trans (ym 60 30 rfl)) ((fb.1 76 0 rfl).trans (ym 76 0 rfl)) (fun k hk => ⟨(fb.1 74 k (wR_lo (Or.inl ⟨rfl, hk⟩))).trans (ym 74 k rfl), (fb.1 75 k (wR_lo (Or.inr (Or.inl ⟨rfl, hk⟩)))).trans (ym 75 k rfl)⟩) (fun k hk => ⟨(fb.1 77 k (wR_lo (Or.inr (Or.inr (Or.inl ⟨rfl, hk⟩))))).trans (ym 77 k rfl), (fb.1 78 k (wR_lo (Or.inr (Or.inr (Or.inr ⟨rfl, hk⟩))))).trans (ym 78 k rfl)⟩)
  · rw [if_neg c] at hr
    have c' := Int32.lt_iff_toInt_lt.mp (Int32.not_le.mp c)
    rw [if_pos (by rw [← hab]; exact Int32.not_le.mp c)] at hs
    have hs' : (some ((1 : Int32), sI b.2 60 30 1)) = some s := hs
    have es : s.2 = sI b.2 60 30 1 := (congrArg Prod.snd (Option.some.inj hs')).symm
    have hb1 : b.1 = -1 ∧ Fr wU v0 (sI y 17 2 0) b.2 := by
      rcases hP with ⟨x, _⟩ | ⟨x, f, _⟩
      · rw [← hab] at x
        exact absurd x (by omega)
      · exact ⟨x, f⟩
    obtain ⟨n1, n2, cs, c0, cm, hl⟩ := hF (hab.trans hb1.1)
    have hr' : ((f_X4_become a.2).bind fun r4 => b_X11_law_26 r4 a.1) = some r := hr
    have k : ∀ x : SS, b_X11_law_26 x a.1 = some (1, sI x 17 2 0) := fun x => by
      unfold b_X11_law_26 f_X5_emptyTape
      show (if 0 ≤ a.1 then _ else some ((1 : Int32), sI x 17 2 0)) = _
      rw [if_neg c]
    have hbe : T (f_X4_become a.2) (fun x => x.1 12 4 = a.2.1 19 4 ∧ (∀ k : Nat, k < 121 → x.1 13 k = a.2.1 20 k ∧ x.1 14 k = a.2.1 21 k)) := by
      unfold f_X4_become
      have cc : cpok 121 121 (0 : Int32) (0 : Int32) (121 : Int32) := by decide
      refine T_nm (T_p cc (T_nm (T_p cc (T_nm (T_some.mpr ⟨?_, fun k hk => ⟨?_, ?_⟩⟩)))))
      · rw [sR_ro (by decide), sR_ro (by decide), sI_rd, if_pos ⟨rfl, rfl⟩]
      · rw [sR_ro (by decide), sR_rd, if_pos rfl]
        unfold va_cpy
        rw [if_pos ⟨by show 0 ≤ k; omega, by show k < 0 + 121; omega⟩, sI_ro (by decide)]
        show a.2.1 20 (0 + (k - 0)) = a.2.1 20 k
        rw [show 0 + (k - 0) = k by omega]
      · rw [sR_rd, if_pos rfl]
        unfold va_cpy
        rw [if_pos ⟨by show 0 ≤ k; omega, by show k < 0 + 121; omega⟩, sR_ro (by decide), sI_ro (by decide)]
        show a.2.1 21 (0 + (k - 0)) = a.2.1 21 k
        rw [show 0 + (k - 0) = k by omega]
    obtain ⟨x, hx, x12, x13⟩ := hbe
    rw [hx, bind_s, k] at hr'
    have er : r.2 = sI x 17 2 0 := (congrArg Prod.snd (Option.some.inj hr')).symm
    rw [er] at e
    have z12 : s.2.1 12 4 = a.2.1 19 4 := by
      rw [es]
      show b.2.1 12 4 = _
      rw [hb1.2.1 12 4 rfl, ← e]
      exact x12
    have z13 : s.2.1 13 = x.1 13 := by
      rw [es]
      show b.2.1 13 = _
      rw [Fr_r hb1.2 (k := 13) (fun _ => rfl), ← e]
      exact sI_ro (by decide)
    have z14 : s.2.1 14 = x.1 14 := by
      rw [es]
      show b.2.1 14 = _
      rw [Fr_r hb1.2 (k := 14) (fun _ => rfl), ← e]
      exact sI_ro (by decide)
    have z76 : s.2.1 76 0 = b.2.1 76 0 := by rw [es]; rfl
    have z30 : s.2.1 60 30 = 1 := by rw [es]; rfl
    refine Or.inr ⟨z30, by rw [z12]; exact n1, by rw [z12]; exact n2, cs, c0, by rw [z76, z12]; exact cm, fun l hlm => ?_⟩
    rw [z76] at hlm
    have L := hl l hlm
    obtain ⟨s0, st, te, e130, _⟩ := RW_line (INV_RW hI) z30 l (by rw [z76]; exact hlm)
    have e74 : s.2.1 74 = b.2.1 74 := by rw [es]; exact sI_ro (by decide)
    have e75 : s.2.1 75 = b.2.1 75 := by rw [es]; exact sI_ro (by decide)
    have e77 : s.2.1 77 = b.2.1 77 := by rw [es]; exact sI_ro (by decide)
    have e78 : s.2.1 78 = b.2.1 78 := by rw [es]; exact sI_ro (by decide)
    have sl : sLo s.2 l = sLo b.2 l := by
      unfold sLo
      rw [e78]
    have s0' : 0 ≤ sLo s.2 l := s0
    have st' : sLo s.2 l ≤ (s.2.1 77 l).toInt := st
    rw [sl] at s0' st'
    rw [sl, e77, e78, e74, e75, z13, z14]
    rw [e77] at st'
    rw [e77, e78] at te
    have cl : cs (l + 1) ≤ 121 := by
      have mono : ∀ j : Nat, ((l + 1 + j : Nat) : Int) ≤ (b.2.1 76 0).toInt → cs (l + 1) ≤ cs (l + 1 + j) := by
        intro j
        induction j with
        | zero => intro _; exact Nat.le_refl _
        | succ j ih =>
          intro hj
          have t := lineAl_lt (hl (l + 1 + j) (by omega))
          rw [show l + 1 + j + 1 = l + 1 + (j + 1) by omega] at t
          have := ih (by omega)
          omega
      have := mono ((b.2.1 76 0).toInt.toNat - (l + 1)) (by omega)
      rw [show l + 1 + ((b.2.1 76 0).toInt.toNat - (l + 1)) = (b.2.1 76 0).toInt.toNat by omega] at this
      omega
    refine lineAl_c (u := 0) (by rw [Int.zero_add, Int.zero_add, Int.zero_add]; exact L) s0' st' te (by omega) (fun k hk => x13 k (by omega)) (fun k hk => ?_)
    rw [show (0 : Int).toNat + k = k by omega]
    exact ⟨rfl, rfl⟩
/-- every other call leaves the two stores alike -/
theorem T_lift {α β : Type} {q : SS} {o1 : Option (α × SS)} {g : α × SS → Option (β × SS)} {Q : α × SS → β × SS → Prop} (h : INV q) (w : RLW q) (t : T o1 (fun r => T (g r) (fun s => INV s.2 ∧ Q r s))) (k1 : KO q o1 (fun r => r.2)) (k2 : ∀ r, KO r.2 (g r) (fun r => r.2)) : T o1 (fun r => T (g r) (fun s => (INV s.2 ∧ RLW s.2) ∧ Q r s)) := by
  obtain ⟨r, hr, s, hs, hI, hQ⟩ := t
  have f : Fr wK vK q s.2 := Fr_tr (k1 r hr) (k2 r s hs)
  exact ⟨r, hr, s, hs, ⟨hI, RLW_K f (INV_RW h) w⟩, hQ⟩
theorem RLW_M : RLW (qof σM) := Or.inl (by decide +kernel)
/-! ===== odds: the two sides say the same ===== -/
def clp (v : Int32) : Int32 := if 0 ≤ v then (if v ≤ 12 then v else 12) else 0
theorem x_clE (q : SS) (v : Int32) : b_X8_oddsBy_87 q v = some (clp v, q) := by
  have l0 : (0 : Int32).toInt = 0 := rfl
  have l12 : (12 : Int32).toInt = 12 := rfl
  have e : jmax (0 : Int32) (jmin (12 : Int32) v) = clp v := by
    unfold jmax jmin clp
    simp only [Int32.lt_iff_toInt_lt, Int32.le_iff_toInt_le, l0, l12]
    apply Int32.toInt_inj.mp
    by_cases a : 0 ≤ v.toInt
    · by_cases b : v.toInt ≤ 12
      · rw [if_pos a, if_pos b]
        split <;> split <;> omega
      · rw [if_pos a, if_neg b]
        split <;> split <;> omega
    · rw [if_neg a]
      split <;> split <;> omega
  unfold b_X8_oddsBy_87
  rw [e]
theorem m_clE (q : SS) (v : Int32) : b_X12_oddsOf_115 q v = some (clp v, q) := by
  unfold b_X12_oddsOf_115 clp
  by_cases a : 0 ≤ v
  · rw [if_pos a, if_pos a]
    by_cases b : v ≤ 12
    · rw [if_pos b, if_pos b]
    · rw [if_neg b, if_neg b]
  · rw [if_neg a, if_neg a]
/-- a law worked out on either side -/
theorem ev_law {qc x : SS} {cs : Nat → Nat} {a1 a2 a3 a4 a5 a6 : Int32} (hW : RW x) (ht : x.1 60 30 = 1) (h121 : (qc.1 12 4).toInt ≤ 121) (hL : LAw2 qc x cs) (n0 : x.1 79 0 = a1) (n1 : x.1 79 1 = a2) (n2 : x.1 79 2 = a3) (n3 : x.1 79 3 = a4) (n4 : x.1 79 4 = a5) (n5 : x.1 79 5 = a6) : T2 (f_X4_workOut qc a1 a2 a3 a4 a5 a6) (f_X12_gives x 0) (fun r s => r.1 = s.1) := by
  have o61 : (61 : Int32) * 0 = 0 := by decide
  have hm := RW_m hW ht
  have hc := hL.2.1
  unfold f_X4_workOut f_X12_gives
  refine T2_pl (by decide) (T2_nl (T2_pl (by decide) (T2_nl (T2_pl (by decide) (T2_nl (T2_pl (by decide) (T2_nl (T2_pl (by decide) (T2_nl (T2_pl (by decide) (T2_nl (T2_nl ?_))))))))))))
  rw [o61]
  refine T2_nr ?_
  rw [FW_e, FGv_e]
  generalize gy : sI (sI (sI (sI (sI (sI (sI qc 16 _ a1) 16 _ a2) 16 _ a3) 16 _ a4) 16 _ a5) 16 _ a6) 12 5 0 = y
  have fy : Fr wE v0 qc y := by
    rw [← gy]
    exact Fr_sI (Fr_sI (Fr_sI (Fr_sI (Fr_sI (Fr_sI (Fr_sI (Fr_refl qc) rfl) rfl) rfl) rfl) rfl) rfl) rfl
  have hy : CP y [] := ⟨by rw [← gy]; rfl, fun j hj => absurd hj (by show ¬ j < 0; omega)⟩
  have hN : ∀ i, i < 6 → y.1 16 i = x.1 79 i := fun i hi => by
    rw [← gy]
    have : i = 0 ∨ i = 1 ∨ i = 2 ∨ i = 3 ∨ i = 4 ∨ i = 5 := by omega
    rcases this with rfl | rfl | rfl | rfl | rfl | rfl
    · rw [n0]; rfl
    · rw [n1]; rfl
    · rw [n2]; rfl
    · rw [n3]; rfl
    · rw [n4]; rfl
    · rw [n5]; rfl
  exact ev_lines (N := y.1 16) hW ht h121 hL hN (x.1 76 0).toInt.toNat 0 y x FU FU 0 0 0 (by omega) fy hy rfl ⟨rfl, fun _ _ => rfl⟩ (by rw [hL.1]; rfl) (by unfold sLo; rw [if_pos rfl]; rfl) rfl (by rw [hL.1, fu_s]; omega) (by rw [fu_s]; omega)
/-- odds of one slipping: the class thinks of y, the model of z -/
def OK2 (y z : SS) : Prop := y.1 3 = z.1 61 ∧ y.1 4 = z.1 62 ∧ y.1 9 = z.1 67 ∧ y.1 11 0 = z.1 68 1 ∧ y.1 1 1 = z.1 60 1 ∧ y.1 1 2 = z.1 60 6 ∧ (0 ≤ (z.1 60 1).toInt ∧ (z.1 60 1).toInt ≤ 6) ∧ (0 ≤ (z.1 60 6).toInt ∧ (z.1 60 6).toInt ≤ 12) ∧ (∀ t : Nat, (t : Int) < (z.1 60 6).toInt → 0 ≤ (z.1 67 t).toInt ∧ (z.1 67 t).toInt ≤ 4) ∧ (∀ t : Nat, (t : Int) < (z.1 60 6).toInt → y.1 25 t = z.1 81 t ∧ 0 ≤ (z.1 81 t).toInt ∧ (z.1 81 t).toInt < (z.1 60 1).toInt) ∧ RW z ∧ ((z.1 60 30 = 0 ∧ (y.1 12 4).toInt ≤ 0) ∨ (z.1 60 30 = 1 ∧ 0 < (y.1 12 4).toInt ∧ (y.1 12 4).toInt ≤ 121 ∧ ∃ cs, LAw2 y z cs))
theorem LAw2_c {y z x : SS} {cs : Nat → Nat} (h : LAw2 y z cs) (e74 : x.1 74 = z.1 74) (e75 : x.1 75 = z.1 75) (e76 : x.1 76 = z.1 76) (e77 : x.1 77 = z.1 77) (e78 : x.1 78 = z.1 78) : LAw2 y x cs := by
  unfold LAw2 sLo at h ⊢
  rw [e74, e75, e76, e77, e78]
  exact h
/-- the odds by which it is slipped, with the hour told -/
theorem ev_by {y z : SS} {t p h5 hd : Int32} (O : OK2 y z) (ht : 0 ≤ t.toInt ∧ t.toInt < (z.1 60 6).toInt) (hp : 0 ≤ p.toInt ∧ p.toInt < (z.1 60 1).toInt) (hh : z.1 60 32 = h5) (hm : f_X12_manyOf z p = some hd) : T2 (f_X8_oddsBy y (y.1 25 t.toNatClampNeg) p hd (y.1 9 t.toNatClampNeg) h5) (f_X12_oddsOf z t p) (fun r s => r.1 = s.1) := by
  obtain ⟨e3, e4, e9, e11, eP, eK, hP, hK, r67, r81, hW, hL⟩ := O
  have l4 : (4 : Int32).toInt = 4 := rfl
  have l0 : (0 : Int32).toInt = 0 := rfl
  have tn : (t.toNatClampNeg : Int) = t.toInt := by
    show ((t.toInt.toNat : Nat) : Int) = _
    omega
  have b81 := r81 t.toNatClampNeg (by omega)
  have b67 := r67 t.toNatClampNeg (by omega)
  have y6 : (y.1 1 1).toInt ≤ 6 := by rw [eP]; omega
  unfold f_X8_oddsBy f_X12_oddsOf
  refine T2_le (x_canGive y6 _ _) (T2_re (m_maySlip (a := t) (b := p) (by omega) (by omega)) ?_)
  rw [b81.1, e9, e4, eP]
  have l67 : z.1 67 t.toNatClampNeg = 4 ↔ ¬ (z.1 67 t.toNatClampNeg).toInt < 4 := ⟨fun e => by rw [e, l4]; omega, fun e => Int32.toInt_inj.mp (by rw [l4]; omega)⟩
  by_cases c : z.1 67 t.toNatClampNeg ≠ 4 ∧ z.1 81 t.toNatClampNeg ≠ p ∧ z.1 62 p.toNatClampNeg = 0
  · rw [show bI (z.1 81 t.toNatClampNeg ≠ p ∧ 0 ≤ p.toInt ∧ p.toInt < (z.1 60 1).toInt ∧ z.1 62 p.toNatClampNeg = 0) = 1 from bI_1.mpr ⟨c.2.1, hp.1, hp.2, c.2.2⟩, show bI (z.1 67 t.toNatClampNeg ≠ 4 ∧ z.1 81 t.toNatClampNeg ≠ p ∧ z.1 62 p.toNatClampNeg = 0) = 1 from bI_1.mpr c]
    have lt4 : (z.1 67 t.toNatClampNeg).toInt < 4 := by
      have := b67.2
      by_cases g : (z.1 67 t.toNatClampNeg).toInt < 4
      · exact g
      · exact absurd (l67.mpr g) c.1
    refine T2_ql (by decide) (T2_qr (by decide) (T2_pl (Int32.lt_iff_toInt_lt.mpr (by omega)) (T2_pr (by omega) (T2_pr (by decide) (T2_nr ?_)))))
    have v1 : (1 : Int32).toNatClampNeg = 1 := rfl
    rw [v1]
    have g0 : ∀ u : Int32, 0 ≤ u.toInt → u.toInt < (z.1 60 1).toInt → f_X10_get y 0 u = some (z.1 61 u.toNatClampNeg) := fun u h0 h1 => by
      rw [x_get0 y6, eP, if_pos ⟨h0, h1⟩, e3]
    refine T2_le (g0 p hp.1 hp.2) (T2_le (x_get80 y) (T2_nl ?_))
    rw [e11]
    rcases hL with ⟨t0, t1⟩ | ⟨t0, t1, t2, cs, hL⟩
    · have it : f_X4_isTold y = some 0 := by
        unfold f_X4_isTold
        rw [if_pos (Int32.le_iff_toInt_le.mpr (by omega))]
      refine T2_le it (T2_pl rfl (T2_pr t0 ?_))
      rw [x_clE, m_clE]
      exact T2_s rfl
    · have it : f_X4_isTold y = some 1 := by
        unfold f_X4_isTold
        rw [if_neg (fun e => by have := Int32.le_iff_toInt_le.mp e; omega)]
      refine T2_le it (T2_ql (by decide) (T2_qr (by rw [t0]; decide) (T2_le (g0 _ b81.2.1 b81.2.2) ?_)))
      refine T2_pr (by omega) (T2_pr (by decide) (T2_nr (T2_pr (by omega) (T2_pr ?_ (T2_pr (by decide) (T2_nr ?_))))))
      · exact ⟨b81.2.1, by show (z.1 81 t.toNatClampNeg).toInt < 6; omega⟩
      have c0 : (0 : Int32).toNatClampNeg = 0 := rfl
      have c2 : (2 : Int32).toNatClampNeg = 2 := rfl
      have c3 : (3 : Int32).toNatClampNeg = 3 := rfl
      have c4 : (4 : Int32).toNatClampNeg = 4 := rfl
      have c5 : (5 : Int32).toNatClampNeg = 5 := rfl
      rw [c0, c2, c3, c4, c5]
      have hm2 : ∀ x : SS, x.1 60 = z.1 60 → x.1 81 = z.1 81 → f_X12_manyOf x p = some hd := fun x h1 h2 => by
        rw [m_manyOf (by rw [h1]; omega) (by rw [h1]; omega), h1, h2, ← m_manyOf (by omega) (by omega)]
        exact hm
      refine T2_re (hm2 _ (by rw [sI_ro (by decide), sI_ro (by decide)]) (by rw [sI_ro (by decide), sI_ro (by decide)])) (T2_pr (by decide) (T2_nr (T2_pr (by omega) (T2_pr (by decide) (T2_nr (T2_pr (by decide) (T2_nr (T2_pr (by decide) (T2_pr (by decide) (T2_nr ?_))))))))))
      generalize gx : sI _ 79 5 _ = x
      have x79 : x.1 79 0 = z.1 61 p.toNatClampNeg ∧ x.1 79 1 = z.1 61 (z.1 81 t.toNatClampNeg).toNatClampNeg ∧ x.1 79 2 = hd ∧ x.1 79 3 = z.1 67 t.toNatClampNeg ∧ x.1 79 4 = z.1 60 32 ∧ x.1 79 5 = z.1 68 1 := by
        rw [← gx]
        exact ⟨rfl, rfl, rfl, rfl, rfl, rfl⟩
      have xo : ∀ k, k ≠ 79 → x.1 k = z.1 k := fun k hk => by
        rw [← gx, sI_ro hk, sI_ro hk, sI_ro hk, sI_ro hk, sI_ro hk, sI_ro hk]
      have x60 := xo 60 (by decide)
      have hWx : RW x := RW_fr (xo 74 (by decide)) (xo 75 (by decide)) (xo 77 (by decide)) (xo 78 (by decide)) (by rw [x60]) (by rw [xo 76 (by decide)]) hW
      have E := ev_law (qc := y) hWx (by rw [x60]; exact t0) t2 (LAw2_c hL (xo 74 (by decide)) (xo 75 (by decide)) (xo 76 (by decide)) (xo 77 (by decide)) (xo 78 (by decide))) x79.1 x79.2.1 x79.2.2.1 x79.2.2.2.1 (x79.2.2.2.2.1.trans hh) x79.2.2.2.2.2
      refine T2_bb E (fun r s hrs => ?_)
      rw [x_clE, m_clE, hrs]
      exact T2_s rfl
  · rw [show bI (z.1 67 t.toNatClampNeg ≠ 4 ∧ z.1 81 t.toNatClampNeg ≠ p ∧ z.1 62 p.toNatClampNeg = 0) = 0 from bI_0.mpr c]
    by_cases c2 : z.1 81 t.toNatClampNeg ≠ p ∧ z.1 62 p.toNatClampNeg = 0
    · rw [show bI (z.1 81 t.toNatClampNeg ≠ p ∧ 0 ≤ p.toInt ∧ p.toInt < (z.1 60 1).toInt ∧ z.1 62 p.toNatClampNeg = 0) = 1 from bI_1.mpr ⟨c2.1, hp.1, hp.2, c2.2⟩]
      have e : z.1 67 t.toNatClampNeg = 4 := by
        by_cases g : z.1 67 t.toNatClampNeg = 4
        · exact g
        · exact absurd ⟨g, c2⟩ c
      exact T2_ql (by decide) (T2_ql (by rw [e]; decide) (T2_pr rfl (T2_s rfl)))
    · rw [show bI (z.1 81 t.toNatClampNeg ≠ p ∧ 0 ≤ p.toInt ∧ p.toInt < (z.1 60 1).toInt ∧ z.1 62 p.toNatClampNeg = 0) = 0 from bI_0.mpr (fun x => c2 ⟨x.1, x.2.2.2⟩)]
      exact T2_pl rfl (T2_pr rfl (T2_s rfl))
/-- the two thoughts, as all stands now -/
theorem OK2_now {q y y0 z0 : SS} (h : INV q) (w : RLW q) (f : MC q y) (n : NWX q y0) (m : NWM y z0) : OK2 y0 z0 ∧ z0.1 60 6 = q.1 60 6 ∧ z0.1 60 1 = q.1 60 1 ∧ z0.1 60 32 = q.1 68 0 ∧ y0.1 10 0 = q.1 68 0 := by
  have hY := INV_RY h
  have yq : ∀ k : Nat, 60 ≤ k → y.1 k = q.1 k := fun k hk => f.1 k hk
  have mz : ∀ k : Nat, k ≠ 81 → k ≠ 60 → 60 ≤ k → z0.1 k = q.1 k := fun k h1 h2 h3 => (m.2.1 k h1 h2).trans (yq k h3)
  have y60 := yq 60 (by decide)
  have z6 : z0.1 60 6 = q.1 60 6 := by rw [m.2.2.1 6 (by decide), y60]
  have z1 : z0.1 60 1 = q.1 60 1 := by rw [m.2.2.1 1 (by decide), y60]
  have z30 : z0.1 60 30 = q.1 60 30 := by rw [m.2.2.1 30 (by decide), y60]
  have z32 : z0.1 60 32 = q.1 68 0 := by rw [m.2.2.2.1, yq 68 (by decide)]
  have e61 := mz 61 (by decide) (by decide) (by decide)
  have e62 := mz 62 (by decide) (by decide) (by decide)
  have e67 := mz 67 (by decide) (by decide) (by decide)
  have e68 := mz 68 (by decide) (by decide) (by decide)
  have e74 := mz 74 (by decide) (by decide) (by decide)
  have e75 := mz 75 (by decide) (by decide) (by decide)
  have e76 := mz 76 (by decide) (by decide) (by decide)
  have e77 := mz 77 (by decide) (by decide) (by decide)
  have e78 := mz 78 (by decide) (by decide) (by decide)
  have yo : ∀ k : Nat, k ≠ 25 → y0.1 k = q.1 k := n.2.1
  refine ⟨⟨?_, ?_, ?_, ?_, ?_, ?_, ?_, ?_, ?_, ?_, ?_, ?_⟩, z6, z1, z32, ?_⟩
  · rw [yo 3 (by decide), e61]; exact RY_wary hY
  · rw [yo 4 (by decide), e62]; exact RY_child hY
  · rw [yo 9 (by decide), e67]; exact RY_folds hY
  · rw [yo 11 (by decide), e68]; exact RY_seen hY
  · rw [yo 1 (by decide), z1]; exact RY_p hY
  · rw [yo 1 (by decide), z6]; exact RY_k hY
  · rw [z1]; exact ⟨RY_p0 hY, RY_p6 hY⟩
  · rw [z6]; exact ⟨RY_k0 hY, RY_k12 hY⟩
  · intro t ht
    rw [e67]
    rw [z6] at ht
    exact RY_rfolds hY t ht
  · intro t ht
    rw [z6] at ht
    have a : z0.1 81 t = q.1 65 t := by
      rw [m.2.2.2.2 t, y60, if_pos ht, yq 65 (by decide)]
    rw [a, z1]
    exact ⟨n.2.2 t ht, RY_rholder hY t ht⟩
  · exact RW_fr e74 e75 e77 e78 z30 (by rw [e76]) (INV_RW h)
  · rcases w with ⟨h1, h2⟩ | ⟨h1, h2, h3, cs, L⟩
    · exact Or.inl ⟨z30.trans h1, by rw [yo 12 (by decide)]; exact h2⟩
    · refine Or.inr ⟨z30.trans h1, by rw [yo 12 (by decide)]; exact h2, by rw [yo 12 (by decide)]; exact h3, cs, ?_⟩
      have L2 : LAw2 y0 q cs := by
        unfold LAw LAw2 at L
        unfold LAw2
        rw [yo 12 (by decide), yo 13 (by decide), yo 14 (by decide)]
        exact L
      exact LAw2_c L2 e74 e75 e76 e77 e78
  · rw [yo 10 (by decide)]; exact RY_hour hY
/-- odds of a slipping that may be, in two thoughts -/
theorem ev_of {y z : SS} {t p h5 hd : Int32} (O : OK2 y z) (ht : 0 ≤ t.toInt ∧ t.toInt < (z.1 60 6).toInt) (hp : 0 ≤ p.toInt ∧ p.toInt < (z.1 60 1).toInt) (hh : z.1 60 32 = h5) (hy : y.1 10 0 = h5) (hx : f_X8_heldBy y p = some hd) (hm : f_X12_manyOf z p = some hd) : T2 (f_X8_oddsOf y t p) (f_X12_oddsOf z t p) (fun r s => r.1 = s.1) := by
  have E := ev_by O ht hp hh hm
  obtain ⟨e3, e4, e9, e11, eP, eK, hP, hK, r67, r81, _⟩ := O
  have l4 : (4 : Int32).toInt = 4 := rfl
  have tn : (t.toNatClampNeg : Int) = t.toInt := by
    show ((t.toInt.toNat : Nat) : Int) = _
    omega
  have b81 := r81 t.toNatClampNeg (by omega)
  have b67 := r67 t.toNatClampNeg (by omega)
  have k12 : (y.1 1 2).toInt ≤ 12 := by rw [eK]; omega
  unfold f_X8_oddsOf
  refine T2_le (x_canSlip (by rw [eP]; omega) k12 t p) ?_
  rw [eK, eP, e9, e4, b81.1]
  by_cases c : 0 ≤ t.toInt ∧ t.toInt < (z.1 60 6).toInt ∧ (z.1 67 t.toNatClampNeg).toInt < 4 ∧ z.1 81 t.toNatClampNeg ≠ p ∧ 0 ≤ p.toInt ∧ p.toInt < (z.1 60 1).toInt ∧ z.1 62 p.toNatClampNeg = 0
  · rw [show bI (0 ≤ t.toInt ∧ t.toInt < (z.1 60 6).toInt ∧ (z.1 67 t.toNatClampNeg).toInt < 4 ∧ z.1 81 t.toNatClampNeg ≠ p ∧ 0 ≤ p.toInt ∧ p.toInt < (z.1 60 1).toInt ∧ z.1 62 p.toNatClampNeg = 0) = 1 from bI_1.mpr c]
    refine T2_ql (by decide) (T2_le (x_holderOf k12 t) (T2_le hx (T2_le (x_get6 k12 t) (T2_le (x_hourNow y) ?_))))
    rw [eK, if_pos ht, if_pos ht, hy]
    obtain ⟨r, s, hr, hs, e⟩ := E
    rw [hr]
    exact ⟨_, s, rfl, hs, e⟩
  · rw [show bI (0 ≤ t.toInt ∧ t.toInt < (z.1 60 6).toInt ∧ (z.1 67 t.toNatClampNeg).toInt < 4 ∧ z.1 81 t.toNatClampNeg ≠ p ∧ 0 ≤ p.toInt ∧ p.toInt < (z.1 60 1).toInt ∧ z.1 62 p.toNatClampNeg = 0) = 0 from bI_0.mpr c]
    refine T2_pl rfl ?_
    unfold f_X12_oddsOf
    refine T2_re (m_maySlip (a := t) (b := p) (by omega) (by omega)) ?_
    have c' : ¬ (z.1 67 t.toNatClampNeg ≠ 4 ∧ z.1 81 t.toNatClampNeg ≠ p ∧ z.1 62 p.toNatClampNeg = 0) := fun x => c ⟨ht.1, ht.2, by
      have := b67.2
      by_cases g : (z.1 67 t.toNatClampNeg).toInt < 4
      · exact g
      · exact absurd (Int32.toInt_inj.mp (by rw [l4]; omega)) x.1, x.2.1, hp.1, hp.2, x.2.2⟩
    rw [show bI (z.1 67 t.toNatClampNeg ≠ 4 ∧ z.1 81 t.toNatClampNeg ≠ p ∧ z.1 62 p.toNatClampNeg = 0) = 0 from bI_0.mpr c']
    exact T2_pr rfl (T2_s rfl)
theorem sim_odds {q y : SS} (h : INV q) (w : RLW q) (f : MC q y) (a : Int32) : T2 (f_X11_odds q a) (f_X12_odds y a) (fun r s => r.1 = s.1) := by
  have hY := INV_RY h
  have y60 : y.1 60 = q.1 60 := f.1 60 (by decide)
  have y65 : y.1 65 = q.1 65 := f.1 65 (by decide)
  unfold f_X11_odds f_X12_odds
  refine T2_le (x_isSlipping q a) (T2_re (m_areSlip (by rw [y60]; exact RY_p0 hY) (by rw [y60]; exact RY_k0 hY) a) ?_)
  rw [RY_p hY, RY_k hY, y60]
  by_cases c : 0 ≤ a.toInt ∧ a.toInt / 8 < (q.1 60 6).toInt ∧ a.toInt % 8 < (q.1 60 1).toInt
  · rw [show bI (0 ≤ a.toInt ∧ a.toInt / 8 < (q.1 60 6).toInt ∧ a.toInt % 8 < (q.1 60 1).toInt) = 1 from bI_1.mpr c]
    refine T2_ql (by decide) (T2_qr (by decide) (T2_l (x_now hY) (fun y0 hn => T2_r (m_layNow (by rw [y60]; exact RY_k0 hY) (by rw [y60]; exact RY_k12 hY)) (fun z0 hm => ?_))))
    obtain ⟨O, z6, z1, z32, y10⟩ := OK2_now h w f hn hm
    rw [shr_div c.1, and_rem c.1]
    have d8 := div8 c.1
    have r8 := rem8 c.1
    have hx := nx_heldBy hY hn (jrem a 8)
    have hmo : f_X12_manyOf z0 (jrem a 8) = some (Int32.ofNat (cH q (jrem a 8))) := by
      have eK : z0.1 60 6 = q.1 60 6 := z6
      rw [m_manyOf (by rw [eK]; exact RY_k0 hY) (by rw [eK]; exact RY_k12 hY), eK]
      unfold cH
      rw [cntN_c (fun t ht => by rw [hm.2.2.2.2 t, y60, if_pos (show (t : Int) < (q.1 60 6).toInt by omega), y65])]
    exact T2_bb (ev_of O (t := a / 8) (p := jrem a 8) (by rw [z6]; omega) (by rw [z1]; omega) z32 y10 hx hmo) (fun r s e => T2_s e)
  · rw [show bI (0 ≤ a.toInt ∧ a.toInt / 8 < (q.1 60 6).toInt ∧ a.toInt % 8 < (q.1 60 1).toInt) = 0 from bI_0.mpr c]
    exact T2_pl rfl (T2_pr rfl (T2_s rfl))

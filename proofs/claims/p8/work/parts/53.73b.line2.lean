/-! ===== a line on either side, and what is laid ===== -/
theorem l47x {q y : SS} (hX : XL q y) (hl : (y.1 19 4).toInt ≤ 120) : b_X5_readLine_47 y 1 = some (1, xAd y 59 0) := by
  unfold b_X5_readLine_47
  rw [x_addE 59 0 hX.2.1 (by omega), bind_s, if_pos (Or.inr rfl)]
theorem sg_lt' {z r3 : SS} {m : Nat} {x0 o : Int32} {c : Int} (g : SG o c 1 (sI z 77 (61 + m) x0) r3) (n : r3.1 60 20 = -1) : (z.1 60 22).toInt < (r3.1 60 22).toInt := by
  have a := sg_lt g n
  exact a
theorem sim_line2 {q y z : SS} {m : Nat} (hT : RT q) (A : AQ q y z) (ho : z.1 60 21 = 0) (L : LN z m) (hm : 2 * (m : Int) ≤ (z.1 60 19).toInt) : T2 (f_X5_readLine y) (f_X12_line z) (fun r s => RLn q r s ∧ (s.1 60 20 = -1 → LX y z m r.2 s)) := by
  obtain ⟨b1, b2, b3, b4, b5, b6, b7⟩ := AQ_b A
  have l0 : (0 : Int32).toInt = 0 := rfl
  have l61 : (61 : Int32).toInt = 61 := rfl
  have eN : EN z := A.2.2.2.1
  have L1 := L.1
  have hv : ((61 : Int32) + z.1 76 1).toInt = 61 + (m : Int) := by rw [tadd (by omega) (by omega), l61, L1]
  have ev : ((61 : Int32) + z.1 76 1).toNatClampNeg = 61 + m := by
    show ((61 : Int32) + z.1 76 1).toInt.toNat = _
    omega
  unfold f_X5_readLine f_X12_line
  refine T2_pr (by decide) (T2_nr ?_)
  rw [show (1 : Int32).toNatClampNeg = 1 from rfl]
  refine T2_pr ⟨by omega, by omega⟩ (T2_nr ?_)
  rw [ev]
  generalize hx0 : (z.1 60 22).toInt16.toInt32.toInt16.toInt32 = x0
  have hx0' : x0.toInt = (z.1 60 22).toInt := by rw [← hx0, n16 (a := z.1 60 22) b4 (by omega), n16 b4 (by omega)]
  have A2 : AQ q y (sI z 77 (61 + m) x0) := A
  refine T2_bb (sim_either hT A2 ho) (fun r1 r3 hR => ?_)
  obtain ⟨⟨hR, hX⟩, hS⟩ := hR
  have eN2 : EN (sI z 77 (61 + m) x0) := eN
  have zx := SG_ZX (q := q) hS A.2.1 A.2.2.1
  have hb3 : (z.1 60 19).toInt ≤ (r3.1 60 19).toInt ∧ (r3.1 60 19).toInt ≤ (z.1 60 18).toInt := hS.2.1
  have tz : (z.1 60 18).toInt = (q.1 60 18).toInt := congrArg Int32.toInt A.2.2.1
  rcases hR with ⟨n5, f5, P5⟩ | ⟨w5, p5, f5⟩
  · have d3 : (r3.1 60 22).toInt + 0 ≤ (z.1 60 22).toInt + ((r3.1 60 19).toInt - (z.1 60 19).toInt) := (SG_nw hS n5).2.1
    have q2 : (r1.2.1 19 4).toInt - (y.1 19 4).toInt = (r3.1 60 22).toInt - (z.1 60 22).toInt := P5.2.1
    have q3 : 0 ≤ (r3.1 60 22).toInt - (z.1 60 22).toInt := P5.2.2.1
    have ep3 : (r1.2.1 17 3).toInt = (r3.1 60 19).toInt := congrArg Int32.toInt P5.1
    have nx := x_nextE hT hX.1 (by omega)
    rw [ep3] at nx
    have mx := m_lookE b3 zx.1 zx.2 (by omega : 0 ≤ (r3.1 60 19).toInt)
    have cm := CM_q hT (by omega : 0 ≤ (r3.1 60 19).toInt)
    have k63 := CM_eq cm (k := 63) (by decide) (by decide)
    refine T2_ql (by rw [f5]; decide) (T2_qr (by rw [n5]; decide) (T2_le nx (T2_re mx ?_)))
    by_cases c63 : CH q (r3.1 60 19).toInt = 63
    · refine T2_pl c63 (T2_pr (k63.mp c63) (T2_nl (T2_nr (T2_pr ⟨by omega, by omega⟩ (T2_nr ?_)))))
      have lt : (r3.1 60 19).toInt < (q.1 60 18).toInt := by
        by_cases c : (r3.1 60 19).toInt < (q.1 60 18).toInt
        · exact c
        · unfold CH at c63
          rw [if_neg c] at c63
          exact absurd c63 (by decide)
      have g7 := SG_hr eN2 hS n5 (by rw [zx.2]; exact lt)
      have e7 : EN (sI r3 60 19 (r3.1 60 19 + 1)) := SG_EN eN2 g7 n5 (by decide) (by decide)
      have i3 := inc1 (a := r3.1 60 19) (by omega) (by omega)
      have xe := x_addE (y := sI r1.2 17 3 (r1.2.1 17 3 + 1)) 63 0 hX.2.1 (by show (r1.2.1 19 4).toInt < 121; omega)
      have xx := T_un (x_addStep (XL_s (x := r1.2.1 17 3 + 1) hX) 63 0) xe
      refine T2_le xe ?_
      generalize hx1 : ((sI r3 60 19 (r3.1 60 19 + 1)).1 60 22).toInt16.toInt32.toInt16.toInt32 = x1
      have hx1' : x1.toInt = (r3.1 60 22).toInt := by
        rw [← hx1]
        show ((r3.1 60 22).toInt16.toInt32.toInt16.toInt32).toInt = _
        rw [n16 (a := r3.1 60 22) (by omega) (by omega), n16 (by omega) (by omega)]
      have i4 := inc1 (a := r1.2.1 19 4) (by have := hX.2.1; omega) (by omega)
      have A8 : AQ q (xAd (sI r1.2 17 3 (r1.2.1 17 3 + 1)) 63 0) (sI (sI r3 60 19 (r3.1 60 19 + 1)) 77 (61 + m) x1) := ⟨xx, zx.1, zx.2, e7, congrArg (· + 1) P5.1, by
        show (r1.2.1 19 4 + 1).toInt ≤ (r3.1 60 19 + 1).toInt
        omega⟩
      refine T2_bb (sim_either hT A8 (SG_nw hS n5).1) (fun r6 r9 hR9 => ?_)
      obtain ⟨⟨hR9, hX9⟩, hS9⟩ := hR9
      have hb9 : (r3.1 60 19 + 1).toInt ≤ (r9.1 60 19).toInt ∧ (r9.1 60 19).toInt ≤ (r3.1 60 18).toInt := hS9.2.1
      have t3 : (r3.1 60 18).toInt = (q.1 60 18).toInt := congrArg Int32.toInt zx.2
      have mo := line66 (z := r9) hv (by omega)
      rcases hR9 with ⟨n9, f9, P9⟩ | ⟨w9, p9, f9⟩
      · have d9 : (r9.1 60 22).toInt + 0 ≤ (r3.1 60 22).toInt + ((r9.1 60 19).toInt - (r3.1 60 19 + 1).toInt) := (SG_nw hS9 n9).2.1
        have q9 : (r6.2.1 19 4).toInt - (r1.2.1 19 4 + 1).toInt = (r9.1 60 22).toInt - (r3.1 60 22).toInt := P9.2.1
        rw [f9, mo, l47x hX9 (by omega)]
        have i6 := inc1 (a := r6.2.1 19 4) (by have := hX9.2.1; omega) (by omega)
        exact T2_s ⟨Or.inl ⟨n9, rfl, P9.1, by show (r6.2.1 19 4 + 1).toInt ≤ (r9.1 60 19).toInt + 1; omega, (SG_nw hS9 n9).1⟩, fun _ => LX_two b6 (by omega) (by omega) b4 hS P5 (sg_lt' hS n5) hS9 P9 hx1'⟩
      · rw [mo]
        obtain ⟨a, ha, hp⟩ := l47 (b := r6.1) hX9 (by rcases f9 with f | ⟨f, _⟩; exact Or.inl f; exact Or.inr f)
        exact ⟨a, _, ha, rfl, Or.inr ⟨w9, hp.2.2.trans p9, by rw [hp.1]; exact f9⟩, fun e => absurd w9 (by have e' : r9.1 60 20 = -1 := e; rw [e', m1i]; omega)⟩
    · refine T2_ql c63 (T2_qr (fun e => c63 (k63.mpr e)) ?_)
      rw [f5, line66 (z := r3) hv (by omega), l47x hX (by omega)]
      have i5 := inc1 (a := r1.2.1 19 4) (by have := hX.2.1; omega) (by omega)
      exact T2_s ⟨Or.inl ⟨n5, rfl, P5.1, by show (r1.2.1 19 4 + 1).toInt ≤ (r3.1 60 19).toInt + 1; omega, (SG_nw hS n5).1⟩, fun _ => LX_one b6 (by omega) hS P5 hx0'⟩
  · have mo := line66 (z := r3) hv (by omega)
    have fin : T2 (b_X5_readLine_47 r1.2 r1.1) (b_X12_line_66 r3 ((61 : Int32) + z.1 76 1)) (fun r s => RLn q r s ∧ (s.1 60 20 = -1 → LX y z m r.2 s)) := by
      rw [mo]
      obtain ⟨a, ha, hp⟩ := l47 (b := r1.1) hX (by rcases f5 with f | ⟨f, _⟩; exact Or.inl f; exact Or.inr f)
      exact ⟨a, _, ha, rfl, Or.inr ⟨w5, hp.2.2.trans p5, by rw [hp.1]; exact f5⟩, fun e => absurd w5 (by have e' : r3.1 60 20 = -1 := e; rw [e', m1i]; omega)⟩
    have w : (0 : Int32) ≤ r3.1 60 20 := Int32.le_iff_toInt_le.mpr (by rw [l0]; exact w5)
    rcases f5 with f | ⟨f, dd⟩
    · exact T2_pl f (T2_pr w fin)
    · have ep4 : (r1.2.1 17 3).toInt = (r3.1 60 20).toInt := congrArg Int32.toInt p5
      have nx4 := x_nextE hT hX.1 (by omega)
      rw [ep4] at nx4
      exact T2_ql (by rw [f]; decide) (T2_le nx4 (T2_ql (fun e => by rw [e] at dd; exact absurd dd (by decide)) (T2_pr w fin)))

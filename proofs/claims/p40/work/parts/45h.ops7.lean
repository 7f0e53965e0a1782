/-! ===== shift; what a shelf holds; counts ===== -/
theorem x_refPair (q : SS) (a b : Int32) : f_X7_refusalOfPair q a b = some (if (0 ≤ a.toInt ∧ a.toInt < 6) ∧ 0 ≤ b.toInt ∧ b.toInt < 6 then (if q.1 27 a.toNatClampNeg = -2 ∨ q.1 27 b.toNatClampNeg = -2 then -11 else if (0 ≤ (q.1 27 a.toNatClampNeg).toInt ∧ (q.1 27 a.toNatClampNeg).toInt ≤ 4) ∧ q.1 27 a.toNatClampNeg = q.1 27 b.toNatClampNeg then 0 else -12) else -1) := by
  unfold f_X7_refusalOfPair
  simp only [x_isShelf, x_isEmpty, x_isRow, bind_s, bI_0, vin]
  grind
theorem m_cp1 {q : SS} {s o i j n : Int32} (hs : 0 ≤ s.toInt ∧ s.toInt < 6) (ho : 0 ≤ o.toInt ∧ o.toInt < 6) (hi : 0 ≤ i.toInt) (hj : 0 ≤ j.toInt) (hn : 0 ≤ n.toInt) (h1 : i.toInt + n.toInt ≤ 60) (h2 : j.toInt + n.toInt ≤ 60) {P : Int32 × SS → Prop}
    (k : ∀ r : SS, r.1 = q.1 → (∀ z, z ≠ 91 → z ≠ 92 → r.2 z = q.2 z) → (∀ z : Nat, r.2 91 z = if 60 * o.toNatClampNeg + j.toNatClampNeg ≤ z ∧ z < 60 * o.toNatClampNeg + j.toNatClampNeg + n.toNatClampNeg then q.2 91 (60 * s.toNatClampNeg + i.toNatClampNeg + (z - (60 * o.toNatClampNeg + j.toNatClampNeg))) else q.2 91 z) → P (n, r)) : T (b_X12_shift_113 q s i o j n 0) P := by
  have e60 : (60 : Int32).toInt = 60 := rfl
  have es : ((60 : Int32) * s + i).toInt = 60 * s.toInt + i.toInt := mul60 hs (by omega)
  have eo : ((60 : Int32) * o + j).toInt = 60 * o.toInt + j.toInt := mul60 ho (by omega)
  have cs := cnI hs.1
  have co := cnI ho.1
  have ci := cnI hi
  have cj := cnI hj
  have cn := cnI hn
  unfold b_X12_shift_113
  refine T_fx7 (fun q' l1 l2 l3 l4 l5 l6 => l1 = s ∧ l2 = i ∧ l3 = o ∧ l4 = j ∧ l5 = n ∧ 0 ≤ l6.toInt ∧ l6.toInt ≤ n.toInt ∧ LF 92 q q' ∧ ∀ z : Nat, (z : Int) < l6.toInt → q'.2 92 z = q.2 91 (60 * s.toNatClampNeg + i.toNatClampNeg + z)) (fun _ _ _ _ _ _ l6 => (60 - l6.toInt).toNat) ?_ _ _ _ _ _ _ _ _ ⟨rfl, rfl, rfl, rfl, rfl, by decide, by simp only [Int32.reduceToInt]; omega, LF_refl q, fun z hz => absurd hz (by simp only [Int32.reduceToInt]; omega)⟩ (by unfold FU; decide)
  rintro rec q1 l1 l2 l3 l4 l5 l6 ⟨rfl, rfl, rfl, rfl, rfl, g0, g1, g2, g3⟩ hr
  refine T_le (fun g => ?_) (fun g => ?_)
  · unfold b_X12_shift_150
    refine T_fx5 (fun q' m3 m4 m5 m6 => m3 = l3 ∧ m4 = l4 ∧ m5 = l5 ∧ 0 ≤ m6.toInt ∧ m6.toInt ≤ l5.toInt ∧ LF 91 q1 q' ∧ ∀ z : Nat, q'.2 91 z = if 60 * l3.toNatClampNeg + l4.toNatClampNeg ≤ z ∧ (z : Int) < 60 * l3.toNatClampNeg + l4.toNatClampNeg + m6.toInt then q.2 91 (60 * l1.toNatClampNeg + l2.toNatClampNeg + (z - (60 * l3.toNatClampNeg + l4.toNatClampNeg))) else q.2 91 z) (fun _ _ _ _ m6 => (60 - m6.toInt).toNat) ?_ _ _ _ _ _ _ ⟨rfl, rfl, rfl, by decide, by simp only [Int32.reduceToInt]; omega, LF_refl q1, fun z => ?_⟩ (by unfold FU; decide)
    · rintro rec2 q2 m3 m4 m5 m6 ⟨rfl, rfl, rfl, f0, f1, f2, f3⟩ hr2
      refine T_le (fun g' => T_some.mpr (k _ (f2.1.trans g2.1) (fun z z1 z2 => (f2.2 z z1).trans (g2.2 z z2)) (fun z => ?_))) (fun g' => ?_)
      · rw [f3 z]
        have : m6.toInt = m5.toInt := by omega
        rw [this, ← cn]
        have e : (60 * m3.toNatClampNeg + m4.toNatClampNeg ≤ z ∧ (z : Int) < 60 * (m3.toNatClampNeg : Int) + (m4.toNatClampNeg : Int) + (m5.toNatClampNeg : Int)) ↔ (60 * m3.toNatClampNeg + m4.toNatClampNeg ≤ z ∧ z < 60 * m3.toNatClampNeg + m4.toNatClampNeg + m5.toNatClampNeg) := by omega
        simp only [e]
      · have e1 := inc1 (a := m6) (by omega) (by omega)
        have e2 : ((60 : Int32) * m3 + m4 + m6).toInt = 60 * m3.toInt + m4.toInt + m6.toInt := by rw [tadd (by omega) (by omega), eo]
        have c6 := cnI f0
        have e3 : ((60 : Int32) * m3 + m4 + m6).toNatClampNeg = 60 * m3.toNatClampNeg + m4.toNatClampNeg + m6.toNatClampNeg := by
          simp only [cn_eq, e2]
          omega
        refine T_vp f0 (by show m6.toInt < 60; omega) (T_vp (by omega) (by show ((60 : Int32) * m3 + m4 + m6).toInt < 360; omega) (T_nm (hr2 _ _ _ _ _ ⟨rfl, rfl, rfl, by omega, by omega, LF_sL f2, fun z => ?_⟩ (by omega))))
        rw [sL_rd, e3]
        by_cases e : z = 60 * m3.toNatClampNeg + m4.toNatClampNeg + m6.toNatClampNeg
        · rw [if_pos ⟨rfl, e⟩, if_pos (by omega), f2.2 92 (by decide), g3 _ (by omega)]
          exact congrArg (q.2 91) (by omega)
        · rw [if_neg (fun x => e x.2), f3 z]
          have e : (60 * m3.toNatClampNeg + m4.toNatClampNeg ≤ z ∧ (z : Int) < 60 * (m3.toNatClampNeg : Int) + (m4.toNatClampNeg : Int) + m6.toInt) ↔ (60 * m3.toNatClampNeg + m4.toNatClampNeg ≤ z ∧ (z : Int) < 60 * (m3.toNatClampNeg : Int) + (m4.toNatClampNeg : Int) + (m6 + 1).toInt) := by omega
          simp only [e]
    · have l0 : (0 : Int32).toInt = 0 := rfl
      rw [if_neg (by omega)]
      exact congrFun (g2.2 91 (by decide)) z
  · have e1 := inc1 (a := l6) (by omega) (by omega)
    have e2 : ((60 : Int32) * l1 + l2 + l6).toInt = 60 * l1.toInt + l2.toInt + l6.toInt := by rw [tadd (by omega) (by omega), es]
    have c6 := cnI g0
    have e3 : ((60 : Int32) * l1 + l2 + l6).toNatClampNeg = 60 * l1.toNatClampNeg + l2.toNatClampNeg + l6.toNatClampNeg := by
      simp only [cn_eq, e2]
      omega
    refine T_vp (by omega) (by show ((60 : Int32) * l1 + l2 + l6).toInt < 360; omega) (T_vp g0 (by show l6.toInt < 60; omega) (T_nm (hr _ _ _ _ _ _ _ ⟨rfl, rfl, rfl, rfl, rfl, by omega, by omega, LF_sL g2, fun z hz => ?_⟩ (by omega))))
    rw [sL_rd, e3]
    by_cases e : z = l6.toNatClampNeg
    · rw [if_pos ⟨rfl, e⟩, g2.2 91 (by decide), e]
    · rw [if_neg (fun x => e x.2)]
      exact g3 z (by omega)
theorem RS_shift {q X Y : SS} (h : RS q) {s o i j n : Nat} (hs : s < 6) (ho : o < 6) (k1 : 0 ≤ (q.1 27 s).toInt) (h1 : ((i + n : Nat) : Int) ≤ (q.1 90 s).toInt) (h2 : ((j + n : Nat) : Int) ≤ (q.1 90 o).toInt) (hX : X = sRL q (31 + o) (va_cpy (q.2 (31 + s)) (q.2 (31 + o)) i j n)) (y1 : Y.1 = X.1) (y2 : ∀ z, z ≠ 91 → z ≠ 92 → Y.2 z = X.2 z)
    (y3 : ∀ z : Nat, Y.2 91 z = if 60 * o + j ≤ z ∧ z < 60 * o + j + n then X.2 91 (60 * s + i + (z - (60 * o + j))) else X.2 91 z) : RS Y := by
  subst hX
  obtain ⟨g1, g2, g3, g4⟩ := h
  have y0 : Y.1 = q.1 := y1
  unfold RS
  rw [y0]
  refine ⟨g1, g2, g3, fun t ht h0 z hz => ?_⟩
  have x91 : ∀ z, (sRL q (31 + o) (va_cpy (q.2 (31 + s)) (q.2 (31 + o)) i j n)).2 91 z = q.2 91 z := fun z => by rw [sRL_rd, if_neg (by omega)]
  have zt := g2 t ht
  have zs := g2 s hs
  have zo := g2 o ho
  rw [y2 _ (by omega) (by omega), y3, x91, x91, sRL_rd]
  by_cases e : t = o
  · subst e
    rw [if_pos rfl]
    unfold va_cpy
    by_cases g : j ≤ z ∧ z < j + n
    · rw [if_pos g, if_pos (by omega), g4 s hs k1 _ (by omega)]
      exact congrArg (q.2 91) (by omega)
    · rw [if_neg g, if_neg (by omega)]
      exact g4 t ht h0 z hz
  · rw [if_neg (by omega), if_neg (by omega)]
    exact g4 t ht h0 z hz
theorem op_shift {q : SS} (h : INV q) (a i b j n : Int32) : T (f_X11_shift q a i b j n) (fun r => T (f_X12_shift r.2 a i b j n) (fun s => INV s.2 ∧ r.1 = s.1)) := by
  have hS := INV_RS h
  unfold f_X11_shift
  refine T_rw (x_refPair q a b) ?_
  by_cases c : (0 ≤ a.toInt ∧ a.toInt < 6) ∧ 0 ≤ b.toInt ∧ b.toInt < 6
  · have ha := cnL c.1.1 c.1.2
    have hb := cnL c.2.1 c.2.2
    have za := RS_size0 hS _ ha
    have zb := RS_size0 hS _ hb
    have sa := RS_shelf hS _ ha
    have sb := RS_shelf hS _ hb
    have e28a : q.1 28 a.toNatClampNeg = q.1 90 a.toNatClampNeg := congrFun (RS_size hS) _
    have e28b : q.1 28 b.toNatClampNeg = q.1 90 b.toNatClampNeg := congrFun (RS_size hS) _
    rw [if_pos c]
    -- the model's words of the two shelves
    have w1 : q.1 27 a.toNatClampNeg = -2 ↔ q.1 89 a.toNatClampNeg = -1 := by
      rcases sa with ⟨k1, k2⟩ | ⟨k1, k2, k3, k4⟩ | ⟨k1, k2, k3⟩
      · exact ⟨fun _ => k2, fun _ => k1⟩
      · exact ⟨fun k => absurd (k1.symm.trans k) (by decide), fun k => by rw [k] at k3; exact absurd k3 (by decide)⟩
      · exact ⟨fun k => by rw [k] at k1; exact absurd k1 (by decide), fun k => by rw [k] at k3; have := lm1; omega⟩
    have w2 : q.1 27 b.toNatClampNeg = -2 ↔ q.1 89 b.toNatClampNeg = -1 := by
      rcases sb with ⟨k1, k2⟩ | ⟨k1, k2, k3, k4⟩ | ⟨k1, k2, k3⟩
      · exact ⟨fun _ => k2, fun _ => k1⟩
      · exact ⟨fun k => absurd (k1.symm.trans k) (by decide), fun k => by rw [k] at k3; exact absurd k3 (by decide)⟩
      · exact ⟨fun k => by rw [k] at k1; exact absurd k1 (by decide), fun k => by rw [k] at k3; have := lm1; omega⟩
    unfold f_X12_shift
    by_cases d : q.1 27 a.toNatClampNeg = -2 ∨ q.1 27 b.toNatClampNeg = -2
    · rw [if_pos d]
      refine T_q (by decide) (T_some.mpr ?_)
      refine T_rw (m_isShelf _ a) (T_bp c.1 (T_rw (m_isShelf _ b) (T_bp c.2 (T_vp c.1.1 c.1.2 ?_))))
      by_cases d1 : q.1 27 a.toNatClampNeg = -2
      · exact T_p (w1.mp d1) (T_some.mpr ⟨h, rfl⟩)
      · exact T_q (fun k => d1 (w1.mpr k)) (T_vp c.2.1 c.2.2 (T_p (w2.mp (d.resolve_left d1)) (T_some.mpr ⟨h, rfl⟩)))
    · rw [if_neg d]
      have d1 : ¬ q.1 89 a.toNatClampNeg = -1 := fun k => d (Or.inl (w1.mpr k))
      have d2 : ¬ q.1 89 b.toNatClampNeg = -1 := fun k => d (Or.inr (w2.mpr k))
      -- of one sort, or not
      have w3 : ((0 ≤ (q.1 27 a.toNatClampNeg).toInt ∧ (q.1 27 a.toNatClampNeg).toInt ≤ 4) ∧ q.1 27 a.toNatClampNeg = q.1 27 b.toNatClampNeg) ↔ ((q.1 89 a.toNatClampNeg).toInt < 0 ∧ q.1 89 a.toNatClampNeg = q.1 89 b.toNatClampNeg) := by
        rcases sa with ⟨k1, k2⟩ | ⟨k1, k2, k3, k4⟩ | ⟨k1, k2, k3⟩
        · exact absurd (Or.inl k1) d
        · refine ⟨fun k => by rw [k1] at k; exact absurd k.1.1 (by decide), fun k => by omega⟩
        · rcases sb with ⟨m1, m2⟩ | ⟨m1, m2, m3, m4⟩ | ⟨m1, m2, m3⟩
          · exact absurd (Or.inr m1) d
          · exact ⟨fun k => by rw [k.2, m1] at k1; exact absurd k1 (by decide), fun k => by rw [k.2] at k3; omega⟩
          · refine ⟨fun k => ⟨by omega, Int32.toInt_inj.mp (by rw [k3, m3, k.2])⟩, fun k => ⟨⟨k1, k2⟩, Int32.toInt_inj.mp ?_⟩⟩
            rw [k.2] at k3
            omega
      by_cases d3 : (0 ≤ (q.1 27 a.toNatClampNeg).toInt ∧ (q.1 27 a.toNatClampNeg).toInt ≤ 4) ∧ q.1 27 a.toNatClampNeg = q.1 27 b.toNatClampNeg
      · rw [if_pos d3]
        refine T_p rfl ?_
        have d4 := w3.mp d3
        have ea : szX q a = (q.1 90 a.toNatClampNeg).toInt := by
          unfold szX
          rw [if_pos ⟨c.1.1, c.1.2, d3.1⟩, e28a]
        have eb : szX q b = (q.1 90 b.toNatClampNeg).toInt := by
          unfold szX
          rw [← d3.2, if_pos ⟨c.2.1, c.2.2, d3.1⟩, e28b]
        have hX := x_hasPlaces q a i n
        have hY := x_hasPlaces q b j n
        rw [ea] at hX
        rw [eb] at hY
        have mod : ∀ {P : Int32 × SS → Prop} (r : SS), r.1 = q.1 → (T (if n < 0 then (some ((-13 : Int32), r)) else (if i < 0 then (some ((-13 : Int32), r)) else (if j < 0 then (some ((-13 : Int32), r)) else (if vin a 6 then if ((r.1 90 a.toNatClampNeg) - n) < i then (some ((-13 : Int32), r)) else (if vin b 6 then if j ≤ ((r.1 90 b.toNatClampNeg) - n) then (b_X12_shift_113 r a i b j n (0 : Int32)) else (some ((-13 : Int32), r)) else none) else none)))) P) → T (f_X12_shift r a i b j n) P := by
          intro P r er k
          unfold f_X12_shift
          refine T_rw (m_isShelf _ a) (T_bp c.1 (T_rw (m_isShelf _ b) (T_bp c.2 (T_vp c.1.1 c.1.2 (T_q (by rw [er]; exact d1) (T_vp c.2.1 c.2.2 (T_q (by rw [er]; exact d2) (T_vp c.1.1 c.1.2 (T_len (by rw [er]; exact d4.1) (T_vp c.1.1 c.1.2 (T_vp c.2.1 c.2.2 (T_p (by rw [er]; exact d4.2) k))))))))))))
        have l0 : (0 : Int32).toInt = 0 := rfl
        have nb := Int32.toInt_lt n
        refine T_lt (fun g => T_some.mpr (mod q rfl (T_ltp g (T_some.mpr ⟨h, rfl⟩)))) (fun g => T_rw hX (T_bi (fun g2 => T_some.mpr (mod q rfl (T_ltn g ?_))) (fun g2 => T_rw hY (T_bi (fun g3 => T_some.mpr (mod q rfl (T_ltn g ?_))) (fun g3 => ?_)))))
        · refine T_lt (fun _ => T_some.mpr ⟨h, rfl⟩) (fun g4 => T_lt (fun _ => T_some.mpr ⟨h, rfl⟩) (fun g5 => T_vp c.1.1 c.1.2 (T_ltp ?_ (T_some.mpr ⟨h, rfl⟩))))
          rw [tsub (by omega) (by omega)]
          omega
        · refine T_lt (fun _ => T_some.mpr ⟨h, rfl⟩) (fun g4 => T_lt (fun _ => T_some.mpr ⟨h, rfl⟩) (fun g5 => T_vp c.1.1 c.1.2 (T_ltn ?_ (T_vp c.2.1 c.2.2 (T_len ?_ (T_some.mpr ⟨h, rfl⟩))))))
          · rw [tsub (by omega) (by omega)]
            omega
          · rw [tsub (by omega) (by omega)]
            omega
        · have hcp : cpok 60 60 i j n := ⟨fun k => by rw [Int32.lt_iff_toInt_lt] at k; omega, fun k => by rw [Int32.lt_iff_toInt_lt] at k; omega, fun k => by rw [Int32.lt_iff_toInt_lt] at k; omega, by simp only [cn_eq]; omega, by simp only [cn_eq]; omega⟩
          have ra : f_X7_isRow q a = some (bI True) := by rw [x_isRow]; exact congrArg some (bI_c ⟨fun _ => trivial, fun _ => ⟨c.1.1, c.1.2, d3.1⟩⟩)
          have rb : f_X7_isRow q b = some (bI True) := by rw [x_isRow]; exact congrArg some (bI_c ⟨fun _ => trivial, fun _ => ⟨c.2.1, c.2.2, by rw [← d3.2]; exact d3.1⟩⟩)
          unfold f_X7_copy
          refine T_b (T_rw hX (T_bp g2 (T_rw hY (T_bp g3 (T_rw ra (T_bp trivial (T_rw rb (T_bp trivial (T_vp c.1.1 c.1.2 (T_vp c.2.1 c.2.2 (T_p hcp (T_nm (T_some.mpr (Eq.refl _)))))))))))))) (fun X hXX => ?_)
          refine T_some.mpr (mod X (by subst hXX; rfl) ?_)
          have x90 : X.1 = q.1 := by subst hXX; rfl
          refine T_ltn g (T_ltn g2.1 (T_ltn g3.1 (T_vp c.1.1 c.1.2 (T_ltn ?_ (T_vp c.2.1 c.2.2 (T_lep ?_ (m_cp1 c.1 c.2 g2.1 g3.1 g (by omega) (by omega) (fun Y y1 y2 y3 => ?_))))))))
          · rw [x90, tsub (by omega) (by omega)]
            omega
          · rw [x90, tsub (by omega) (by omega)]
            omega
          · refine ⟨?_, rfl⟩
            have y0 : Y.1 = q.1 := y1.trans x90
            have f := fun (k : Nat) (_ : true = true) => congrFun y0 k
            have ci := cnI g2.1
            have cj := cnI g3.1
            have cn := cnI g
            exact ⟨RY_fr (q := q) (f 3 rfl) (f 4 rfl) (f 5 rfl) (f 6 rfl) (f 7 rfl) (f 8 rfl) (f 9 rfl) (f 61 rfl) (f 62 rfl) (f 63 rfl) (f 64 rfl) (f 65 rfl) (f 66 rfl) (f 67 rfl) (congrFun (f 1 rfl) 1) (congrFun (f 1 rfl) 2) (congrFun (f 10 rfl) 0) (congrFun (f 11 rfl) 0) (congrFun (f 60 rfl) 1) (congrFun (f 60 rfl) 6) (congrFun (f 68 rfl) 0) (congrFun (f 68 rfl) 1) (INV_RY h), RC_fr (q := q) (f 53 rfl) (f 54 rfl) (f 55 rfl) (f 56 rfl) (f 69 rfl) (f 70 rfl) (f 71 rfl) (f 72 rfl) (congrFun (f 52 rfl) 5) (congrFun (f 52 rfl) 6) (congrFun (f 60 rfl) 1) (congrFun (f 60 rfl) 6) (congrFun (f 60 rfl) 11) (congrFun (f 60 rfl) 12) (INV_RC h), RD_fr (q := q) (f 48 rfl) (f 49 rfl) (f 50 rfl) (f 51 rfl) (f 83 rfl) (f 84 rfl) (f 85 rfl) (f 86 rfl) (congrFun (f 47 rfl) 5) (congrFun (f 47 rfl) 6) (congrFun (f 47 rfl) 7) (congrFun (f 60 rfl) 1) (congrFun (f 60 rfl) 6) (congrFun (f 60 rfl) 46) (congrFun (f 60 rfl) 47) (congrFun (f 60 rfl) 48) (INV_RD h), RT_fr (q := q) (f 18 rfl) (f 73 rfl) (congrFun (f 17 rfl) 2) (congrFun (f 60 rfl) 18) (INV_RT h), RH_fr (q := q) (f 58 rfl) (f 59 rfl) (f 87 rfl) (f 88 rfl) (congrFun (f 57 rfl) 2) (congrFun (f 57 rfl) 3) (congrFun (f 60 rfl) 52) (congrFun (f 60 rfl) 54) (INV_RH h), RS_shift hS ha hb d3.1.1 (by omega) (by omega) hXX.symm y1 y2 y3, RW_fr (q := q) (f 74 rfl) (f 75 rfl) (f 77 rfl) (f 78 rfl) (congrFun (f 60 rfl) 30) (congrFun (f 76 rfl) 0) (INV_RW h), RJ_fr (q := q) (f 81 rfl) (congrFun (f 37 rfl) 3) (INV_RJ h)⟩
      · rw [if_neg d3]
        have d4 : ¬ ((q.1 89 a.toNatClampNeg).toInt < 0 ∧ q.1 89 a.toNatClampNeg = q.1 89 b.toNatClampNeg) := fun k => d3 (w3.mpr k)
        refine T_q (by decide) (T_some.mpr ?_)
        refine T_rw (m_isShelf _ a) (T_bp c.1 (T_rw (m_isShelf _ b) (T_bp c.2 (T_vp c.1.1 c.1.2 (T_q d1 (T_vp c.2.1 c.2.2 (T_q d2 (T_vp c.1.1 c.1.2 (T_le (fun _ => T_some.mpr ⟨h, rfl⟩) (fun g => T_vp c.1.1 c.1.2 (T_vp c.2.1 c.2.2 (T_q (fun k => d4 ⟨g, k⟩) (T_some.mpr ⟨h, rfl⟩)))))))))))))
  · rw [if_neg c]
    refine T_q (by decide) (T_some.mpr ?_)
    unfold f_X12_shift
    by_cases c1 : 0 ≤ a.toInt ∧ a.toInt < 6
    · exact T_rw (m_isShelf _ a) (T_bp c1 (T_rw (m_isShelf _ b) (T_bn (fun k => c ⟨c1, k⟩) (T_some.mpr ⟨h, rfl⟩))))
    · exact T_rw (m_isShelf _ a) (T_bn c1 (T_some.mpr ⟨h, rfl⟩))

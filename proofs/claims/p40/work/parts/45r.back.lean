/-! ===== back ===== -/
theorem x_lay {q : SS} (h : RY q) (t0 : 0 ≤ (q.1 47 5).toInt) (tk : (q.1 47 5).toInt ≤ (q.1 60 6).toInt) : T (f_X1_layBack q) (fun r => r.2 = q.2 ∧ (∀ k, k ≠ 10 → k ≠ 48 → k ≠ 7 → k ≠ 9 → r.1 k = q.1 k) ∧ r.1 10 0 = q.1 47 6 ∧ (∀ j, r.1 48 j = if j < 4 then q.1 49 j else q.1 48 j) ∧ (∀ j : Nat, r.1 7 j = if (j : Int) < (q.1 47 5).toInt then q.1 50 j else q.1 7 j) ∧ (∀ j : Nat, r.1 9 j = if (j : Int) < (q.1 47 5).toInt then q.1 51 j else q.1 9 j)) := by
  have p6 := RY_p6 h
  have k12 := RY_k12 h
  have ep := RY_p h
  have ek := RY_k h
  unfold f_X1_layBack
  have st := x_set (q := q) (by rw [ep]; exact p6) (by rw [ek]; exact k12) 7 0 (q.1 47 6)
  rw [if_pos (Or.inr (Or.inr ⟨by decide, by decide, rfl⟩))] at st
  refine T_rw st (T_p (by decide) (T_nm ?_))
  unfold b_X1_layBack_30
  refine T_fx2 (fun z l => 0 ≤ l.toInt ∧ l.toInt ≤ (q.1 47 5).toInt ∧ z.2 = q.2 ∧ (∀ k, k ≠ 10 → k ≠ 48 → k ≠ 7 → k ≠ 9 → z.1 k = q.1 k) ∧ z.1 10 0 = q.1 47 6 ∧ (∀ j, z.1 48 j = if j < 4 then q.1 49 j else q.1 48 j) ∧ (∀ j : Nat, z.1 7 j = if (j : Int) < l.toInt then q.1 50 j else q.1 7 j) ∧ (∀ j : Nat, z.1 9 j = if (j : Int) < l.toInt then q.1 51 j else q.1 9 j)) (fun _ l => (12 - l.toInt).toNat) ?_ _ _ _ ⟨by decide, by simp only [Int32.reduceToInt]; omega, rfl, fun k h1 h2 h3 h4 => ?_, rfl, fun j => ?_, fun j => ?_, fun j => ?_⟩ (by unfold FU; decide)
  · rintro rec z l ⟨g0, g1, z2, zo, z10, z48, z7, z9⟩ hr
    have z47 : z.1 47 = q.1 47 := zo 47 (by decide) (by decide) (by decide) (by decide)
    have z1 : z.1 1 = q.1 1 := zo 1 (by decide) (by decide) (by decide) (by decide)
    rw [z47]
    refine T_le (fun g => T_some.mpr ⟨z2, zo, z10, z48, fun j => ?_, fun j => ?_⟩) (fun g => T_len (by show l.toInt < (12 : Int); omega) ?_)
    · have : l.toInt = (q.1 47 5).toInt := by omega
      rw [z7, this]
    · have : l.toInt = (q.1 47 5).toInt := by omega
      rw [z9, this]
    · have e1 := inc1 (a := l) (by omega) (by omega)
      have cl := cnI g0
      have s4 := x_set (q := z) (by rw [z1, ep]; exact p6) (by rw [z1, ek]; exact k12) 4 l (z.1 50 l.toNatClampNeg)
      rw [if_pos (Or.inr (Or.inl ⟨by decide, by decide, g0, by rw [z1, ek]; omega⟩))] at s4
      have s6 := x_set (q := sI z 7 l.toNatClampNeg (z.1 50 l.toNatClampNeg)) (by show (z.1 1 1).toInt ≤ 6; rw [z1, ep]; exact p6) (by show (z.1 1 2).toInt ≤ 12; rw [z1, ek]; exact k12) 6 l (z.1 51 l.toNatClampNeg)
      rw [if_pos (Or.inr (Or.inl ⟨by decide, by decide, g0, by show l.toInt < (z.1 1 2).toInt; rw [z1, ek]; omega⟩))] at s6
      have v : vin l 12 := ⟨g0, by show l.toInt < 12; omega⟩
      refine T_p v (T_rw s4 (T_p v (T_rw s6 (hr _ _ ⟨by omega, by omega, z2, fun k h1 h2 h3 h4 => ?_, z10, z48, fun j => ?_, fun j => ?_⟩ (by omega)))))
      · show (sI (sI z 7 _ _) 9 _ _).1 k = _
        rw [sI_ro h4, sI_ro h3]
        exact zo k h1 h2 h3 h4
      · show (sI (sI z 7 l.toNatClampNeg (z.1 50 l.toNatClampNeg)) 9 l.toNatClampNeg (z.1 51 l.toNatClampNeg)).1 7 j = _
        rw [sI_ro (by decide), sI_rd]
        by_cases e : j = l.toNatClampNeg
        · rw [if_pos ⟨rfl, e⟩, if_pos (by omega), zo 50 (by decide) (by decide) (by decide) (by decide), e]
        · rw [if_neg (fun x => e x.2), z7]
          by_cases e2 : (j : Int) < l.toInt
          · rw [if_pos e2, if_pos (by omega)]
          · rw [if_neg e2, if_neg (by omega)]
      · show (sI (sI z 7 l.toNatClampNeg (z.1 50 l.toNatClampNeg)) 9 l.toNatClampNeg (z.1 51 l.toNatClampNeg)).1 9 j = _
        rw [sI_rd]
        by_cases e : j = l.toNatClampNeg
        · rw [if_pos ⟨rfl, e⟩, if_pos (by omega), zo 51 (by decide) (by decide) (by decide) (by decide), e]
        · rw [if_neg (fun x => e x.2), sI_ro (by decide), z9]
          by_cases e2 : (j : Int) < l.toInt
          · rw [if_pos e2, if_pos (by omega)]
          · rw [if_neg e2, if_neg (by omega)]
  · rw [sR_ro h2]
    show (sI q 10 0 (q.1 47 6)).1 k = _
    rw [sI_ro h1]
  · rw [sR_rd, if_pos rfl]
    show (if 0 ≤ j ∧ j < 0 + 4 then q.1 49 (0 + (j - 0)) else q.1 48 j) = _
    by_cases e : j < 4
    · rw [if_pos (by omega), if_pos e]
      exact congrArg (q.1 49) (by omega)
    · rw [if_neg (by omega), if_neg e]
  · rw [if_neg (by simp only [Int32.reduceToInt]; omega), sR_ro (by decide)]
    rfl
  · rw [if_neg (by simp only [Int32.reduceToInt]; omega), sR_ro (by decide)]
    rfl
theorem m_back {q : SS} (hi : q.1 60 46 ≠ 0) (t0 : 0 ≤ (q.1 60 47).toInt) (t12 : (q.1 60 47).toInt ≤ 12) : T (f_X12_back q) (fun s => s.1 = q.1 86 0 ∧ s.2.2 = q.2 ∧ (∀ k, k ≠ 68 → k ≠ 65 → k ≠ 67 → k ≠ 83 → s.2.1 k = q.1 k) ∧ s.2.1 68 0 = q.1 60 48 ∧ s.2.1 68 1 = q.1 68 1 ∧ (∀ j, s.2.1 83 j = if j < 4 then q.1 86 j else q.1 83 j) ∧ (∀ j : Nat, s.2.1 65 j = if (j : Int) < (q.1 60 47).toInt then q.1 84 j else q.1 65 j) ∧ (∀ j : Nat, s.2.1 67 j = if (j : Int) < (q.1 60 47).toInt then q.1 85 j else q.1 67 j)) := by
  unfold f_X12_back
  refine T_q hi (T_vp (by decide) (by decide) (T_nm ?_))
  unfold b_X12_back_22
  refine T_fx2 (fun z l => 0 ≤ l.toInt ∧ l.toInt ≤ (q.1 60 47).toInt ∧ z.2 = q.2 ∧ (∀ k, k ≠ 68 → k ≠ 65 → k ≠ 67 → z.1 k = q.1 k) ∧ z.1 68 0 = q.1 60 48 ∧ z.1 68 1 = q.1 68 1 ∧ (∀ j : Nat, z.1 65 j = if (j : Int) < l.toInt then q.1 84 j else q.1 65 j) ∧ (∀ j : Nat, z.1 67 j = if (j : Int) < l.toInt then q.1 85 j else q.1 67 j)) (fun _ l => (12 - l.toInt).toNat) ?_ _ _ _ ⟨by decide, by simp only [Int32.reduceToInt]; omega, rfl, fun k h1 _ _ => sI_ro h1, rfl, rfl, fun j => by rw [if_neg (by simp only [Int32.reduceToInt]; omega)]; rfl, fun j => by rw [if_neg (by simp only [Int32.reduceToInt]; omega)]; rfl⟩ (by unfold FU; decide)
  rintro rec z l ⟨g0, g1, z2, zo, z680, z681, z65, z67⟩ hr
  rw [zo 60 (by decide) (by decide) (by decide)]
  refine T_le (fun g => ?_) (fun g => ?_)
  · have el : l.toInt = (q.1 60 47).toInt := by omega
    unfold b_X12_back_62
    refine T_fx2 (fun y m => 0 ≤ m.toInt ∧ m.toInt ≤ 4 ∧ y.2 = z.2 ∧ (∀ k, k ≠ 83 → y.1 k = z.1 k) ∧ (∀ j : Nat, y.1 83 j = if (j : Int) < m.toInt then z.1 86 j else z.1 83 j)) (fun _ m => (4 - m.toInt).toNat) ?_ _ _ _ ⟨by decide, by decide, rfl, fun _ _ => rfl, fun j => by rw [if_neg (by simp only [Int32.reduceToInt]; omega)]⟩ (by unfold FU; decide)
    rintro rec2 y m ⟨f0, f1, y2, yo, y83⟩ hr2
    have l4 : (4 : Int32).toInt = 4 := rfl
    refine T_le (fun f => T_vp (by decide) (by decide) (T_some.mpr ⟨?_, y2.trans z2, fun k h1 h2 h3 h4 => (yo k h4).trans (zo k h1 h2 h3), by rw [yo 68 (by decide)]; exact z680, by rw [yo 68 (by decide)]; exact z681, fun j => ?_, fun j => ?_, fun j => ?_⟩)) (fun f => ?_)
    · show y.1 83 0 = q.1 86 0
      rw [y83, if_pos (by omega), zo 86 (by decide) (by decide) (by decide)]
    · rw [y83, zo 83 (by decide) (by decide) (by decide), zo 86 (by decide) (by decide) (by decide)]
      by_cases e : j < 4
      · rw [if_pos (by omega), if_pos e]
      · rw [if_neg (by omega), if_neg e]
    · rw [yo 65 (by decide), z65, el]
    · rw [yo 67 (by decide), z67, el]
    · have e1 := inc1 (a := m) (by omega) (by omega)
      have cm := cnI f0
      refine T_vp f0 (by show m.toInt < 4; omega) (T_vp f0 (by show m.toInt < 4; omega) (T_nm (hr2 _ _ ⟨by omega, by omega, y2, fun k hk => (sI_ro hk).trans (yo k hk), fun j => ?_⟩ (by omega))))
      rw [sI_rd]
      by_cases e : j = m.toNatClampNeg
      · rw [if_pos ⟨rfl, e⟩, if_pos (by omega), yo 86 (by decide), e]
      · rw [if_neg (fun x => e x.2), y83]
        by_cases e2 : (j : Int) < m.toInt
        · rw [if_pos e2, if_pos (by omega)]
        · rw [if_neg e2, if_neg (by omega)]
  · have e1 := inc1 (a := l) (by omega) (by omega)
    have cl := cnI g0
    have v : vin l 12 := ⟨g0, by show l.toInt < 12; omega⟩
    refine T_p v (T_p v (T_nm (T_p v (T_p v (T_nm (hr _ _ ⟨by omega, by omega, z2, fun k h1 h2 h3 => ?_, z680, z681, fun j => ?_, fun j => ?_⟩ (by omega)))))))
    · rw [sI_ro h3, sI_ro h2]
      exact zo k h1 h2 h3
    · rw [sI_ro (by decide), sI_rd]
      by_cases e : j = l.toNatClampNeg
      · rw [if_pos ⟨rfl, e⟩, if_pos (by omega), zo 84 (by decide) (by decide) (by decide), e]
      · rw [if_neg (fun x => e x.2), z65]
        by_cases e2 : (j : Int) < l.toInt
        · rw [if_pos e2, if_pos (by omega)]
        · rw [if_neg e2, if_neg (by omega)]
    · rw [sI_rd]
      by_cases e : j = l.toNatClampNeg
      · rw [if_pos ⟨rfl, e⟩, if_pos (by omega)]
        show z.1 85 l.toNatClampNeg = _
        rw [zo 85 (by decide) (by decide) (by decide), e]
      · rw [if_neg (fun x => e x.2), sI_ro (by decide), z67]
        by_cases e2 : (j : Int) < l.toInt
        · rw [if_pos e2, if_pos (by omega)]
        · rw [if_neg e2, if_neg (by omega)]
theorem op_back {q : SS} (h : INV q) : T (f_X11_back q) (fun r => T (f_X12_back r.2) (fun s => INV s.2 ∧ r.1 = s.1)) := by
  have hY := INV_RY h
  have hD := INV_RD h
  have k12 := RY_k12 hY
  have im := RD_img hD
  have im01 := RD_img01 hD
  unfold f_X11_back f_X1_hasImage
  rw [im]
  by_cases e : q.1 60 46 = 0
  · refine T_b (Q := fun r => r = 0) (T_p im01 (T_some.mpr e)) (fun r hr => ?_)
    subst hr
    refine T_p rfl (T_some.mpr ?_)
    unfold f_X12_back
    exact T_p e (T_some.mpr ⟨h, rfl⟩)
  · refine T_b (Q := fun r => r = q.1 60 46) (T_p im01 (T_some.mpr rfl)) (fun r hr => ?_)
    subst hr
    have ekt := RD_kt hD
    have kt0 := RD_kt0 hD
    have ktk := RD_ktk hD
    refine T_q e (T_b (x_lay hY (by rw [ekt]; exact kt0) (by rw [ekt]; exact ktk)) (fun r hr => ?_))
    obtain ⟨r2, ro, r10, r48, r7, r9⟩ := hr
    have r60 : r.1 60 = q.1 60 := ro 60 (by decide) (by decide) (by decide) (by decide)
    have rk : ∀ k, 48 < k → r.1 k = q.1 k := fun k hk => ro k (by omega) (by omega) (by omega) (by omega)
    refine T_rw (x_noted 0 (by decide) (by decide)) (T_some.mpr ?_)
    refine T_mono (m_back (q := r) (by rw [r60]; exact e) (by rw [r60]; exact kt0) (by rw [r60]; omega)) (fun s hs => ?_)
    obtain ⟨s1, s2, so, s680, s681, s83, s65, s67⟩ := hs
    have sk : ∀ k, k ≠ 68 → k ≠ 65 → k ≠ 67 → k ≠ 83 → k ≠ 10 → k ≠ 48 → k ≠ 7 → k ≠ 9 → s.2.1 k = q.1 k := fun k a b c d e f g h => (so k a b c d).trans (ro k e f g h)
    have x2 : s.2.2 = q.2 := s2.trans r2
    have t7 : ∀ j : Nat, s.2.1 7 j = if (j : Int) < (q.1 60 47).toInt then q.1 84 j else q.1 65 j := fun j => by
      rw [so 7 (by decide) (by decide) (by decide) (by decide), r7, ekt, RD_kh hD, RY_holder hY]
    have t65 : ∀ j : Nat, s.2.1 65 j = if (j : Int) < (q.1 60 47).toInt then q.1 84 j else q.1 65 j := fun j => by
      rw [s65, r60, rk 84 (by decide), rk 65 (by decide)]
    have t9 : ∀ j : Nat, s.2.1 9 j = if (j : Int) < (q.1 60 47).toInt then q.1 85 j else q.1 67 j := fun j => by
      rw [so 9 (by decide) (by decide) (by decide) (by decide), r9, ekt, RD_kf hD, RY_folds hY]
    have t67 : ∀ j : Nat, s.2.1 67 j = if (j : Int) < (q.1 60 47).toInt then q.1 85 j else q.1 67 j := fun j => by
      rw [s67, r60, rk 85 (by decide), rk 67 (by decide)]
    have t48 : ∀ j, s.2.1 48 j = if j < 4 then q.1 86 j else q.1 83 j := fun j => by
      rw [so 48 (by decide) (by decide) (by decide) (by decide), r48, RD_knotes hD, RD_notes hD]
    have t83 : ∀ j, s.2.1 83 j = if j < 4 then q.1 86 j else q.1 83 j := fun j => by
      rw [s83, rk 86 (by decide), rk 83 (by decide)]
    have t10 : s.2.1 10 0 = q.1 60 48 := by rw [so 10 (by decide) (by decide) (by decide) (by decide), r10, RD_khour hD]
    have t680 : s.2.1 68 0 = q.1 60 48 := by rw [s680, r60]
    have t681 : s.2.1 68 1 = q.1 68 1 := by rw [s681, rk 68 (by decide)]
    have SK := fun (k : Nat) (e : (k == 68 || k == 65 || k == 67 || k == 83 || k == 10 || k == 48 || k == 7 || k == 9) = false) => sk k (by rintro rfl; cases e) (by rintro rfl; cases e) (by rintro rfl; cases e) (by rintro rfl; cases e) (by rintro rfl; cases e) (by rintro rfl; cases e) (by rintro rfl; cases e) (by rintro rfl; cases e)
    have s60 := SK 60 rfl
    refine ⟨⟨?_, RC_fr (q := q) (SK 53 rfl) (SK 54 rfl) (SK 55 rfl) (SK 56 rfl) (SK 69 rfl) (SK 70 rfl) (SK 71 rfl) (SK 72 rfl) (congrFun (SK 52 rfl) 5) (congrFun (SK 52 rfl) 6) (congrFun s60 1) (congrFun s60 6) (congrFun s60 11) (congrFun s60 12) (INV_RC h), ?_, RT_fr (q := q) (SK 18 rfl) (SK 73 rfl) (congrFun (SK 17 rfl) 2) (congrFun s60 18) (INV_RT h), RH_fr (q := q) (SK 58 rfl) (SK 59 rfl) (SK 87 rfl) (SK 88 rfl) (congrFun (SK 57 rfl) 2) (congrFun (SK 57 rfl) 3) (congrFun s60 52) (congrFun s60 54) (INV_RH h), RS_fr (q := q) (SK 27 rfl) (SK 28 rfl) (SK 29 rfl) (SK 89 rfl) (SK 90 rfl) (congrFun s60 52) (congrFun x2 91) (fun s _ => congrFun x2 _) (INV_RS h), RW_fr (q := q) (SK 74 rfl) (SK 75 rfl) (SK 77 rfl) (SK 78 rfl) (congrFun s60 30) (congrFun (SK 76 rfl) 0) (INV_RW h), RJ_fr (q := q) (SK 81 rfl) (congrFun (SK 37 rfl) 3) (INV_RJ h)⟩, ?_⟩
    · obtain ⟨h1, h2, h3, h4, h5, h6, h7, h8, h9, h10, h11, h12, h13, h14, h15, h16, h17, h18, h19, h20, h21, h22, h23, h24, h25, h26, h27, h28, h29⟩ := hY
      unfold RY
      rw [s60, SK 1 rfl, SK 3 rfl, SK 4 rfl, SK 5 rfl, SK 6 rfl, SK 8 rfl, SK 11 rfl, SK 61 rfl, SK 62 rfl, SK 63 rfl, SK 64 rfl, SK 66 rfl, t10, t680, t681]
      refine ⟨h1, h2, h3, h4, h5, h6, h7, h8, h9, funext fun j => by rw [t7, t65], h11, funext fun j => by rw [t9, t67], rfl, h14, h15, h16, h17, h18, h19, h20, h21, h22, fun t ht => ?_, h24, fun t ht => ?_, RD_kh0 hD, RD_kh11 hD, h28, h29⟩
      · rw [t65]
        by_cases g : (t : Int) < (q.1 60 47).toInt
        · rw [if_pos g]
          exact RD_rkh hD t g
        · rw [if_neg g]
          exact h23 t ht
      · rw [t67]
        by_cases g : (t : Int) < (q.1 60 47).toInt
        · rw [if_pos g]
          exact RD_rkf hD t g
        · rw [if_neg g]
          exact h25 t ht
    · have e4883 : s.2.1 48 = s.2.1 83 := funext fun j => by rw [t48, t83]
      obtain ⟨d1, d⟩ := hD
      unfold RD
      rw [s60, SK 49 rfl, SK 86 rfl, SK 50 rfl, SK 84 rfl, SK 51 rfl, SK 85 rfl, SK 47 rfl]
      exact ⟨e4883, d⟩
    · show r.1 48 0 = s.1
      rw [s1, r48, if_pos (by decide), rk 86 (by decide), RD_knotes hD]

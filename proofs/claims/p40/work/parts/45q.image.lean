/-! ===== image, back ===== -/
theorem x_keep {q : SS} (hp : (q.1 1 1).toInt ≤ 6) (k0 : 0 ≤ (q.1 1 2).toInt) (k12 : (q.1 1 2).toInt ≤ 12) : T (f_X1_keepImage q) (fun r => r.2 = q.2 ∧ (∀ k, k ≠ 47 → k ≠ 49 → k ≠ 50 → k ≠ 51 → r.1 k = q.1 k) ∧ r.1 47 5 = q.1 1 2 ∧ r.1 47 6 = q.1 10 0 ∧ r.1 47 7 = 1 ∧ (∀ j, r.1 49 j = if j < 4 then q.1 48 j else q.1 49 j) ∧ (∀ j : Nat, r.1 50 j = if (j : Int) < (q.1 1 2).toInt then q.1 7 j else q.1 50 j) ∧ (∀ j : Nat, r.1 51 j = if (j : Int) < (q.1 1 2).toInt then q.1 9 j else q.1 51 j)) := by
  unfold f_X1_keepImage f_X10_tickets
  refine T_nm (T_rw rfl (T_nm (T_rw (x_hourNow _) (T_nm (T_p (by decide) (T_nm ?_))))))
  unfold b_X1_keepImage_43
  refine T_fx2 (fun z l => 0 ≤ l.toInt ∧ l.toInt ≤ (q.1 1 2).toInt ∧ z.2 = q.2 ∧ (∀ k, k ≠ 47 → k ≠ 49 → k ≠ 50 → k ≠ 51 → z.1 k = q.1 k) ∧ z.1 47 5 = q.1 1 2 ∧ z.1 47 6 = q.1 10 0 ∧ z.1 47 7 = 1 ∧ (∀ j, z.1 49 j = if j < 4 then q.1 48 j else q.1 49 j) ∧ (∀ j : Nat, z.1 50 j = if (j : Int) < l.toInt then q.1 7 j else q.1 50 j) ∧ (∀ j : Nat, z.1 51 j = if (j : Int) < l.toInt then q.1 9 j else q.1 51 j)) (fun _ l => (12 - l.toInt).toNat) ?_ _ _ _ ⟨by decide, by simp only [Int32.reduceToInt]; omega, rfl, fun k h1 h2 h3 h4 => ?_, rfl, rfl, rfl, fun j => ?_, fun j => ?_, fun j => ?_⟩ (by unfold FU; decide)
  · rintro rec z l ⟨g0, g1, z2, zo, z5, z6, z7, z49, z50, z51⟩ hr
    rw [z5]
    refine T_le (fun g => T_some.mpr ⟨z2, zo, z5, z6, z7, z49, fun j => ?_, fun j => ?_⟩) (fun g => T_len (by show l.toInt < (12 : Int); omega) ?_)
    · have : l.toInt = (q.1 1 2).toInt := by omega
      rw [z50, this]
    · have : l.toInt = (q.1 1 2).toInt := by omega
      rw [z51, this]
    · have e1 := inc1 (a := l) (by omega) (by omega)
      have cl := cnI g0
      have z1 : z.1 1 = q.1 1 := zo 1 (by decide) (by decide) (by decide) (by decide)
      have k4 := x_get4 (q := z) (by rw [z1]; exact k12) l
      have k6 := x_get6 (q := sI z 50 l.toNatClampNeg (z.1 7 l.toNatClampNeg)) (by show (z.1 1 2).toInt ≤ 12; rw [z1]; exact k12) l
      rw [z1, if_pos ⟨g0, g⟩] at k4
      rw [show (sI z 50 l.toNatClampNeg (z.1 7 l.toNatClampNeg)).1 1 2 = q.1 1 2 from congrFun z1 2, if_pos ⟨g0, g⟩] at k6
      refine T_rw k4 (T_vp g0 (by show l.toInt < 12; omega) (T_nm (T_rw k6 (T_vp g0 (by show l.toInt < 12; omega) (T_nm (hr _ _ ⟨by omega, by omega, z2, fun k h1 h2 h3 h4 => ?_, z5, z6, z7, z49, fun j => ?_, fun j => ?_⟩ (by omega)))))))
      · rw [sI_ro h4, sI_ro h3]
        exact zo k h1 h2 h3 h4
      · rw [sI_ro (by decide), sI_rd]
        by_cases e : j = l.toNatClampNeg
        · rw [if_pos ⟨rfl, e⟩, if_pos (by omega), zo 7 (by decide) (by decide) (by decide) (by decide), e]
        · rw [if_neg (fun x => e x.2), z50]
          by_cases e2 : (j : Int) < l.toInt
          · rw [if_pos e2, if_pos (by omega)]
          · rw [if_neg e2, if_neg (by omega)]
      · rw [sI_rd]
        by_cases e : j = l.toNatClampNeg
        · rw [if_pos ⟨rfl, e⟩, if_pos (by omega)]
          show z.1 9 l.toNatClampNeg = _
          rw [zo 9 (by decide) (by decide) (by decide) (by decide), e]
        · rw [if_neg (fun x => e x.2), sI_ro (by decide), z51]
          by_cases e2 : (j : Int) < l.toInt
          · rw [if_pos e2, if_pos (by omega)]
          · rw [if_neg e2, if_neg (by omega)]
  · rw [sR_ro h2, sI_ro h1, sI_ro h1, sI_ro h1]
  · rw [sR_rd, if_pos rfl]
    show (if 0 ≤ j ∧ j < 0 + 4 then q.1 48 (0 + (j - 0)) else q.1 49 j) = _
    by_cases e : j < 4
    · rw [if_pos (by omega), if_pos e]
      exact congrArg (q.1 48) (by omega)
    · rw [if_neg (by omega), if_neg e]
  · rw [if_neg (by simp only [Int32.reduceToInt]; omega), sR_ro (by decide)]
    rfl
  · rw [if_neg (by simp only [Int32.reduceToInt]; omega), sR_ro (by decide)]
    rfl
theorem m_image {q : SS} (k0 : 0 ≤ (q.1 60 6).toInt) (k12 : (q.1 60 6).toInt ≤ 12) : T (f_X12_image q) (fun s => s.1 = q.1 83 0 ∧ s.2.2 = q.2 ∧ (∀ k, k ≠ 60 → k ≠ 84 → k ≠ 85 → k ≠ 86 → s.2.1 k = q.1 k) ∧ (∀ i, i ≠ 46 → i ≠ 47 → i ≠ 48 → s.2.1 60 i = q.1 60 i) ∧ s.2.1 60 46 = 1 ∧ s.2.1 60 47 = q.1 60 6 ∧ s.2.1 60 48 = q.1 68 0 ∧ (∀ j, s.2.1 86 j = if j < 4 then q.1 83 j else q.1 86 j) ∧ (∀ j : Nat, s.2.1 84 j = if (j : Int) < (q.1 60 6).toInt then q.1 65 j else q.1 84 j) ∧ (∀ j : Nat, s.2.1 85 j = if (j : Int) < (q.1 60 6).toInt then q.1 67 j else q.1 85 j)) := by
  unfold f_X12_image
  refine T_nm (T_nm (T_vp (by decide) (by decide) (T_nm ?_)))
  unfold b_X12_image_25
  refine T_fx2 (fun z l => 0 ≤ l.toInt ∧ l.toInt ≤ (q.1 60 6).toInt ∧ z.2 = q.2 ∧ (∀ k, k ≠ 60 → k ≠ 84 → k ≠ 85 → z.1 k = q.1 k) ∧ (∀ i, i ≠ 46 → i ≠ 47 → i ≠ 48 → z.1 60 i = q.1 60 i) ∧ z.1 60 46 = 1 ∧ z.1 60 47 = q.1 60 6 ∧ z.1 60 48 = q.1 68 0 ∧ (∀ j : Nat, z.1 84 j = if (j : Int) < l.toInt then q.1 65 j else q.1 84 j) ∧ (∀ j : Nat, z.1 85 j = if (j : Int) < l.toInt then q.1 67 j else q.1 85 j)) (fun _ l => (12 - l.toInt).toNat) ?_ _ _ _ ⟨by decide, by simp only [Int32.reduceToInt]; omega, rfl, fun k h1 _ _ => by rw [sI_ro h1, sI_ro h1, sI_ro h1], fun i h1 h2 h3 => by rw [sI_rd, if_neg (fun x => h3 x.2), sI_rd, if_neg (fun x => h2 x.2), sI_rd, if_neg (fun x => h1 x.2)], rfl, rfl, rfl, fun j => by rw [if_neg (by simp only [Int32.reduceToInt]; omega)]; rfl, fun j => by rw [if_neg (by simp only [Int32.reduceToInt]; omega)]; rfl⟩ (by unfold FU; decide)
  rintro rec z l ⟨g0, g1, z2, zo, z60, z46, z47, z48, z84, z85⟩ hr
  rw [z60 6 (by decide) (by decide) (by decide)]
  refine T_le (fun g => ?_) (fun g => ?_)
  · have el : l.toInt = (q.1 60 6).toInt := by omega
    unfold b_X12_image_65
    refine T_fx2 (fun y m => 0 ≤ m.toInt ∧ m.toInt ≤ 4 ∧ y.2 = z.2 ∧ (∀ k, k ≠ 86 → y.1 k = z.1 k) ∧ (∀ j : Nat, y.1 86 j = if (j : Int) < m.toInt then z.1 83 j else z.1 86 j)) (fun _ m => (4 - m.toInt).toNat) ?_ _ _ _ ⟨by decide, by decide, rfl, fun _ _ => rfl, fun j => by rw [if_neg (by simp only [Int32.reduceToInt]; omega)]⟩ (by unfold FU; decide)
    rintro rec2 y m ⟨f0, f1, y2, yo, y86⟩ hr2
    have l4 : (4 : Int32).toInt = 4 := rfl
    refine T_le (fun f => T_vp (by decide) (by decide) (T_some.mpr ⟨?_, y2.trans z2, fun k h1 h2 h3 h4 => (yo k h4).trans (zo k h1 h2 h3), fun i h1 h2 h3 => by rw [yo 60 (by decide)]; exact z60 i h1 h2 h3, by rw [yo 60 (by decide)]; exact z46, by rw [yo 60 (by decide)]; exact z47, by rw [yo 60 (by decide)]; exact z48, fun j => ?_, fun j => ?_, fun j => ?_⟩)) (fun f => ?_)
    · show y.1 83 0 = q.1 83 0
      rw [yo 83 (by decide), zo 83 (by decide) (by decide) (by decide)]
    · rw [y86, zo 83 (by decide) (by decide) (by decide), zo 86 (by decide) (by decide) (by decide)]
      by_cases e : j < 4
      · rw [if_pos (by omega), if_pos e]
      · rw [if_neg (by omega), if_neg e]
    · rw [yo 84 (by decide), z84, el]
    · rw [yo 85 (by decide), z85, el]
    · have e1 := inc1 (a := m) (by omega) (by omega)
      have cm := cnI f0
      refine T_vp f0 (by show m.toInt < 4; omega) (T_vp f0 (by show m.toInt < 4; omega) (T_nm (hr2 _ _ ⟨by omega, by omega, y2, fun k hk => (sI_ro hk).trans (yo k hk), fun j => ?_⟩ (by omega))))
      rw [sI_rd]
      by_cases e : j = m.toNatClampNeg
      · rw [if_pos ⟨rfl, e⟩, if_pos (by omega), yo 83 (by decide), e]
      · rw [if_neg (fun x => e x.2), y86]
        by_cases e2 : (j : Int) < m.toInt
        · rw [if_pos e2, if_pos (by omega)]
        · rw [if_neg e2, if_neg (by omega)]
  · have e1 := inc1 (a := l) (by omega) (by omega)
    have cl := cnI g0
    have v : vin l 12 := ⟨g0, by show l.toInt < 12; omega⟩
    refine T_p v (T_p v (T_nm (T_p v (T_p v (T_nm (hr _ _ ⟨by omega, by omega, z2, fun k h1 h2 h3 => ?_, fun i h1 h2 h3 => ?_, z46, z47, z48, fun j => ?_, fun j => ?_⟩ (by omega)))))))
    · rw [sI_ro h3, sI_ro h2]
      exact zo k h1 h2 h3
    · rw [sI_ro (by decide), sI_ro (by decide)]
      exact z60 i h1 h2 h3
    · rw [sI_ro (by decide), sI_rd]
      by_cases e : j = l.toNatClampNeg
      · rw [if_pos ⟨rfl, e⟩, if_pos (by omega), zo 65 (by decide) (by decide) (by decide), e]
      · rw [if_neg (fun x => e x.2), z84]
        by_cases e2 : (j : Int) < l.toInt
        · rw [if_pos e2, if_pos (by omega)]
        · rw [if_neg e2, if_neg (by omega)]
    · rw [sI_rd]
      by_cases e : j = l.toNatClampNeg
      · rw [if_pos ⟨rfl, e⟩, if_pos (by omega)]
        show z.1 67 l.toNatClampNeg = _
        rw [zo 67 (by decide) (by decide) (by decide), e]
      · rw [if_neg (fun x => e x.2), sI_ro (by decide), z85]
        by_cases e2 : (j : Int) < l.toInt
        · rw [if_pos e2, if_pos (by omega)]
        · rw [if_neg e2, if_neg (by omega)]
theorem INV_deed {q s : SS} (h : INV q) (f : Fr wD v0 q s) (hD : RD s) : INV s := ⟨RY_wD f (INV_RY h), RC_wD f (INV_RC h), hD, RT_wD f (INV_RT h), RH_wD f (INV_RH h), RS_wD f (INV_RS h), RW_wD f (INV_RW h), RJ_wD f (INV_RJ h)⟩
theorem x_noted {q : SS} (a : Int32) (h0 : 0 ≤ a.toInt) (h4 : a.toInt < 4) : f_X1_noted q a = some (q.1 48 a.toNatClampNeg) := by
  have l0 : (0 : Int32).toInt = 0 := rfl
  have l4 : (4 : Int32).toInt = 4 := rfl
  have v : vin a 4 := ⟨h0, h4⟩
  unfold f_X1_noted
  rw [if_neg (fun g => absurd (Int32.lt_iff_toInt_lt.mp g) (by omega)), if_neg (fun g => absurd (Int32.le_iff_toInt_le.mp g) (by omega)), if_pos v]
theorem op_image {q : SS} (h : INV q) : T (f_X11_image q) (fun r => T (f_X12_image r.2) (fun s => INV s.2 ∧ r.1 = s.1)) := by
  have hY := INV_RY h
  have hD := INV_RD h
  have ek := RY_k hY
  have k0 := RY_k0 hY
  have k12 := RY_k12 hY
  unfold f_X11_image
  refine T_b (x_keep (by rw [RY_p hY]; exact RY_p6 hY) (by rw [ek]; exact k0) (by rw [ek]; exact k12)) (fun r hr => ?_)
  obtain ⟨r2, ro, r5, r6, r7, r49, r50, r51⟩ := hr
  have r60 : r.1 60 = q.1 60 := ro 60 (by decide) (by decide) (by decide) (by decide)
  refine T_rw (x_noted 0 (by decide) (by decide)) (T_some.mpr ?_)
  refine T_mono (m_image (q := r) (by rw [r60]; exact k0) (by rw [r60]; exact k12)) (fun s hs => ?_)
  obtain ⟨s1, s2, so, s60, s46, s47, s48, s86, s84, s85⟩ := hs
  have rk : ∀ k, 60 < k → r.1 k = q.1 k := fun k hk => ro k (by omega) (by omega) (by omega) (by omega)
  refine ⟨INV_deed h ⟨fun k i e => ?_, fun k _ => by rw [s2, r2]⟩ ?_, ?_⟩
  · by_cases k60 : k = 60
    · subst k60
      rw [s60 i (by rintro rfl; exact absurd e (by decide)) (by rintro rfl; exact absurd e (by decide)) (by rintro rfl; exact absurd e (by decide)), r60]
    · rw [so k k60 (by rintro rfl; exact absurd e (by simp [wD])) (by rintro rfl; exact absurd e (by simp [wD])) (by rintro rfl; exact absurd e (by simp [wD])), ro k (by rintro rfl; exact absurd e (by simp [wD])) (by rintro rfl; exact absurd e (by simp [wD])) (by rintro rfl; exact absurd e (by simp [wD])) (by rintro rfl; exact absurd e (by simp [wD]))]
  · have x48 : s.2.1 48 = q.1 48 := by rw [so 48 (by decide) (by decide) (by decide) (by decide), ro 48 (by decide) (by decide) (by decide) (by decide)]
    have x83 : s.2.1 83 = q.1 83 := by rw [so 83 (by decide) (by decide) (by decide) (by decide), rk 83 (by decide)]
    have x47 : s.2.1 47 = r.1 47 := so 47 (by decide) (by decide) (by decide) (by decide)
    have x49 : s.2.1 49 = r.1 49 := so 49 (by decide) (by decide) (by decide) (by decide)
    have x50 : s.2.1 50 = r.1 50 := so 50 (by decide) (by decide) (by decide) (by decide)
    have x51 : s.2.1 51 = r.1 51 := so 51 (by decide) (by decide) (by decide) (by decide)
    obtain ⟨d1, d2, d3, d4, d5, d6, d7, d8, d9, d10, d11, d12, d13, d14⟩ := hD
    unfold RD
    rw [x48, x83, x47, x49, x50, x51, r5, r6, r7, s46, s47, s48, s60 6 (by decide) (by decide) (by decide), s60 1 (by decide) (by decide) (by decide), r60, ek, rk 68 (by decide), RY_hour hY]
    refine ⟨d1, funext fun j => ?_, funext fun j => ?_, funext fun j => ?_, rfl, rfl, rfl, Or.inr rfl, k0, Int.le_refl _, RY_h0 hY, RY_h11 hY, fun t ht => ?_, fun t ht => ?_⟩
    · rw [r49, s86, rk 83 (by decide), rk 86 (by decide), d1, d2]
    · rw [r50, s84, rk 65 (by decide), rk 84 (by decide), r60, d3, ek, RY_holder hY]
    · rw [r51, s85, rk 67 (by decide), rk 85 (by decide), r60, d4, ek, RY_folds hY]
    · rw [s84, r60, if_pos ht, rk 65 (by decide)]
      exact RY_rholder hY t ht
    · rw [s85, r60, if_pos ht, rk 67 (by decide)]
      exact RY_rfolds hY t ht
  · show r.1 48 0 = s.1
    rw [s1, rk 83 (by decide), ro 48 (by decide) (by decide) (by decide) (by decide), RD_notes hD]

/-! ===== odds: the two sides say the same ===== -/
def clp (v : Int32) : Int32 := if 0 ≤ v then (if v ≤ 12 then v else 12) else 0
theorem x_clE (q : SS) (v : Int32) : b_X8_oddsBy_87 q v = some (clp v, q) := by
  have l0 : (0 : Int32).toInt = 0 := rfl
  have l12 : (12 : Int32).toInt = 12 := rfl
  have e : jmax (0 : Int32) (jmin (12 : Int32) v) = clp v := by
    unfold jmax jmin clp
    simp only [Int32.lt_iff_toInt_lt, Int32.le_iff_toInt_le, l0, l12]
    apply Int32.toInt_inj.mp
    by_cases a : 0 ≤ v.toInt
    · by_cases b : v.toInt ≤ 12
      · rw [if_pos a, if_pos b]
        split <;> split <;> omega
      · rw [if_pos a, if_neg b]
        split <;> split <;> omega
    · rw [if_neg a]
      split <;> split <;> omega
  unfold b_X8_oddsBy_87
  rw [e]
theorem m_clE (q : SS) (v : Int32) : b_X12_oddsOf_115 q v = some (clp v, q) := by
  unfold b_X12_oddsOf_115 clp
  by_cases a : 0 ≤ v
  · rw [if_pos a, if_pos a]
    by_cases b : v ≤ 12
    · rw [if_pos b, if_pos b]
    · rw [if_neg b, if_neg b]
  · rw [if_neg a, if_neg a]
/-- a law worked out on either side -/
theorem ev_law {qc x : SS} {cs : Nat → Nat} {a1 a2 a3 a4 a5 a6 : Int32} (hW : RW x) (ht : x.1 60 30 = 1) (h121 : (qc.1 12 4).toInt ≤ 121) (hL : LAw2 qc x cs) (n0 : x.1 79 0 = a1) (n1 : x.1 79 1 = a2) (n2 : x.1 79 2 = a3) (n3 : x.1 79 3 = a4) (n4 : x.1 79 4 = a5) (n5 : x.1 79 5 = a6) : T2 (f_X4_workOut qc a1 a2 a3 a4 a5 a6) (f_X12_gives x 0) (fun r s => r.1 = s.1) := by
  have o61 : (61 : Int32) * 0 = 0 := by decide
  have hm := RW_m hW ht
  have hc := hL.2.1
  unfold f_X4_workOut f_X12_gives
  refine T2_pl (by decide) (T2_nl (T2_pl (by decide) (T2_nl (T2_pl (by decide) (T2_nl (T2_pl (by decide) (T2_nl (T2_pl (by decide) (T2_nl (T2_pl (by decide) (T2_nl (T2_nl ?_))))))))))))
  rw [o61]
  refine T2_nr ?_
  rw [FW_e, FGv_e]
  generalize gy : sI (sI (sI (sI (sI (sI (sI qc 16 _ a1) 16 _ a2) 16 _ a3) 16 _ a4) 16 _ a5) 16 _ a6) 12 5 0 = y
  have fy : Fr wE v0 qc y := by
    rw [← gy]
    exact Fr_sI (Fr_sI (Fr_sI (Fr_sI (Fr_sI (Fr_sI (Fr_sI (Fr_refl qc) rfl) rfl) rfl) rfl) rfl) rfl) rfl
  have hy : CP y [] := ⟨by rw [← gy]; rfl, fun j hj => absurd hj (by show ¬ j < 0; omega)⟩
  have hN : ∀ i, i < 6 → y.1 16 i = x.1 79 i := fun i hi => by
    rw [← gy]
    have : i = 0 ∨ i = 1 ∨ i = 2 ∨ i = 3 ∨ i = 4 ∨ i = 5 := by omega
    rcases this with rfl | rfl | rfl | rfl | rfl | rfl
    · rw [n0]; rfl
    · rw [n1]; rfl
    · rw [n2]; rfl
    · rw [n3]; rfl
    · rw [n4]; rfl
    · rw [n5]; rfl
  exact ev_lines (N := y.1 16) hW ht h121 hL hN (x.1 76 0).toInt.toNat 0 y x FU FU 0 0 0 (by omega) fy hy rfl ⟨rfl, fun _ _ => rfl⟩ (by rw [hL.1]; rfl) (by unfold sLo; rw [if_pos rfl]; rfl) rfl (by rw [hL.1, fu_s]; omega) (by rw [fu_s]; omega)
/-- odds of one slipping: the class thinks of y, the model of z -/
def OK2 (y z : SS) : Prop := y.1 3 = z.1 61 ∧ y.1 4 = z.1 62 ∧ y.1 9 = z.1 67 ∧ y.1 11 0 = z.1 68 1 ∧ y.1 1 1 = z.1 60 1 ∧ y.1 1 2 = z.1 60 6 ∧ (0 ≤ (z.1 60 1).toInt ∧ (z.1 60 1).toInt ≤ 6) ∧ (0 ≤ (z.1 60 6).toInt ∧ (z.1 60 6).toInt ≤ 12) ∧ (∀ t : Nat, (t : Int) < (z.1 60 6).toInt → 0 ≤ (z.1 67 t).toInt ∧ (z.1 67 t).toInt ≤ 4) ∧ (∀ t : Nat, (t : Int) < (z.1 60 6).toInt → y.1 25 t = z.1 81 t ∧ 0 ≤ (z.1 81 t).toInt ∧ (z.1 81 t).toInt < (z.1 60 1).toInt) ∧ RW z ∧ ((z.1 60 30 = 0 ∧ (y.1 12 4).toInt ≤ 0) ∨ (z.1 60 30 = 1 ∧ 0 < (y.1 12 4).toInt ∧ (y.1 12 4).toInt ≤ 121 ∧ ∃ cs, LAw2 y z cs))
theorem LAw2_c {y z x : SS} {cs : Nat → Nat} (h : LAw2 y z cs) (e74 : x.1 74 = z.1 74) (e75 : x.1 75 = z.1 75) (e76 : x.1 76 = z.1 76) (e77 : x.1 77 = z.1 77) (e78 : x.1 78 = z.1 78) : LAw2 y x cs := by
  unfold LAw2 sLo at h ⊢
  rw [e74, e75, e76, e77, e78]
  exact h
/-- the odds by which it is slipped, with the hour told -/
theorem ev_by {y z : SS} {t p h5 hd : Int32} (O : OK2 y z) (ht : 0 ≤ t.toInt ∧ t.toInt < (z.1 60 6).toInt) (hp : 0 ≤ p.toInt ∧ p.toInt < (z.1 60 1).toInt) (hh : z.1 60 32 = h5) (hm : f_X12_manyOf z p = some hd) : T2 (f_X8_oddsBy y (y.1 25 t.toNatClampNeg) p hd (y.1 9 t.toNatClampNeg) h5) (f_X12_oddsOf z t p) (fun r s => r.1 = s.1) := by
  obtain ⟨e3, e4, e9, e11, eP, eK, hP, hK, r67, r81, hW, hL⟩ := O
  have l4 : (4 : Int32).toInt = 4 := rfl
  have l0 : (0 : Int32).toInt = 0 := rfl
  have tn : (t.toNatClampNeg : Int) = t.toInt := by
    show ((t.toInt.toNat : Nat) : Int) = _
    omega
  have b81 := r81 t.toNatClampNeg (by omega)
  have b67 := r67 t.toNatClampNeg (by omega)
  have y6 : (y.1 1 1).toInt ≤ 6 := by rw [eP]; omega
  unfold f_X8_oddsBy f_X12_oddsOf
  refine T2_le (x_canGive y6 _ _) (T2_re (m_maySlip (a := t) (b := p) (by omega) (by omega)) ?_)
  rw [b81.1, e9, e4, eP]
  have l67 : z.1 67 t.toNatClampNeg = 4 ↔ ¬ (z.1 67 t.toNatClampNeg).toInt < 4 := ⟨fun e => by rw [e, l4]; omega, fun e => Int32.toInt_inj.mp (by rw [l4]; omega)⟩
  by_cases c : z.1 67 t.toNatClampNeg ≠ 4 ∧ z.1 81 t.toNatClampNeg ≠ p ∧ z.1 62 p.toNatClampNeg = 0
  · rw [show bI (z.1 81 t.toNatClampNeg ≠ p ∧ 0 ≤ p.toInt ∧ p.toInt < (z.1 60 1).toInt ∧ z.1 62 p.toNatClampNeg = 0) = 1 from bI_1.mpr ⟨c.2.1, hp.1, hp.2, c.2.2⟩, show bI (z.1 67 t.toNatClampNeg ≠ 4 ∧ z.1 81 t.toNatClampNeg ≠ p ∧ z.1 62 p.toNatClampNeg = 0) = 1 from bI_1.mpr c]
    have lt4 : (z.1 67 t.toNatClampNeg).toInt < 4 := by
      have := b67.2
      by_cases g : (z.1 67 t.toNatClampNeg).toInt < 4
      · exact g
      · exact absurd (l67.mpr g) c.1
    refine T2_ql (by decide) (T2_qr (by decide) (T2_pl (Int32.lt_iff_toInt_lt.mpr (by omega)) (T2_pr (by omega) (T2_pr (by decide) (T2_nr ?_)))))
    have v1 : (1 : Int32).toNatClampNeg = 1 := rfl
    rw [v1]
    have g0 : ∀ u : Int32, 0 ≤ u.toInt → u.toInt < (z.1 60 1).toInt → f_X10_get y 0 u = some (z.1 61 u.toNatClampNeg) := fun u h0 h1 => by
      rw [x_get0 y6, eP, if_pos ⟨h0, h1⟩, e3]
    refine T2_le (g0 p hp.1 hp.2) (T2_le (x_get80 y) (T2_nl ?_))
    rw [e11]
    rcases hL with ⟨t0, t1⟩ | ⟨t0, t1, t2, cs, hL⟩
    · have it : f_X4_isTold y = some 0 := by
        unfold f_X4_isTold
        rw [if_pos (Int32.le_iff_toInt_le.mpr (by omega))]
      refine T2_le it (T2_pl rfl (T2_pr t0 ?_))
      rw [x_clE, m_clE]
      exact T2_s rfl
    · have it : f_X4_isTold y = some 1 := by
        unfold f_X4_isTold
        rw [if_neg (fun e => by have := Int32.le_iff_toInt_le.mp e; omega)]
      refine T2_le it (T2_ql (by decide) (T2_qr (by rw [t0]; decide) (T2_le (g0 _ b81.2.1 b81.2.2) ?_)))
      refine T2_pr (by omega) (T2_pr (by decide) (T2_nr (T2_pr (by omega) (T2_pr ?_ (T2_pr (by decide) (T2_nr ?_))))))
      · exact ⟨b81.2.1, by show (z.1 81 t.toNatClampNeg).toInt < 6; omega⟩
      have c0 : (0 : Int32).toNatClampNeg = 0 := rfl
      have c2 : (2 : Int32).toNatClampNeg = 2 := rfl
      have c3 : (3 : Int32).toNatClampNeg = 3 := rfl
      have c4 : (4 : Int32).toNatClampNeg = 4 := rfl
      have c5 : (5 : Int32).toNatClampNeg = 5 := rfl
      rw [c0, c2, c3, c4, c5]
      have hm2 : ∀ x : SS, x.1 60 = z.1 60 → x.1 81 = z.1 81 → f_X12_manyOf x p = some hd := fun x h1 h2 => by
        rw [m_manyOf (by rw [h1]; omega) (by rw [h1]; omega), h1, h2, ← m_manyOf (by omega) (by omega)]
        exact hm
      refine T2_re (hm2 _ (by rw [sI_ro (by decide), sI_ro (by decide)]) (by rw [sI_ro (by decide), sI_ro (by decide)])) (T2_pr (by decide) (T2_nr (T2_pr (by omega) (T2_pr (by decide) (T2_nr (T2_pr (by decide) (T2_nr (T2_pr (by decide) (T2_pr (by decide) (T2_nr ?_))))))))))
      generalize gx : sI _ 79 5 _ = x
      have x79 : x.1 79 0 = z.1 61 p.toNatClampNeg ∧ x.1 79 1 = z.1 61 (z.1 81 t.toNatClampNeg).toNatClampNeg ∧ x.1 79 2 = hd ∧ x.1 79 3 = z.1 67 t.toNatClampNeg ∧ x.1 79 4 = z.1 60 32 ∧ x.1 79 5 = z.1 68 1 := by
        rw [← gx]
        exact ⟨rfl, rfl, rfl, rfl, rfl, rfl⟩
      have xo : ∀ k, k ≠ 79 → x.1 k = z.1 k := fun k hk => by
        rw [← gx, sI_ro hk, sI_ro hk, sI_ro hk, sI_ro hk, sI_ro hk, sI_ro hk]
      have x60 := xo 60 (by decide)
      have hWx : RW x := RW_fr (xo 74 (by decide)) (xo 75 (by decide)) (xo 77 (by decide)) (xo 78 (by decide)) (by rw [x60]) (by rw [xo 76 (by decide)]) hW
      have E := ev_law (qc := y) hWx (by rw [x60]; exact t0) t2 (LAw2_c hL (xo 74 (by decide)) (xo 75 (by decide)) (xo 76 (by decide)) (xo 77 (by decide)) (xo 78 (by decide))) x79.1 x79.2.1 x79.2.2.1 x79.2.2.2.1 (x79.2.2.2.2.1.trans hh) x79.2.2.2.2.2
      refine T2_bb E (fun r s hrs => ?_)
      rw [x_clE, m_clE, hrs]
      exact T2_s rfl
  · rw [show bI (z.1 67 t.toNatClampNeg ≠ 4 ∧ z.1 81 t.toNatClampNeg ≠ p ∧ z.1 62 p.toNatClampNeg = 0) = 0 from bI_0.mpr c]
    by_cases c2 : z.1 81 t.toNatClampNeg ≠ p ∧ z.1 62 p.toNatClampNeg = 0
    · rw [show bI (z.1 81 t.toNatClampNeg ≠ p ∧ 0 ≤ p.toInt ∧ p.toInt < (z.1 60 1).toInt ∧ z.1 62 p.toNatClampNeg = 0) = 1 from bI_1.mpr ⟨c2.1, hp.1, hp.2, c2.2⟩]
      have e : z.1 67 t.toNatClampNeg = 4 := by
        by_cases g : z.1 67 t.toNatClampNeg = 4
        · exact g
        · exact absurd ⟨g, c2⟩ c
      exact T2_ql (by decide) (T2_ql (by rw [e]; decide) (T2_pr rfl (T2_s rfl)))
    · rw [show bI (z.1 81 t.toNatClampNeg ≠ p ∧ 0 ≤ p.toInt ∧ p.toInt < (z.1 60 1).toInt ∧ z.1 62 p.toNatClampNeg = 0) = 0 from bI_0.mpr (fun x => c2 ⟨x.1, x.2.2.2⟩)]
      exact T2_pl rfl (T2_pr rfl (T2_s rfl))
/-- the two thoughts, as all stands now -/
theorem OK2_now {q y y0 z0 : SS} (h : INV q) (w : RLW q) (f : MC q y) (n : NWX q y0) (m : NWM y z0) : OK2 y0 z0 ∧ z0.1 60 6 = q.1 60 6 ∧ z0.1 60 1 = q.1 60 1 ∧ z0.1 60 32 = q.1 68 0 ∧ y0.1 10 0 = q.1 68 0 := by
  have hY := INV_RY h
  have yq : ∀ k : Nat, 60 ≤ k → y.1 k = q.1 k := fun k hk => f.1 k hk
  have mz : ∀ k : Nat, k ≠ 81 → k ≠ 60 → 60 ≤ k → z0.1 k = q.1 k := fun k h1 h2 h3 => (m.2.1 k h1 h2).trans (yq k h3)
  have y60 := yq 60 (by decide)
  have z6 : z0.1 60 6 = q.1 60 6 := by rw [m.2.2.1 6 (by decide), y60]
  have z1 : z0.1 60 1 = q.1 60 1 := by rw [m.2.2.1 1 (by decide), y60]
  have z30 : z0.1 60 30 = q.1 60 30 := by rw [m.2.2.1 30 (by decide), y60]
  have z32 : z0.1 60 32 = q.1 68 0 := by rw [m.2.2.2.1, yq 68 (by decide)]
  have e61 := mz 61 (by decide) (by decide) (by decide)
  have e62 := mz 62 (by decide) (by decide) (by decide)
  have e67 := mz 67 (by decide) (by decide) (by decide)
  have e68 := mz 68 (by decide) (by decide) (by decide)
  have e74 := mz 74 (by decide) (by decide) (by decide)
  have e75 := mz 75 (by decide) (by decide) (by decide)
  have e76 := mz 76 (by decide) (by decide) (by decide)
  have e77 := mz 77 (by decide) (by decide) (by decide)
  have e78 := mz 78 (by decide) (by decide) (by decide)
  have yo : ∀ k : Nat, k ≠ 25 → y0.1 k = q.1 k := n.2.1
  refine ⟨⟨?_, ?_, ?_, ?_, ?_, ?_, ?_, ?_, ?_, ?_, ?_, ?_⟩, z6, z1, z32, ?_⟩
  · rw [yo 3 (by decide), e61]; exact RY_wary hY
  · rw [yo 4 (by decide), e62]; exact RY_child hY
  · rw [yo 9 (by decide), e67]; exact RY_folds hY
  · rw [yo 11 (by decide), e68]; exact RY_seen hY
  · rw [yo 1 (by decide), z1]; exact RY_p hY
  · rw [yo 1 (by decide), z6]; exact RY_k hY
  · rw [z1]; exact ⟨RY_p0 hY, RY_p6 hY⟩
  · rw [z6]; exact ⟨RY_k0 hY, RY_k12 hY⟩
  · intro t ht
    rw [e67]
    rw [z6] at ht
    exact RY_rfolds hY t ht
  · intro t ht
    rw [z6] at ht
    have a : z0.1 81 t = q.1 65 t := by
      rw [m.2.2.2.2 t, y60, if_pos ht, yq 65 (by decide)]
    rw [a, z1]
    exact ⟨n.2.2 t ht, RY_rholder hY t ht⟩
  · exact RW_fr e74 e75 e77 e78 z30 (by rw [e76]) (INV_RW h)
  · rcases w with ⟨h1, h2⟩ | ⟨h1, h2, h3, cs, L⟩
    · exact Or.inl ⟨z30.trans h1, by rw [yo 12 (by decide)]; exact h2⟩
    · refine Or.inr ⟨z30.trans h1, by rw [yo 12 (by decide)]; exact h2, by rw [yo 12 (by decide)]; exact h3, cs, ?_⟩
      have L2 : LAw2 y0 q cs := by
        unfold LAw LAw2 at L
        unfold LAw2
        rw [yo 12 (by decide), yo 13 (by decide), yo 14 (by decide)]
        exact L
      exact LAw2_c L2 e74 e75 e76 e77 e78
  · rw [yo 10 (by decide)]; exact RY_hour hY
/-- odds of a slipping that may be, in two thoughts -/
theorem ev_of {y z : SS} {t p h5 hd : Int32} (O : OK2 y z) (ht : 0 ≤ t.toInt ∧ t.toInt < (z.1 60 6).toInt) (hp : 0 ≤ p.toInt ∧ p.toInt < (z.1 60 1).toInt) (hh : z.1 60 32 = h5) (hy : y.1 10 0 = h5) (hx : f_X8_heldBy y p = some hd) (hm : f_X12_manyOf z p = some hd) : T2 (f_X8_oddsOf y t p) (f_X12_oddsOf z t p) (fun r s => r.1 = s.1) := by
  have E := ev_by O ht hp hh hm
  obtain ⟨e3, e4, e9, e11, eP, eK, hP, hK, r67, r81, _⟩ := O
  have l4 : (4 : Int32).toInt = 4 := rfl
  have tn : (t.toNatClampNeg : Int) = t.toInt := by
    show ((t.toInt.toNat : Nat) : Int) = _
    omega
  have b81 := r81 t.toNatClampNeg (by omega)
  have b67 := r67 t.toNatClampNeg (by omega)
  have k12 : (y.1 1 2).toInt ≤ 12 := by rw [eK]; omega
  unfold f_X8_oddsOf
  refine T2_le (x_canSlip (by rw [eP]; omega) k12 t p) ?_
  rw [eK, eP, e9, e4, b81.1]
  by_cases c : 0 ≤ t.toInt ∧ t.toInt < (z.1 60 6).toInt ∧ (z.1 67 t.toNatClampNeg).toInt < 4 ∧ z.1 81 t.toNatClampNeg ≠ p ∧ 0 ≤ p.toInt ∧ p.toInt < (z.1 60 1).toInt ∧ z.1 62 p.toNatClampNeg = 0
  · rw [show bI (0 ≤ t.toInt ∧ t.toInt < (z.1 60 6).toInt ∧ (z.1 67 t.toNatClampNeg).toInt < 4 ∧ z.1 81 t.toNatClampNeg ≠ p ∧ 0 ≤ p.toInt ∧ p.toInt < (z.1 60 1).toInt ∧ z.1 62 p.toNatClampNeg = 0) = 1 from bI_1.mpr c]
    refine T2_ql (by decide) (T2_le (x_holderOf k12 t) (T2_le hx (T2_le (x_get6 k12 t) (T2_le (x_hourNow y) ?_))))
    rw [eK, if_pos ht, if_pos ht, hy]
    obtain ⟨r, s, hr, hs, e⟩ := E
    rw [hr]
    exact ⟨_, s, rfl, hs, e⟩
  · rw [show bI (0 ≤ t.toInt ∧ t.toInt < (z.1 60 6).toInt ∧ (z.1 67 t.toNatClampNeg).toInt < 4 ∧ z.1 81 t.toNatClampNeg ≠ p ∧ 0 ≤ p.toInt ∧ p.toInt < (z.1 60 1).toInt ∧ z.1 62 p.toNatClampNeg = 0) = 0 from bI_0.mpr c]
    refine T2_pl rfl ?_
    unfold f_X12_oddsOf
    refine T2_re (m_maySlip (a := t) (b := p) (by omega) (by omega)) ?_
    have c' : ¬ (z.1 67 t.toNatClampNeg ≠ 4 ∧ z.1 81 t.toNatClampNeg ≠ p ∧ z.1 62 p.toNatClampNeg = 0) := fun x => c ⟨ht.1, ht.2, by
      have := b67.2
      by_cases g : (z.1 67 t.toNatClampNeg).toInt < 4
      · exact g
      · exact absurd (Int32.toInt_inj.mp (by rw [l4]; omega)) x.1, x.2.1, hp.1, hp.2, x.2.2⟩
    rw [show bI (z.1 67 t.toNatClampNeg ≠ 4 ∧ z.1 81 t.toNatClampNeg ≠ p ∧ z.1 62 p.toNatClampNeg = 0) = 0 from bI_0.mpr c']
    exact T2_pr rfl (T2_s rfl)
theorem sim_odds {q y : SS} (h : INV q) (w : RLW q) (f : MC q y) (a : Int32) : T2 (f_X11_odds q a) (f_X12_odds y a) (fun r s => r.1 = s.1) := by
  have hY := INV_RY h
  have y60 : y.1 60 = q.1 60 := f.1 60 (by decide)
  have y65 : y.1 65 = q.1 65 := f.1 65 (by decide)
  unfold f_X11_odds f_X12_odds
  refine T2_le (x_isSlipping q a) (T2_re (m_areSlip (by rw [y60]; exact RY_p0 hY) (by rw [y60]; exact RY_k0 hY) a) ?_)
  rw [RY_p hY, RY_k hY, y60]
  by_cases c : 0 ≤ a.toInt ∧ a.toInt / 8 < (q.1 60 6).toInt ∧ a.toInt % 8 < (q.1 60 1).toInt
  · rw [show bI (0 ≤ a.toInt ∧ a.toInt / 8 < (q.1 60 6).toInt ∧ a.toInt % 8 < (q.1 60 1).toInt) = 1 from bI_1.mpr c]
    refine T2_ql (by decide) (T2_qr (by decide) (T2_l (x_now hY) (fun y0 hn => T2_r (m_layNow (by rw [y60]; exact RY_k0 hY) (by rw [y60]; exact RY_k12 hY)) (fun z0 hm => ?_))))
    obtain ⟨O, z6, z1, z32, y10⟩ := OK2_now h w f hn hm
    rw [shr_div c.1, and_rem c.1]
    have d8 := div8 c.1
    have r8 := rem8 c.1
    have hx := nx_heldBy hY hn (jrem a 8)
    have hmo : f_X12_manyOf z0 (jrem a 8) = some (Int32.ofNat (cH q (jrem a 8))) := by
      have eK : z0.1 60 6 = q.1 60 6 := z6
      rw [m_manyOf (by rw [eK]; exact RY_k0 hY) (by rw [eK]; exact RY_k12 hY), eK]
      unfold cH
      rw [cntN_c (fun t ht => by rw [hm.2.2.2.2 t, y60, if_pos (show (t : Int) < (q.1 60 6).toInt by omega), y65])]
    exact T2_bb (ev_of O (t := a / 8) (p := jrem a 8) (by rw [z6]; omega) (by rw [z1]; omega) z32 y10 hx hmo) (fun r s e => T2_s e)
  · rw [show bI (0 ≤ a.toInt ∧ a.toInt / 8 < (q.1 60 6).toInt ∧ a.toInt % 8 < (q.1 60 1).toInt) = 0 from bI_0.mpr c]
    exact T2_pl rfl (T2_pr rfl (T2_s rfl))

/-! ===== likely, all ===== -/
theorem jushr_eq {a n : Int32} (h : 0 ≤ a.toInt) (n0 : 0 ≤ n.toInt) (n12 : n.toInt ≤ 12) : jushr a n = jshr a n := by
  have msb : a.toBitVec.msb = false := by
    rw [BitVec.msb_eq_false_iff_two_mul_lt]
    have e := nnN h
    have := Int32.toInt_lt a
    omega
  obtain ⟨m, hm, rfl⟩ := ofN (n := 13) n0 (by omega)
  have c : m = 0 ∨ m = 1 ∨ m = 2 ∨ m = 3 ∨ m = 4 ∨ m = 5 ∨ m = 6 ∨ m = 7 ∨ m = 8 ∨ m = 9 ∨ m = 10 ∨ m = 11 ∨ m = 12 := by omega
  apply Int32.toBitVec_inj.mp
  rcases c with rfl | rfl | rfl | rfl | rfl | rfl | rfl | rfl | rfl | rfl | rfl | rfl | rfl
  · have e : (a >>> ((Int32.ofNat 0) &&& 31)).toBitVec = a.toBitVec.sshiftRight 0 := by
      rw [Int32.toBitVec_shiftRight, BitVec.sshiftRight_eq']
      rfl
    show _ = (a >>> ((Int32.ofNat 0) &&& 31)).toBitVec
    rw [e, BitVec.sshiftRight_eq_of_msb_false msb]
    rfl
  · have e : (a >>> ((Int32.ofNat 1) &&& 31)).toBitVec = a.toBitVec.sshiftRight 1 := by
      rw [Int32.toBitVec_shiftRight, BitVec.sshiftRight_eq']
      rfl
    show _ = (a >>> ((Int32.ofNat 1) &&& 31)).toBitVec
    rw [e, BitVec.sshiftRight_eq_of_msb_false msb]
    rfl
  · have e : (a >>> ((Int32.ofNat 2) &&& 31)).toBitVec = a.toBitVec.sshiftRight 2 := by
      rw [Int32.toBitVec_shiftRight, BitVec.sshiftRight_eq']
      rfl
    show _ = (a >>> ((Int32.ofNat 2) &&& 31)).toBitVec
    rw [e, BitVec.sshiftRight_eq_of_msb_false msb]
    rfl
  · have e : (a >>> ((Int32.ofNat 3) &&& 31)).toBitVec = a.toBitVec.sshiftRight 3 := by
      rw [Int32.toBitVec_shiftRight, BitVec.sshiftRight_eq']
      rfl
    show _ = (a >>> ((Int32.ofNat 3) &&& 31)).toBitVec
    rw [e, BitVec.sshiftRight_eq_of_msb_false msb]
    rfl
  · have e : (a >>> ((Int32.ofNat 4) &&& 31)).toBitVec = a.toBitVec.sshiftRight 4 := by
      rw [Int32.toBitVec_shiftRight, BitVec.sshiftRight_eq']
      rfl
    show _ = (a >>> ((Int32.ofNat 4) &&& 31)).toBitVec
    rw [e, BitVec.sshiftRight_eq_of_msb_false msb]
    rfl
  · have e : (a >>> ((Int32.ofNat 5) &&& 31)).toBitVec = a.toBitVec.sshiftRight 5 := by
      rw [Int32.toBitVec_shiftRight, BitVec.sshiftRight_eq']
      rfl
    show _ = (a >>> ((Int32.ofNat 5) &&& 31)).toBitVec
    rw [e, BitVec.sshiftRight_eq_of_msb_false msb]
    rfl
  · have e : (a >>> ((Int32.ofNat 6) &&& 31)).toBitVec = a.toBitVec.sshiftRight 6 := by
      rw [Int32.toBitVec_shiftRight, BitVec.sshiftRight_eq']
      rfl
    show _ = (a >>> ((Int32.ofNat 6) &&& 31)).toBitVec
    rw [e, BitVec.sshiftRight_eq_of_msb_false msb]
    rfl
  · have e : (a >>> ((Int32.ofNat 7) &&& 31)).toBitVec = a.toBitVec.sshiftRight 7 := by
      rw [Int32.toBitVec_shiftRight, BitVec.sshiftRight_eq']
      rfl
    show _ = (a >>> ((Int32.ofNat 7) &&& 31)).toBitVec
    rw [e, BitVec.sshiftRight_eq_of_msb_false msb]
    rfl
  · have e : (a >>> ((Int32.ofNat 8) &&& 31)).toBitVec = a.toBitVec.sshiftRight 8 := by
      rw [Int32.toBitVec_shiftRight, BitVec.sshiftRight_eq']
      rfl
    show _ = (a >>> ((Int32.ofNat 8) &&& 31)).toBitVec
    rw [e, BitVec.sshiftRight_eq_of_msb_false msb]
    rfl
  · have e : (a >>> ((Int32.ofNat 9) &&& 31)).toBitVec = a.toBitVec.sshiftRight 9 := by
      rw [Int32.toBitVec_shiftRight, BitVec.sshiftRight_eq']
      rfl
    show _ = (a >>> ((Int32.ofNat 9) &&& 31)).toBitVec
    rw [e, BitVec.sshiftRight_eq_of_msb_false msb]
    rfl
  · have e : (a >>> ((Int32.ofNat 10) &&& 31)).toBitVec = a.toBitVec.sshiftRight 10 := by
      rw [Int32.toBitVec_shiftRight, BitVec.sshiftRight_eq']
      rfl
    show _ = (a >>> ((Int32.ofNat 10) &&& 31)).toBitVec
    rw [e, BitVec.sshiftRight_eq_of_msb_false msb]
    rfl
  · have e : (a >>> ((Int32.ofNat 11) &&& 31)).toBitVec = a.toBitVec.sshiftRight 11 := by
      rw [Int32.toBitVec_shiftRight, BitVec.sshiftRight_eq']
      rfl
    show _ = (a >>> ((Int32.ofNat 11) &&& 31)).toBitVec
    rw [e, BitVec.sshiftRight_eq_of_msb_false msb]
    rfl
  · have e : (a >>> ((Int32.ofNat 12) &&& 31)).toBitVec = a.toBitVec.sshiftRight 12 := by
      rw [Int32.toBitVec_shiftRight, BitVec.sshiftRight_eq']
      rfl
    show _ = (a >>> ((Int32.ofNat 12) &&& 31)).toBitVec
    rw [e, BitVec.sshiftRight_eq_of_msb_false msb]
    rfl
/-- between the steps of a weighing -/
def WL2 (q : SS) (a : Int32) (L : Int) (y z : SS) : Prop := TH y z ∧ (y.1 37 3).toInt = L ∧ (∀ i : Nat, (i : Int) < L → y.1 38 i = (q.2 91 (60 * a.toNatClampNeg + i)).toInt32) ∧ z.2 91 = q.2 91 ∧ z.1 60 1 = q.1 60 1 ∧ z.1 60 6 = q.1 60 6
/-- the parts of a fraction: above at most below, below a power of 12 -/
def FB (u v : Int64) (i : Int) : Prop := 0 ≤ u.toInt ∧ u.toInt ≤ v.toInt ∧ 1 ≤ v.toInt ∧ v.toInt ≤ 12 ^ i.toNat
theorem p12 {n : Nat} (h : n ≤ 12) : (12 : Int) ^ n ≤ 8916100448256 := by
  have c : n = 0 ∨ n = 1 ∨ n = 2 ∨ n = 3 ∨ n = 4 ∨ n = 5 ∨ n = 6 ∨ n = 7 ∨ n = 8 ∨ n = 9 ∨ n = 10 ∨ n = 11 ∨ n = 12 := by omega
  rcases c with rfl | rfl | rfl | rfl | rfl | rfl | rfl | rfl | rfl | rfl | rfl | rfl | rfl <;> decide
theorem FB_step {u v x : Int64} {i : Int} (h : FB u v i) (hi : 0 ≤ i ∧ i < 12) (hx : 0 ≤ x.toInt ∧ x.toInt ≤ 12) : FB (u * x) (v * 12) (i + 1) := by
  obtain ⟨h1, h2, h3, h4⟩ := h
  have l12 : (12 : Int64).toInt = 12 := rfl
  have p := p12 (n := i.toNat) (by omega)
  have ux : 0 ≤ u.toInt * x.toInt := Int.mul_nonneg h1 hx.1
  have ux2 : u.toInt * x.toInt ≤ u.toInt * 12 := Int.mul_le_mul_of_nonneg_left hx.2 h1
  have e1 : (u * x).toInt = u.toInt * x.toInt := lmul (by omega) (by omega)
  have e2 : (v * 12).toInt = v.toInt * 12 := by rw [lmul (by rw [l12]; omega) (by rw [l12]; omega), l12]
  have e3 : (12 : Int) ^ (i + 1).toNat = 12 ^ i.toNat * 12 := by
    rw [show (i + 1).toNat = i.toNat + 1 by omega, Int.pow_succ]
  unfold FB
  rw [e1, e2, e3]
  exact ⟨ux, by omega, by omega, by omega⟩
theorem FB_zero {u v : Int64} {i : Int} (h : FB u v i) : FB 0 v i := by
  obtain ⟨h1, h2, h3, h4⟩ := h
  have l0 : (0 : Int64).toInt = 0 := rfl
  exact ⟨by rw [l0]; omega, by rw [l0]; omega, h3, h4⟩
theorem FB_keep {u v : Int64} {i : Int} (h : FB u v i) (hi : 0 ≤ i) : FB u v (i + 1) := by
  obtain ⟨h1, h2, h3, h4⟩ := h
  refine ⟨h1, h2, h3, Int.le_trans h4 ?_⟩
  rw [show (i + 1).toNat = i.toNat + 1 by omega, Int.pow_succ]
  have : (0 : Int) ≤ 12 ^ i.toNat := by
    have := Int.le_trans (by omega : (1 : Int) ≤ v.toInt) h4
    omega
  omega
theorem TH_L {y z : SS} {i : Nat} {x : Int64} (H : TH y z) : TH (sL y 37 i x) z := ⟨H.1, H.2.1, INV_sLX H.2.2.1 rfl, H.2.2.2⟩
/-- one slipping weighed -/
theorem x_stepE {q y z : SS} {a l f t p : Int32} {L : Int} (W : WL2 q a L y z) (ht : 0 ≤ t.toInt ∧ t.toInt < (z.1 60 6).toInt) (hp : 0 ≤ p.toInt ∧ p.toInt < (z.1 60 1).toInt) (hf : f = 0 ∨ f = 1) (tA : ∀ u : SS, u.1 37 = y.1 37 → u.1 38 = y.1 38 → f_X2_ticketAt u l = some t ∧ f_X2_toAt u l = some p) : T2 (f_X2_weighStep y l f) (f_X12_oddsOf z t p) (fun u s => ∃ o : Int32, s.1 = o ∧ (0 ≤ o.toInt ∧ o.toInt ≤ 12) ∧ u.2 37 6 = y.2 37 6 * (if f = 0 then ((12 : Int32) - o).toInt64 else o.toInt64) ∧ u.2 37 7 = y.2 37 7 * 12 ∧ WL2 q a L u (if f = 0 then s.2 else sI s.2 81 t.toNatClampNeg p)) := by
  obtain ⟨H, w3, w38, w91, z1, z6⟩ := W
  have t1 := tA y rfl rfl
  unfold f_X2_weighStep b_X2_weighStep_37
  obtain ⟨r, s, hr, hs, o1, o2, fE, f9⟩ := TH_odds H ht hp
  have H2 := TH_E H fE f9
  have r37 : r.2.1 37 = y.1 37 := Fr_r fE (fun _ => rfl)
  have r38 : r.2.1 38 = y.1 38 := Fr_r fE (fun _ => rfl)
  have rL : r.2.2 = y.2 := funext fun k => fE.2 k rfl
  have s60 : s.2.1 60 = z.1 60 := f9.2 60 (by decide) (by decide)
  have s91 : s.2.2 91 = q.2 91 := by rw [f9.1]; exact w91
  have k2 := TH_K H2
  have ht2 : 0 ≤ t.toInt ∧ t.toInt < (s.2.1 60 6).toInt := by rw [s60]; exact ht
  have hp2 : 0 ≤ p.toInt ∧ p.toInt < (s.2.1 60 1).toInt := by rw [s60]; exact hp
  refine T2_le t1.1 (T2_le t1.2 (T2_le hr ?_))
  rw [hs]
  rcases hf with rfl | rfl
  · refine T2_pl rfl (T2_nl (T2_nl (T2_pl rfl (T2_s ⟨r.1, o1.symm, o2, ?_, ?_, ?_⟩))))
    · show r.2.2 37 6 * ((12 : Int32) - r.1).toInt64 = y.2 37 6 * (if (0 : Int32) = 0 then ((12 : Int32) - r.1).toInt64 else r.1.toInt64)
      rw [rL, if_pos rfl]
    · show r.2.2 37 7 * 12 = y.2 37 7 * 12
      rw [rL]
    · rw [if_pos rfl]
      exact ⟨TH_L (TH_L H2), by show (r.2.1 37 3).toInt = L; rw [r37]; exact w3, by show ∀ i : Nat, (i : Int) < L → r.2.1 38 i = _; rw [r38]; exact w38, s91, by rw [s60]; exact z1, by rw [s60]; exact z6⟩
  · have t2 := tA (sL (sL r.2 37 6 (r.2.2 37 6 * r.1.toInt64)) 37 7 ((sL r.2 37 6 (r.2.2 37 6 * r.1.toInt64)).2 37 7 * 12)) r37 r38
    have hg := give_E (q := sL (sL r.2 37 6 (r.2.2 37 6 * r.1.toInt64)) 37 7 ((sL r.2 37 6 (r.2.2 37 6 * r.1.toInt64)).2 37 7 * 12)) (t := t) (p := p) (by show (r.2.1 1 2).toInt ≤ 12; rw [k2.1.1]; omega) ht2.1 (by show _ < (r.2.1 1 2).toInt; rw [k2.1.1]; exact ht2.2)
    refine T2_ql (by decide) (T2_nl (T2_nl (T2_ql (by decide) (T2_le t2.1 (T2_le t2.2 (T2_le hg (T2_s ⟨r.1, o1.symm, o2, ?_, ?_, ?_⟩)))))))
    · show r.2.2 37 6 * r.1.toInt64 = y.2 37 6 * (if (1 : Int32) = 0 then ((12 : Int32) - r.1).toInt64 else r.1.toInt64)
      rw [rL, if_neg (by decide)]
    · show r.2.2 37 7 * 12 = y.2 37 7 * 12
      rw [rL]
    · rw [if_neg (by decide)]
      have H3 := TH_give (t := t) (p := p) (TH_L (i := 7) (x := (sL r.2 37 6 (r.2.2 37 6 * r.1.toInt64)).2 37 7 * 12) (TH_L (i := 6) (x := r.2.2 37 6 * r.1.toInt64) H2)) hp2
      exact ⟨H3, by show (r.2.1 37 3).toInt = L; rw [r37]; exact w3, by show ∀ i : Nat, (i : Int) < L → r.2.1 38 i = _; rw [r38]; exact w38, s91, by show s.2.1 60 1 = _; rw [s60]; exact z1, by show s.2.1 60 6 = _; rw [s60]; exact z6⟩

/-! ===== the model's drawn answers ===== -/
theorem jushr_nn {x y : Int32} {k : Nat} (hk : (y.toUInt32 &&& Int32.toUInt32 31).toNat % 32 = k + 1) : 0 ≤ (jushr x y).toInt := by
  have e : (jushr x y).toBitVec.toNat = x.toUInt32.toNat >>> (k + 1) := by
    show (x.toUInt32 >>> (y.toUInt32 &&& Int32.toUInt32 31)).toNat = _
    rw [UInt32.toNat_shiftRight, hk]
  rw [← Int32.toInt_toBitVec, BitVec.toInt_eq_toNat_cond, e, Nat.shiftRight_eq_div_pow]
  have h1 : x.toUInt32.toNat < 4294967296 := x.toUInt32.toNat_lt
  have h3 : 2 ≤ 2 ^ (k + 1) := by
    have := Nat.one_le_two_pow (n := k)
    rw [Nat.pow_succ]
    omega
  have h2 : x.toUInt32.toNat / 2 ^ (k + 1) ≤ x.toUInt32.toNat / 2 := Nat.div_le_div_left h3 (by decide)
  generalize x.toUInt32.toNat / 2 ^ (k + 1) = w at h2 ⊢
  rw [if_pos (by omega)]
  omega
theorem jremB {x y : Int32} (hx : 0 ≤ x.toInt) (hy : 0 < y.toInt) : 0 ≤ (jrem x y).toInt ∧ (jrem x y).toInt < y.toInt := by
  have e : (x / y).toInt = x.toInt / y.toInt := by
    rw [Int32.toInt_div_of_ne_right _ _ (by rintro rfl; exact absurd hy (by decide))]
    exact Int.tdiv_eq_ediv_of_nonneg hx
  have hb : x.toInt < 2147483648 := Int32.toInt_lt x
  have h1 : x.toInt / y.toInt * y.toInt ≤ x.toInt := Int.ediv_mul_le _ (by omega)
  have h0 : 0 ≤ x.toInt / y.toInt * y.toInt := Int.mul_nonneg (Int.ediv_nonneg hx (by omega)) (by omega)
  have e1 : (x / y * y).toInt = x.toInt / y.toInt * y.toInt := by rw [tmul (by rw [e]; omega) (by rw [e]; omega), e]
  have e2 : (jrem x y).toInt = x.toInt % y.toInt := by
    show (x - x / y * y).toInt = _
    rw [tsub (by rw [e1]; omega) (by rw [e1]; omega), e1]
    have := Int.emod_add_ediv_mul x.toInt y.toInt
    omega
  rw [e2]
  exact ⟨Int.emod_nonneg _ (by omega), Int.emod_lt_of_pos _ hy⟩
theorem m_realAt {z : SS} (h : RY z) {a : Int32} (a0 : 0 ≤ a.toInt) (ac : a.toInt < (cntN (fun t => decide (z.1 66 t = 0)) (z.1 60 6).toInt.toNat : Int)) : T (f_X12_realAt z a) (fun r => 0 ≤ r.toInt ∧ r.toInt < 12) := by
  have k0 := RY_k0 h
  have k12 := RY_k12 h
  unfold f_X12_realAt b_X12_realAt_4 b_X12_realAt_35
  refine T_fx3 (fun l1 l2 l3 => l1 = a ∧ ∃ i : Nat, l3 = Int32.ofNat i ∧ (i : Int) ≤ (z.1 60 6).toInt ∧ l2.toInt = (cntN (fun t => decide (z.1 66 t = 0)) i : Int) ∧ (cntN (fun t => decide (z.1 66 t = 0)) i : Int) ≤ a.toInt) (fun _ _ l3 => (12 - l3.toInt).toNat) ?_ _ _ _ _ ⟨rfl, 0, rfl, by omega, rfl, a0⟩ (by unfold FU; decide)
  rintro rec l1 l2 l3 ⟨rfl, i, rfl, hi, e2, hc⟩ hr
  have ei : (Int32.ofNat i).toInt = (i : Int) := onI (by omega)
  have ci : (Int32.ofNat i).toNatClampNeg = i := onC (by omega)
  refine T_le (fun g => ?_) (fun g => T_vp (by omega) (by show (Int32.ofNat i).toInt < 12; omega) ?_)
  · have : i = (z.1 60 6).toInt.toNat := by omega
    rw [this] at hc
    omega
  · have cl := cntN_le (fun t => decide (z.1 66 t = 0)) i
    have e3 : Int32.ofNat i + 1 = Int32.ofNat (i + 1) := by rw [Int32.ofNat_add]; rfl
    have e31 : (Int32.ofNat (i + 1)).toInt = ((i + 1 : Nat) : Int) := onI (by omega)
    have rf := RY_rforged h i (by omega)
    rw [ci, e3]
    have up : ∀ b : Bool, decide (z.1 66 i = 0) = b → cntN (fun t => decide (z.1 66 t = 0)) (i + 1) = cntN (fun t => decide (z.1 66 t = 0)) i + (if b then 1 else 0) := by
      intro b hb
      show cntN (fun t => decide (z.1 66 t = 0)) i + (if decide (z.1 66 i = 0) = true then 1 else 0) = _
      rw [hb]
    refine T_i (fun c1 => ?_) (fun c1 => T_eq (fun _ => T_some.mpr ⟨by omega, by omega⟩) (fun ne => ?_))
    · have u := up false (by rw [c1]; decide)
      exact hr _ _ _ ⟨rfl, i + 1, rfl, by omega, by rw [u]; exact e2, by rw [u]; exact hc⟩ (by omega)
    · have z0 : z.1 66 i = 0 := by
        rw [← Int32.toInt_inj] at c1 ⊢
        have l1' : (1 : Int32).toInt = 1 := rfl
        have l0' : (0 : Int32).toInt = 0 := rfl
        omega
      have u := up true (by rw [z0]; decide)
      have i2 := inc1 (a := l2) (by omega) (by omega)
      have u' : (cntN (fun t => decide (z.1 66 t = 0)) (i + 1) : Int) = cntN (fun t => decide (z.1 66 t = 0)) i + 1 := by rw [u]; rfl
      exact hr _ _ _ ⟨rfl, i + 1, rfl, by omega, by omega, by omega⟩ (by omega)
theorem mo_drawn {q : SS} (h : INV q) (a b c : Int32) : T (f_X12_drawn q a b c) (fun r => INV r.2) := by
  have l30 : (30 : Int32).toInt = 30 := rfl
  have l0 : (0 : Int32).toInt = 0 := rfl
  unfold f_X12_drawn
  refine T_i (fun _ => T_some.mpr h) (fun _ => T_rw (m_in q _ _ _) (T_bi (fun _ => T_some.mpr h) (fun hn => T_rw (m_in q _ _ _) (T_bi (fun _ => T_some.mpr h) (fun hm => T_rw (m_in q c _ _) (T_bi (fun _ => T_some.mpr h) (fun hc => ?_)))))))
  have n30 : (b / 100).toInt ≤ 30 := by have := hn.2; omega
  have m30 : (jrem b 100).toInt ≤ 30 := by have := hm.2; omega
  have fin : ∀ z : SS, INV z → ∀ u v w : Int32, T (b_X12_drawn_232 z u v w) (fun r => INV r.2) := fun z hz u v w => T_i (fun _ => T_some.mpr hz) (fun _ => T_some.mpr hz)
  unfold b_X12_drawn_58
  refine T_fx7 (fun z l2 _ _ _ _ l7 => INV z ∧ l2 = b ∧ 0 ≤ l7.toInt ∧ l7.toInt ≤ 30) (fun _ _ _ _ _ _ l7 => (30 - l7.toInt).toNat) ?_ _ _ _ _ _ _ _ _ ⟨h, rfl, by decide, by decide⟩ (by unfold FU; decide)
  rintro rec z l2 l3 l4 l5 l6 l7 ⟨hz, rfl, b0, b1⟩ hrec
  refine T_le (fun _ => fin z hz _ _ _) (fun g => T_le (fun _ => fin z hz _ _ _) (fun g2 => T_b (m_now (INV_RY hz)) (fun y hy => ?_)))
  have e7 := inc1 (a := l7) (by omega) (by omega)
  have gy := GM_now hz hy
  have go1 : ∀ (x : SS) (s t u v : Int32), GM z x → T (rec x l2 s t u v (l7 + 1)) (fun r => INV r.2) := fun x s t u v gx => hrec _ _ _ _ _ _ _ ⟨gx.1, rfl, by omega, by omega⟩ (by omega)
  have hP : 0 < (z.1 60 1).toInt := by
    have := RY_rholder (INV_RY hz) 0 (by show (0 : Int) < _; omega)
    omega
  unfold b_X12_drawn_81 b_X12_drawn_171 b_X12_drawn_226
  refine T_fx8 (fun x m2 _ _ _ _ m7 m8 => GM z x ∧ m2 = l2 ∧ m7 = l7 ∧ 0 ≤ m8.toInt ∧ m8.toInt ≤ 30) (fun _ _ _ _ _ _ _ m8 => (30 - m8.toInt).toNat) ?_ _ _ _ _ _ _ _ _ _ ⟨gy, rfl, rfl, by decide, by decide⟩ (by unfold FU; decide)
  rintro rec2 x m2 m3 m4 m5 m6 m7 m8 ⟨gx, rfl, rfl, c0, c1⟩ hrec2
  have hk := GM_K gx
  have hp := GM_P gx
  have hp1 : 0 < (x.1 60 1).toInt := by rw [gx.2.2.2.1]; exact hP
  have hk1 : 0 < (x.1 60 6).toInt := by rw [gx.2.2.2.2]; omega
  refine T_le (fun _ => T_nm ?_) (fun f => T_nm ?_)
  · generalize (m4 * 1103515245 + 12345 : Int32) = v6
    refine T_i (fun _ => go1 _ _ _ _ _ gx) (fun _ => T_rw (m_allReal hk.1 hk.2) ?_)
    have cl := cntN_le (fun t => decide (x.1 66 t = 0)) (x.1 60 6).toInt.toNat
    have ec : (Int32.ofNat (cntN (fun t => decide (x.1 66 t = 0)) (x.1 60 6).toInt.toNat)).toInt = (cntN (fun t => decide (x.1 66 t = 0)) (x.1 60 6).toInt.toNat : Int) := onI (by omega)
    have ea := m_allReal hk.1 hk.2 (z := x)
    have er := fun (v : Int32) => m_realAt (INV_RY gx.1) (a := v)
    generalize cntN (fun t => decide (x.1 66 t = 0)) (x.1 60 6).toInt.toNat = n at ec ea er ⊢
    generalize Int32.ofNat n = w at ec ea ⊢
    refine T_le (fun _ => go1 _ _ _ _ _ gx) (fun gr => T_rw ea (T_n ?_ ?_))
    · rintro rfl
      omega
    · have jb := jremB (x := jushr v6 8) (jushr_nn (k := 7) rfl) (y := w) (by omega)
      generalize jrem (jushr v6 8) w = v at jb ⊢
      exact T_b (er v jb.1 (by omega)) (fun r9 h9 => T_vp h9.1 h9.2 (T_i (fun _ => go1 _ _ _ _ _ gx) (fun _ => go1 _ _ _ _ _ gx)))
  · generalize (m4 * 1103515245 + 12345 : Int32) = v13
    refine T_n ?_ (T_nm (T_n ?_ (T_nm ?_)))
    · rintro e
      rw [e] at hk1
      omega
    · rintro e
      rw [e] at hp1
      omega
    have j6 := jremB (x := jushr v13 8) (jushr_nn (k := 7) rfl) hk1
    have j1 := jremB (x := jushr v13 12) (jushr_nn (k := 11) rfl) hp1
    generalize jrem (jushr v13 8) (x.1 60 6) = v14 at j6 ⊢
    generalize jrem (jushr v13 12) (x.1 60 1) = v15 at j1 ⊢
    have e8 := inc1 (a := m8) (by omega) (by omega)
    have go2 : ∀ (y : SS) (s t u v : Int32), GM z y → T (rec2 y m2 s t u v m7 (m8 + 1)) (fun r => INV r.2) := fun y s t u v gy => hrec2 _ _ _ _ _ _ _ _ ⟨gy, rfl, rfl, by omega, by omega⟩ (by omega)
    have r6 : 0 ≤ v14.toInt ∧ v14.toInt < 12 := ⟨j6.1, by omega⟩
    have r1 : 0 ≤ v15.toInt ∧ v15.toInt < 6 := ⟨j1.1, by omega⟩
    exact T_b (m_slipT x r6 r1) (fun r16 _ => T_i (fun _ => go2 _ _ _ _ _ gx) (fun _ => T_b (GM_odds gx r6 r1) (fun s hs => T_i (fun _ => T_vp r6.1 r6.2 (T_nm (go2 _ _ _ _ _ (GM_81 hs.1 ⟨r1.1, by omega⟩)))) (fun _ => go2 _ _ _ _ _ hs.1))))

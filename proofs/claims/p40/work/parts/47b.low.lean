/-! ===== lowest terms; king ===== -/
theorem ldivT {x y : Int64} (hx : 0 ≤ x.toInt) (hy : 0 < y.toInt) : (x / y).toInt = x.toInt / y.toInt := by
  rw [Int64.toInt_div_of_ne_right _ _ (by rintro rfl; exact absurd hy (by decide))]
  exact Int.tdiv_eq_ediv_of_nonneg hx
theorem lremT {x y : Int64} (hx : 0 ≤ x.toInt) (hy : 0 < y.toInt) : (jlrem x y).toInt = x.toInt % y.toInt := by
  have e := ldivT hx hy
  have hb : x.toInt < 9223372036854775808 := Int64.toInt_lt x
  have h1 : x.toInt / y.toInt * y.toInt ≤ x.toInt := Int.ediv_mul_le _ (by omega)
  have h0 : 0 ≤ x.toInt / y.toInt * y.toInt := Int.mul_nonneg (Int.ediv_nonneg hx (by omega)) (by omega)
  have e1 : (x / y * y).toInt = x.toInt / y.toInt * y.toInt := by rw [lmul (by rw [e]; omega) (by rw [e]; omega), e]
  show (x - x / y * y).toInt = _
  rw [Int64.toInt_sub, e1, Int.bmod_eq_of_le (by omega) (by omega)]
  have := Int.emod_add_ediv_mul x.toInt y.toInt
  omega
theorem z64 : (0 : Int64).toInt = 0 := rfl
theorem eq64 {x : Int64} : x = 0 ↔ x.toInt = 0 := by
  rw [← Int64.toInt_inj]
  rfl
/-- the greatest that divides both -/
def gI (x y : Int64) : Nat := Nat.gcd x.toInt.toNat y.toInt.toNat
theorem gI_s {x y : Int64} (hx : 0 ≤ x.toInt) (hy : 0 < y.toInt) : gI y (jlrem x y) = gI x y := by
  unfold gI
  rw [lremT hx hy]
  have e : (x.toInt % y.toInt).toNat = x.toInt.toNat % y.toInt.toNat := Int.toNat_emod hx (by omega)
  rw [e, Nat.gcd_comm x.toInt.toNat, Nat.gcd_rec y.toInt.toNat x.toInt.toNat, Nat.gcd_comm]
/-- how many steps at most -/
def mu (x y : Nat) : Nat := if y = 0 then 0 else 1 + Nat.log2 x + Nat.log2 y + (if x < y then 1 else 0)
theorem lg_half {a b : Nat} (ha : a ≠ 0) (h : 2 * a ≤ b) : Nat.log2 a + 1 ≤ Nat.log2 b := by
  rw [Nat.le_log2 (by omega), Nat.pow_succ]
  have : 2 ^ Nat.log2 a ≤ a := (Nat.le_log2 ha).mp (Nat.le_refl _)
  omega
theorem mu_s {x y : Nat} (hy : y ≠ 0) : mu y (x % y) < mu x y := by
  unfold mu
  rw [if_neg hy]
  by_cases h0 : x % y = 0
  · rw [if_pos h0]
    omega
  · have hlt := Nat.mod_lt x (by omega : 0 < y)
    rw [if_neg h0, if_neg (by omega)]
    by_cases h : x < y
    · rw [Nat.mod_eq_of_lt h, if_pos h]
      omega
    · rw [if_neg h]
      have h2 : 2 * (x % y) ≤ x := by
        have e := Nat.mod_add_div x y
        have hd : 1 ≤ x / y := Nat.div_pos (by omega) (by omega)
        have : y * 1 ≤ y * (x / y) := Nat.mul_le_mul_left y hd
        omega
      have := lg_half h0 h2
      omega
theorem mu_b {x y : Nat} (hx : x < 2 ^ 63) (hy : y < 2 ^ 63) : mu x y ≤ 130 := by
  have l : ∀ n : Nat, n < 2 ^ 63 → Nat.log2 n ≤ 63 := fun n hn => by
    by_cases h : n = 0
    · subst h; decide
    · have := (Nat.log2_lt h).mpr hn
      omega
  have := l x hx
  have := l y hy
  unfold mu
  split
  · omega
  · split <;> omega
def mI (x y : Int64) : Nat := mu x.toInt.toNat y.toInt.toNat
theorem mI_s {x y : Int64} (hx : 0 ≤ x.toInt) (hy : 0 < y.toInt) : mI y (jlrem x y) < mI x y := by
  unfold mI
  rw [lremT hx hy, Int.toNat_emod hx (by omega)]
  exact mu_s (by omega)
theorem mI_b (x y : Int64) : mI x y ≤ 130 := by
  have h1 : x.toInt < 9223372036854775808 := Int64.toInt_lt x
  have h2 : y.toInt < 9223372036854775808 := Int64.toInt_lt y
  exact mu_b (by omega) (by omega)
theorem gI_0 {x y : Int64} (hx : 0 ≤ x.toInt) (hy : y.toInt = 0) : x.toInt = (gI x y : Int) := by
  unfold gI
  rw [hy]
  show _ = ((Nat.gcd x.toInt.toNat 0 : Nat) : Int)
  rw [Nat.gcd_zero_right]
  omega
theorem gI_p {a b : Int64} (ha : 0 ≤ a.toInt) (hb : 0 ≤ b.toInt) (hab : ¬ (a.toInt = 0 ∧ b.toInt = 0)) : gI a b ≠ 0 := by
  unfold gI
  intro x
  have := Nat.eq_zero_of_gcd_eq_zero_left x
  have := Nat.eq_zero_of_gcd_eq_zero_right x
  omega
theorem m_low {q : SS} {a b : Int64} (ha : 0 ≤ a.toInt) (hb : 0 ≤ b.toInt) (hab : ¬ (a.toInt = 0 ∧ b.toInt = 0)) (p : Int32) : T (b_X12_lowest_16 q a b p a b) (fun r => ∃ g : Int64, g.toInt = (gI a b : Int) ∧ r = (if p = 0 then a / g else b / g)) := by
  have g0 := gI_p ha hb hab
  unfold b_X12_lowest_16
  refine T_fx5 (fun l0 l2 l4 l5 l7 => l0 = a ∧ l2 = b ∧ l4 = p ∧ 0 ≤ l5.toInt ∧ 0 ≤ l7.toInt ∧ gI l5 l7 = gI a b) (fun _ _ _ l5 l7 => mI l5 l7) ?_ _ _ _ _ _ _ ⟨rfl, rfl, rfl, ha, hb, rfl⟩ (by have := mI_b a b; unfold FU; omega)
  rintro rec l0 l2 l4 l5 l7 ⟨rfl, rfl, rfl, h5, h7, hg⟩ hr
  by_cases z : l7 = 0
  · have z7 := eq64.mp z
    have e5 : l5.toInt = (gI l0 l2 : Int) := by rw [← hg]; exact gI_0 h5 z7
    have n5 : ¬ l5 = 0 := fun x => by rw [eq64] at x; omega
    refine T_p (lgc_z.mpr z) ?_
    by_cases c : l4 = 0
    · exact T_p c (T_n n5 (T_some.mpr ⟨l5, e5, by rw [if_pos c]⟩))
    · exact T_q c (T_n n5 (T_some.mpr ⟨l5, e5, by rw [if_neg c]⟩))
  · have p7 : 0 < l7.toInt := by
      have : l7.toInt ≠ 0 := fun x => z (eq64.mpr x)
      omega
    refine T_q (fun x => z (lgc_z.mp x)) (T_n z (T_nm (hr _ _ _ _ _ ⟨rfl, rfl, rfl, h7, ?_, (gI_s h5 p7).trans hg⟩ (mI_s h5 p7))))
    rw [lremT h5 p7]
    exact Int.emod_nonneg _ (by omega)
theorem x_low2 {q : SS} {a b : Int64} (ha : 0 < a.toInt) (hb : 0 < b.toInt) (p : Int32) : T (b_X11_partOf_25 q a b p b a 0) (fun r => ∃ g : Int64, g.toInt = (gI a b : Int) ∧ r = (if p = 0 then a / g else b / g)) := by
  have g0 := gI_p (a := a) (b := b) (by omega) (by omega) (by omega)
  have l200 : (200 : Int32).toInt = 200 := rfl
  have l0' : (0 : Int32).toInt = 0 := rfl
  unfold b_X11_partOf_25
  refine T_fx6 (fun l0 l2 l4 l5 l7 l9 => l0 = a ∧ l2 = b ∧ l4 = p ∧ 0 ≤ l5.toInt ∧ 0 ≤ l7.toInt ∧ gI l5 l7 = gI a b ∧ 0 ≤ l9.toInt ∧ l9.toInt + (mI l5 l7 : Int) ≤ 130) (fun _ _ _ l5 l7 _ => mI l5 l7) ?_ _ _ _ _ _ _ _ ⟨rfl, rfl, rfl, by omega, by omega, by unfold gI; exact Nat.gcd_comm _ _, by omega, by have := mI_b b a; omega⟩ (by have := mI_b b a; unfold FU; omega)
  rintro rec l0 l2 l4 l5 l7 l9 ⟨rfl, rfl, rfl, h5, h7, hg, h9, hm⟩ hr
  refine T_len (by omega) ?_
  by_cases z : l7 = 0
  · have z7 := eq64.mp z
    have e5 : l5.toInt = (gI l0 l2 : Int) := by rw [← hg]; exact gI_0 h5 z7
    have n5 : ¬ l5 = 0 := fun x => by rw [eq64] at x; omega
    refine T_p (lgc_z.mpr z) ?_
    unfold b_X11_partOf_61
    refine T_q (fun x => n5 (lgc_z.mp x)) ?_
    by_cases c : l4 = 0
    · exact T_p c (T_n n5 (T_some.mpr ⟨l5, e5, by rw [if_pos c]⟩))
    · exact T_q c (T_n n5 (T_some.mpr ⟨l5, e5, by rw [if_neg c]⟩))
  · have p7 : 0 < l7.toInt := by
      have : l7.toInt ≠ 0 := fun x => z (eq64.mpr x)
      omega
    have ms := mI_s h5 p7
    have e9 := inc1 (a := l9) (by omega) (by omega)
    refine T_q (fun x => z (lgc_z.mp x)) (T_n z (T_nm (hr _ _ _ _ _ _ ⟨rfl, rfl, rfl, h7, ?_, (gI_s h5 p7).trans hg, by omega, by omega⟩ ms)))
    rw [lremT h5 p7]
    exact Int.emod_nonneg _ (by omega)
/-- a fraction in lowest terms, on both sides -/
theorem low_eq {q r : SS} {a b : Int64} (ha : 0 ≤ a.toInt) (hb : 0 ≤ b.toInt) (hab : b.toInt = 0 → a.toInt = 0) (p : Int32) : ∃ v : Int64, f_X11_partOf q a b p = some v ∧ f_X12_lowest r a b p = some v := by
  unfold f_X11_partOf f_X12_lowest
  by_cases z : a = 0
  · exact ⟨p.toInt64, by rw [if_pos (lgc_z.mpr z)], by rw [if_pos (lgc_z.mpr z)]⟩
  · have na : a.toInt ≠ 0 := fun x => z (eq64.mpr x)
    have nb : b.toInt ≠ 0 := fun x => na (hab x)
    have z2 : ¬ b = 0 := fun x => nb (eq64.mp x)
    rw [if_neg (fun x => z (lgc_z.mp x)), if_neg (fun x => z2 (lgc_z.mp x)), if_neg (fun x => z (lgc_z.mp x))]
    obtain ⟨v, h1, g, h2, h3⟩ := x_low2 (q := q) (a := a) (b := b) (by omega) (by omega) p
    obtain ⟨w, k1, g', k2, k3⟩ := m_low (q := r) ha hb (fun x => na x.1) p
    have e : g = g' := Int64.toInt_inj.mp (h2.trans k2.symm)
    exact ⟨v, h1, by rw [k1, k3, h3, e]⟩
theorem isPart_x (q : SS) (p : Int32) : f_X11_isPart q p = some (bI (0 ≤ p.toInt ∧ p.toInt ≤ 1)) := by
  unfold f_X11_isPart b_X11_isPart_9
  have l1 : (1 : Int32).toInt = 1 := rfl
  by_cases h0 : p = 0
  · rw [if_pos h0, h0]
    rfl
  · by_cases h1 : p = 1
    · rw [if_neg h0, if_pos h1, h1]
      rfl
    · rw [if_neg h0, if_neg h1]
      have a : p.toInt ≠ 0 := fun x => h0 (eq0.mpr x)
      have b : p.toInt ≠ 1 := fun x => h1 (Int32.toInt_inj.mp x)
      unfold bI
      rw [if_neg (by omega)]
theorem cR_A (q : SS) (a : Int32) : cR q a ≤ cA q := by
  unfold cR cA
  generalize (q.1 60 6).toInt.toNat = n
  induction n with
  | zero => exact Nat.le_refl _
  | succ n ih =>
    show cntN _ n + (if _ then 1 else 0) ≤ cntN _ n + (if _ then 1 else 0)
    by_cases h : decide (q.1 66 n = 0) = true
    · rw [if_pos h]
      split <;> omega
    · rw [if_neg h, if_neg (by rw [Bool.and_eq_true]; exact fun x => h x.2)]
      omega
theorem op_king {q : SS} (h : INV q) (a p : Int32) : T (f_X11_king q a p) (fun r => T (f_X12_king r.2 a p) (fun s => INV s.2 ∧ r.1 = s.1)) := by
  have hY := INV_RY h
  have p0 := RY_p0 hY
  have m1 : ∀ r, f_X12_in r p 0 1 = some (bI (0 ≤ p.toInt ∧ p.toInt ≤ 1)) := fun r => m_in r p 0 1
  unfold f_X11_king
  refine T_rw (x_isPerson q a) ?_
  rw [RY_p hY]
  refine T_bi (fun g => T_some.mpr ?_) (fun g => T_rw (isPart_x q p) (T_bi (fun c => T_some.mpr ?_) (fun c => T_b (x_now hY) (fun r hr => T_rw (nx_realsOf hY hr a) (T_rw (nx_reals hY hr) ?_)))))
  · unfold f_X12_king
    exact T_rw (m_isOne p0 a) (T_bn g (T_some.mpr ⟨h, rfl⟩))
  · unfold f_X12_king
    exact T_rw (m_isOne p0 a) (T_bp g (T_rw (m1 _) (T_bn c (T_some.mpr ⟨h, rfl⟩))))
  · have hI := NWX_I h hr
    obtain ⟨_, e2, e3⟩ := nx_c hr a
    have l1 := cR_le hY a
    have l2 := cA_le hY
    have l3 := cR_A q a
    have i1 : (Int32.ofNat (cR q a)).toInt64.toInt = (cR q a : Int) := by rw [i64, onI (by omega)]
    have i2 : (Int32.ofNat (cA q)).toInt64.toInt = (cA q : Int) := by rw [i64, onI (by omega)]
    unfold f_X12_king
    obtain ⟨v, hx, -⟩ := low_eq (q := r) (r := r) (a := (Int32.ofNat (cR q a)).toInt64) (b := (Int32.ofNat (cA q)).toInt64) (by omega) (by omega) (by omega) p
    refine T_rw hx (T_some.mpr (T_rw (m_isOne (RY_p0 (INV_RY hI)) a) (T_bp (by rw [hr.2.1 60 (by decide)]; exact g) (T_rw (m1 _) (T_bp c (T_b (m_now (INV_RY hI)) (fun s hs => T_rw (nm_realOf (INV_RY hI) hs a) (T_rw (nm_allReal (INV_RY hI) hs) ?_))))))))
    rw [e2, e3]
    obtain ⟨w, hx2, hm⟩ := low_eq (q := r) (r := s) (a := (Int32.ofNat (cR q a)).toInt64) (b := (Int32.ofNat (cA q)).toInt64) (by omega) (by omega) (by omega) p
    exact T_rw hm (T_some.mpr ⟨NWM_I hI hs, Option.some.inj (hx.symm.trans hx2)⟩)

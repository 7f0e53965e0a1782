/-! ===== the model's law: taken over, or refused ===== -/
theorem dp_s {A W A' W' : Nat → Int32} (c : Nat) : ∀ (n i d : Nat), (∀ k, i ≤ k → k < i + n → A' k = A (c + k) ∧ W' k = W (c + k)) → dp A' W' n i d = dp A W n (c + i) d
  | 0, _, _, _ => rfl
  | n + 1, i, d, h => by
    have e := h i (by omega) (by omega)
    show (stepd (A' i) (W' i) d).bind (fun d' => dp A' W' n (i + 1) d') = (stepd (A (c + i)) (W (c + i)) d).bind (fun d' => dp A W n (c + i + 1) d')
    rw [e.1, e.2]
    exact congrArg _ (funext fun d' => dp_s c n (i + 1) d' (fun k hk hl => h k (by omega) (by omega)))
def WL (z : SS) : Prop := (0 ≤ (z.1 76 0).toInt ∧ (z.1 76 0).toInt ≤ 61) ∧ ∀ l : Nat, (l : Int) < (z.1 76 0).toInt → okLine (z.1 74) (z.1 75) (if l = 0 then 0 else (z.1 78 (l - 1)).toInt) (z.1 77 l).toInt (z.1 78 l).toInt
theorem WL_of {y z : SS} {m : Nat} (L : LN y m) (h130 : (y.1 60 22).toInt ≤ 130) (hm : m ≤ 61) (e76 : (z.1 76 0).toInt = (m : Int)) (e77 : ∀ l : Nat, l < m → z.1 77 l = y.1 77 (61 + l)) (e78 : ∀ l : Nat, l < m → z.1 78 l = y.1 78 (61 + l)) (ec : ∀ k : Nat, (k : Int) < (y.1 60 22).toInt → z.1 74 k = y.1 74 (130 + k) ∧ z.1 75 k = y.1 75 (130 + k)) : WL z := by
  refine ⟨by omega, fun l hl => ?_⟩
  rw [e76] at hl
  obtain ⟨h1, h2, h3, h4, h5, h6⟩ := L.2.2.2 l (by omega)
  have st : (if l = 0 then (0 : Int) else (z.1 78 (l - 1)).toInt) = stU y l := by
    unfold stU
    by_cases c : l = 0
    · rw [if_pos c, if_pos c]
    · rw [if_neg c, if_neg c, e78 (l - 1) (by omega)]
  have sg : ∀ i j : Int, 0 ≤ i → j ≤ (y.1 60 22).toInt → sgU y i j → okSeg (z.1 74) (z.1 75) i j := fun i j hi hj s => by
    unfold sgU at s
    unfold okSeg
    rw [dp_s 130 _ _ _ (fun k k1 k2 => ec k (by omega))]
    have e : 130 + i.toNat = (130 + i).toNat := by omega
    rw [e]
    exact s
  rw [st, e77 l (by omega), e78 l (by omega)]
  exact ⟨h1, h2, h3, by omega, sg _ _ (by omega) h4 h5, fun n => sg _ _ h1 (by omega) (h6 n)⟩
def w7 (k _ : Nat) : Bool := k == 77 || k == 78
theorem m_177 {y z : SS} {m : Nat} (L : LN y m) (h121 : (y.1 60 22).toInt ≤ 121) (hm : m ≤ 60) (e76 : (z.1 76 0).toInt = (m : Int)) (e77 : z.1 77 = y.1 77) (e78 : z.1 78 = y.1 78) : T (b_X12_readText_177 z 0 0) (fun r => r.1 = -1 ∧ Fr w7 v0 z r.2 ∧ (∀ l : Nat, l < m → r.2.1 77 l = y.1 77 (61 + l)) ∧ (∀ l : Nat, l < m → r.2.1 78 l = y.1 78 (61 + l))) := by
  have l61 : (61 : Int32).toInt = 61 := rfl
  have z0 : (0 : Int32).toNatClampNeg = 0 := rfl
  unfold b_X12_readText_177
  refine T_fx3 (fun w l1 l2 => l1 = 0 ∧ 0 ≤ l2.toInt ∧ l2.toInt ≤ (m : Int) ∧ Fr w7 v0 z w ∧ (∀ k : Nat, 61 ≤ k → w.1 77 k = y.1 77 k ∧ w.1 78 k = y.1 78 k) ∧ (∀ l : Nat, (l : Int) < l2.toInt → w.1 77 l = y.1 77 (61 + l) ∧ w.1 78 l = y.1 78 (61 + l))) (fun _ _ l2 => ((m : Int) - l2.toInt).toNat) ?_ _ _ _ _ ⟨rfl, by decide, by show (0 : Int) ≤ (m : Int); omega, Fr_refl z, fun k _ => ⟨by rw [e77], by rw [e78]⟩, fun l hl => absurd hl (by show ¬ ((l : Int) < 0); omega)⟩ (by have : (0 : Int32).toInt = 0 := rfl; unfold FU; omega)
  rintro rec w l1 l2 ⟨rfl, h0, h1, hf, hu, hl⟩ hr
  have w76 : w.1 76 0 = z.1 76 0 := hf.1 76 0 rfl
  refine T_p (by decide) ?_
  rw [z0, w76]
  refine T_le (fun le => T_some.mpr ⟨rfl, hf, fun l h => (hl l (by omega)).1, fun l h => (hl l (by omega)).2⟩) (fun lt => ?_)
  have i61 : ((61 : Int32) + l2).toInt = 61 + l2.toInt := by rw [tadd (by omega) (by omega), l61]
  have n61 : ((61 : Int32) + l2).toNatClampNeg = 61 + l2.toInt.toNat := by
    show ((61 : Int32) + l2).toInt.toNat = _
    omega
  have n0 : l2.toNatClampNeg = l2.toInt.toNat := rfl
  rw [Int32.mul_zero, Int32.zero_add]
  obtain ⟨q1, q2, q3, q4, _, _⟩ := L.2.2.2 l2.toInt.toNat (by omega)
  have u := hu (61 + l2.toInt.toNat) (by omega)
  have x77 : (w.1 77 (61 + l2.toInt.toNat)).toInt16.toInt32 = y.1 77 (61 + l2.toInt.toNat) := by rw [u.1, n16 (by omega) (by omega)]
  have x78 : (w.1 78 (61 + l2.toInt.toNat)).toInt16.toInt32 = y.1 78 (61 + l2.toInt.toNat) := by rw [u.2, n16 (by omega) (by omega)]
  refine T_vp (by omega) (by omega) (T_vp (by omega) (by omega) (T_nm (T_vp (by omega) (by omega) (T_vp (by omega) (by omega) (T_nm ?_)))))
  rw [n61, n0, x77]
  have s78 : (sI w 77 l2.toInt.toNat (y.1 77 (61 + l2.toInt.toNat))).1 78 = w.1 78 := sI_ro (by decide)
  rw [s78, x78]
  have i := inc1 (a := l2) (by omega) (by omega)
  refine hr _ _ _ ⟨rfl, by omega, by omega, Fr_sI (Fr_sI hf rfl) rfl, fun k hk => ?_, fun l h => ?_⟩ (by omega)
  · rw [sI_ro (by decide), sI_rd, if_neg (fun c => by have := c.2; omega), sI_rd, if_neg (fun c => by have := c.2; omega), s78]
    exact hu k hk
  · rw [sI_ro (by decide), sI_rd, sI_rd, s78]
    by_cases c : l = l2.toInt.toNat
    · rw [if_pos ⟨rfl, c⟩, if_pos ⟨rfl, c⟩, c]
      exact ⟨rfl, rfl⟩
    · rw [if_neg (fun h => c h.2), if_neg (fun h => c h.2)]
      exact hl l (by omega)
def w6 (k i : Nat) : Bool := k == 74 || k == 75 || k == 77 || k == 78 || (k == 76 && i == 0)
theorem m_105 {y : SS} {m : Nat} (L : LN y m) (h0 : 0 ≤ (y.1 60 22).toInt) (h121 : (y.1 60 22).toInt ≤ 121) (hm : m ≤ 60) : T (b_X12_readText_105 y 0 0) (fun r => r.1 = -1 ∧ Fr w6 v0 y r.2 ∧ WL r.2) := by
  have l130 : (130 : Int32).toInt = 130 := rfl
  have z0 : (0 : Int32).toNatClampNeg = 0 := rfl
  have z1 : (1 : Int32).toNatClampNeg = 1 := rfl
  unfold b_X12_readText_105
  refine T_fx3 (fun w l1 l2 => l1 = 0 ∧ 0 ≤ l2.toInt ∧ l2.toInt ≤ (y.1 60 22).toInt ∧ Fr (fun k _ => k == 74 || k == 75) v0 y w ∧ (∀ k : Nat, 130 ≤ k → w.1 74 k = y.1 74 k ∧ w.1 75 k = y.1 75 k) ∧ (∀ k : Nat, (k : Int) < l2.toInt → w.1 74 k = y.1 74 (130 + k) ∧ w.1 75 k = y.1 75 (130 + k))) (fun _ _ l2 => ((y.1 60 22).toInt - l2.toInt).toNat) ?_ _ _ _ _ ⟨rfl, by decide, h0, Fr_refl y, fun k _ => ⟨rfl, rfl⟩, fun l hl => absurd hl (by show ¬ ((l : Int) < 0); omega)⟩ (by have : (0 : Int32).toInt = 0 := rfl; unfold FU; omega)
  rintro rec w l1 l2 ⟨rfl, h1, h2, hf, hu, hl⟩ hr
  have w22 : w.1 60 22 = y.1 60 22 := hf.1 60 22 rfl
  rw [w22]
  refine T_le (fun le => T_p (by decide) (T_p (by decide) (T_nm ?_))) (fun lt => ?_)
  · have w76 : w.1 76 1 = y.1 76 1 := hf.1 76 1 rfl
    rw [z0, z1, w76]
    have f8 : Fr w6 v0 y (sI w 76 0 (y.1 76 1)) := Fr_sI (Fr_le hf (fun k i e => by
      unfold w6 at e
      simp only [Bool.or_eq_false_iff] at e
      show (k == 74 || k == 75) = false
      rw [e.1.1.1.1, e.1.1.1.2]
      rfl) (fun _ h => h)) rfl
    have a76 : ((sI w 76 0 (y.1 76 1)).1 76 0).toInt = (m : Int) := L.1
    refine T_mono (m_177 (z := sI w 76 0 (y.1 76 1)) L h121 hm a76 ((sI_ro (by decide)).trans (Fr_r hf fun _ => rfl)) ((sI_ro (by decide)).trans (Fr_r hf fun _ => rfl))) (fun r hr7 => ?_)
    obtain ⟨r1, r2, r3, r4⟩ := hr7
    have f9 : Fr w6 v0 (sI w 76 0 (y.1 76 1)) r.2 := Fr_le r2 (fun k i e => by
      unfold w6 at e
      simp only [Bool.or_eq_false_iff] at e
      show (k == 77 || k == 78) = false
      rw [e.1.1.2, e.1.2]
      rfl) (fun _ h => h)
    refine ⟨r1, Fr_tr f8 f9, WL_of L (by omega) (by omega) ?_ r3 r4 (fun k hk => ?_)⟩
    · rw [r2.1 76 0 rfl]
      exact a76
    · rw [Fr_r r2 (k := 74) (fun _ => rfl), Fr_r r2 (k := 75) (fun _ => rfl), sI_ro (by decide), sI_ro (by decide)]
      exact hl k (by omega)
  · have i130 : ((130 : Int32) + l2).toInt = 130 + l2.toInt := by rw [tadd (by omega) (by omega), l130]
    have n130 : ((130 : Int32) + l2).toNatClampNeg = 130 + l2.toInt.toNat := by
      show ((130 : Int32) + l2).toInt.toNat = _
      omega
    have n0 : l2.toNatClampNeg = l2.toInt.toNat := rfl
    rw [Int32.mul_zero, Int32.zero_add]
    have u := hu (130 + l2.toInt.toNat) (by omega)
    have x74 : (w.1 74 (130 + l2.toInt.toNat)).toInt8.toInt32 = y.1 74 (130 + l2.toInt.toNat) := by rw [u.1, L.2.2.1 _ (by omega) (by omega)]
    refine T_vp (by omega) (by omega) (T_vp (by omega) (by omega) (T_nm (T_vp (by omega) (by omega) (T_vp (by omega) (by omega) (T_nm ?_)))))
    rw [n130, n0, x74]
    have s75 : (sI w 74 l2.toInt.toNat (y.1 74 (130 + l2.toInt.toNat))).1 75 = w.1 75 := sI_ro (by decide)
    rw [s75, u.2]
    have i := inc1 (a := l2) (by omega) (by omega)
    refine hr _ _ _ ⟨rfl, by omega, by omega, Fr_sI (Fr_sI hf rfl) rfl, fun k hk => ?_, fun l h => ?_⟩ (by omega)
    · rw [sI_ro (by decide), sI_rd, if_neg (fun c => by have := c.2; omega), sI_rd, if_neg (fun c => by have := c.2; omega), s75]
      exact hu k hk
    · rw [sI_ro (by decide), sI_rd, sI_rd, s75]
      by_cases c : l = l2.toInt.toNat
      · rw [if_pos ⟨rfl, c⟩, if_pos ⟨rfl, c⟩, c]
        exact ⟨rfl, rfl⟩
      · rw [if_neg (fun h => c h.2), if_neg (fun h => c h.2)]
        exact hl l (by omega)
def PT (q : SS) (r : Int32 × SS) : Prop := (0 ≤ r.1.toInt ∧ Fr wR v0 q r.2 ∧ r.2.1 60 18 = 0) ∨ (r.1 = -1 ∧ Fr wU v0 q r.2 ∧ r.2.1 60 18 = 0 ∧ WL r.2)
theorem m_86 {q z : SS} (f : Fr wR v0 q z) (c : 0 ≤ (z.1 60 20).toInt ∨ ∃ m : Nat, EN z ∧ LN z m ∧ 2 * (m : Int) ≤ (z.1 60 19).toInt + 1) : T (b_X12_readText_86 z 0) (PT q) := by
  have l0 : (0 : Int32).toInt = 0 := rfl
  have fq : Fr wR v0 q (sI z 60 18 0) := Fr_sI f rfl
  unfold b_X12_readText_86
  refine T_nm ?_
  rcases c with w | ⟨m, e, L, hm⟩
  · exact T_ltn (by show (0 : Int32).toInt ≤ (z.1 60 20).toInt; omega) (T_some.mpr (Or.inl ⟨w, fq, rfl⟩))
  · obtain ⟨e1, e2, e3, e4, e5, e6, _, _⟩ := e
    refine T_p (by show z.1 60 20 < 0; rw [e6]; decide) (T_mono (m_105 (y := sI z 60 18 0) (m := m) L e4 (by show (z.1 60 22).toInt ≤ 121; omega) (by omega)) (fun r hr => Or.inr ⟨hr.1, Fr_tr (Fr_NT fq) (Fr_le hr.2.1 (fun k i e => ?_) (fun _ h => h)), hr.2.1.1 60 18 rfl, hr.2.2⟩))
    unfold wU at e
    simp only [Bool.or_eq_false_iff] at e
    obtain ⟨⟨⟨⟨⟨⟨a1, a2⟩, a3⟩, a4⟩, a5⟩, _⟩, _⟩ := e
    unfold w6
    simp [a1, a2, a3, a4, a5]
theorem m_readText {q : SS} (h0 : 0 ≤ (q.1 60 18).toInt) (h : (q.1 60 18).toInt ≤ 120) : T (f_X12_readText q 0) (PT q) := by
  have l0 : (0 : Int32).toInt = 0 := rfl
  have z1 : (1 : Int32).toNatClampNeg = 1 := rfl
  unfold f_X12_readText
  refine T_nm (T_nm (T_nm (T_nm (T_p (by decide) (T_nm ?_)))))
  rw [z1]
  have f0 : Fr wR v0 q (sI (sI (sI (sI (sI q 60 19 0) 60 20 (-1)) 60 21 0) 60 22 0) 76 1 0) := Fr_sI (Fr_sI (Fr_sI (Fr_sI (Fr_sI (Fr_refl q) rfl) rfl) rfl) rfl) rfl
  have e0 : EN (sI (sI (sI (sI (sI q 60 19 0) 60 20 (-1)) 60 21 0) 60 22 0) 76 1 0) := ⟨Int.le_refl 0, h0, h, Int.le_refl 0, Int.le_refl 0, rfl, Int.le_refl 0, (by decide : (0 : Int) ≤ 6)⟩
  have L0 : LN (sI (sI (sI (sI (sI q 60 19 0) 60 20 (-1)) 60 21 0) 60 22 0) 76 1 0) 0 := ⟨rfl, rfl, fun k k1 k2 => absurd k2 (by show ¬ ((k : Int) < 130 + 0); omega), fun l hl => absurd hl (by omega)⟩
  generalize (sI (sI (sI (sI (sI q 60 19 0) 60 20 (-1)) 60 21 0) 60 22 0) 76 1 0) = q5 at f0 e0 L0 ⊢
  refine T_b (m_line e0 L0 (by have := e0.1; omega)) (fun r6 h6 => ?_)
  unfold b_X12_readText_31
  have b6 : (r6.1 60 18).toInt = (q5.1 60 18).toInt := congrArg Int32.toInt h6.2.1
  refine T_fx2 (fun y l1 => l1 = 0 ∧ Fr wR v0 q y ∧ 0 ≤ (y.1 60 19).toInt ∧ (y.1 60 19).toInt ≤ (y.1 60 18).toInt ∧ (y.1 60 18).toInt ≤ 120 ∧ (0 ≤ (y.1 60 20).toInt ∨ ∃ m : Nat, EN y ∧ LN y m ∧ 2 * (m : Int) ≤ (y.1 60 19).toInt + 1)) (fun y _ => (120 - (y.1 60 19).toInt).toNat) ?_ _ _ _ ⟨rfl, Fr_tr f0 h6.1, by have := e0.1; have := h6.2.2.1; omega, by have := h6.2.2.1; omega, by have := e0.2.2.1; omega, ?_⟩ (by unfold FU; have := e0.1; have := h6.2.2.1; omega)
  · rintro rec y l1 ⟨rfl, f, b0, b1, b2, c⟩ hr
    have t64 : T (b_X12_readText_64 y 0) (PT q) := by
      unfold b_X12_readText_64
      refine T_le (fun _ => m_86 f c) (fun w => T_le (fun _ => m_86 f c) (fun _ => T_b (Q := fun r => Fr wR v0 q r ∧ 0 ≤ (r.1 60 20).toInt) ?_ (fun r hr => m_86 hr.1 (Or.inl hr.2))))
      unfold f_X12_wrong
      exact T_le (fun g => T_some.mpr ⟨f, g⟩) (fun _ => T_nm (T_some.mpr ⟨Fr_sI f rfl, b0⟩))
    refine T_le (fun _ => t64) (fun w => ?_)
    obtain ⟨v, hv, hl⟩ := mk_look y b0 b2
    refine T_rw hv (T_eq (fun ev => T_nm ?_) (fun _ => t64))
    have lt := hl (by rw [ev]; decide)
    rcases c with w' | ⟨m, e, L, hm⟩
    · exact absurd w' (by omega)
    have i := inc1 (a := y.1 60 19) (by omega) (by omega)
    have e20 : EN (sI y 60 19 (y.1 60 19 + 1)) := ⟨by show 0 ≤ (y.1 60 19 + 1).toInt; omega, by show (y.1 60 19 + 1).toInt ≤ (y.1 60 18).toInt; omega, b2, e.2.2.2.1, by show (y.1 60 22).toInt ≤ (y.1 60 19 + 1).toInt; have := e.2.2.2.2.1; omega, e.2.2.2.2.2⟩
    have L20 : LN (sI y 60 19 (y.1 60 19 + 1)) m := L
    refine T_b (m_line e20 L20 (by show 2 * (m : Int) ≤ (y.1 60 19 + 1).toInt; omega)) (fun r21 h21 => ?_)
    obtain ⟨p1, p2, p3, p4⟩ := h21
    have p2' : (r21.1 60 18).toInt = (y.1 60 18).toInt := congrArg Int32.toInt p2
    have p3' : (y.1 60 19 + 1).toInt ≤ (r21.1 60 19).toInt ∧ (r21.1 60 19).toInt ≤ (y.1 60 18).toInt := p3
    exact hr r21 0 ⟨rfl, Fr_tr (Fr_sI f rfl) p1, by omega, by omega, by omega, p4.imp id (fun p => ⟨m + 1, p⟩)⟩ (by omega)
  · exact h6.2.2.2.imp id (fun p => ⟨0 + 1, p⟩)
theorem mo_law {y : SS} (h : INV y) : T (f_X12_law (sI y 17 2 0)) (fun s => INV s.2) := by
  have l0 : (0 : Int32).toInt = 0 := rfl
  have hT := INV_RT h
  have fy : Fr wN v0 y (sI y 17 2 0) := Fr_sI (Fr_refl y) rfl
  unfold f_X12_law
  refine T_b (m_readText (q := sI y 17 2 0) (by have a := RT_l0 hT; exact a) (by have a := RT_l120 hT; exact a)) (fun r hr => ?_)
  rcases hr with ⟨a, b, c⟩ | ⟨a, b, c, d⟩
  · exact T_ltn (by omega) (T_some.mpr (INV_wN (Fr_tr fy (Fr_le b (fun k i e => by unfold wN at e; simp only [Bool.or_eq_false_iff] at e; exact e.1) (fun _ h => h))) h (b.1 17 2 rfl) c))
  · refine T_p (by rw [a]; decide) (T_nm (T_some.mpr ?_))
    have f2 : Fr wT v0 y r.2 := Fr_tr (Fr_sI (Fr_refl y) rfl) (Fr_le b (fun k i e => by unfold wT at e; simp only [Bool.or_eq_false_iff] at e; exact e.1) (fun _ h => h))
    have f3 : Fr wT v0 y (sI r.2 60 30 1) := Fr_sI f2 rfl
    have w : RW (sI r.2 60 30 1) := ⟨Or.inr rfl, fun _ => d.1, fun _ => d.2⟩
    exact INV_wT f3 h (b.1 17 2 rfl) c w

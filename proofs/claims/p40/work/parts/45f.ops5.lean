/-! ===== row ===== -/
/-- longs alone are written, of one row -/
def LF (k : Nat) (q q' : SS) : Prop := q'.1 = q.1 ∧ ∀ j, j ≠ k → q'.2 j = q.2 j
theorem LF_refl {k : Nat} (q : SS) : LF k q q := ⟨rfl, fun _ _ => rfl⟩
theorem LF_sL {k i : Nat} {q q' : SS} {x : Int64} (h : LF k q q') : LF k q (sL q' k i x) := ⟨h.1, fun j hj => (sL_ro hj).trans (h.2 j hj)⟩
theorem x_zero {q : SS} {a n : Int32} (ha : 0 ≤ a.toInt ∧ a.toInt < 6) (hn : 0 ≤ n.toInt ∧ n.toInt ≤ 60) : T (b_X7_holdRow_42 q a n 0) (fun r => LF (31 + a.toNatClampNeg) q r ∧ ∀ i : Nat, (i : Int) < n.toInt → r.2 (31 + a.toNatClampNeg) i = 0) := by
  unfold b_X7_holdRow_42
  refine T_fx4 (fun q' l1 l3 l4 => l1 = a ∧ l3 = n ∧ 0 ≤ l4.toInt ∧ l4.toInt ≤ n.toInt ∧ LF (31 + a.toNatClampNeg) q q' ∧ ∀ i : Nat, (i : Int) < l4.toInt → q'.2 (31 + a.toNatClampNeg) i = 0) (fun _ _ _ l4 => (60 - l4.toInt).toNat) ?_ _ _ _ _ _ ⟨rfl, rfl, by decide, hn.1, LF_refl q, fun i hi => absurd hi (by simp only [Int32.reduceToInt]; omega)⟩ (by unfold FU; decide)
  rintro rec q' l1 l3 l4 ⟨rfl, rfl, h0, h1, h2, h3⟩ hr
  refine T_le (fun g => T_some.mpr ⟨h2, fun i hi => h3 i (by omega)⟩) (fun g => T_vp ha.1 ha.2 (T_vp h0 (by omega) (T_nm ?_)))
  have e1 := inc1 (a := l4) (by omega) (by omega)
  have ec := cnI h0
  refine hr _ _ _ _ ⟨rfl, rfl, by omega, by omega, LF_sL h2, fun i hi => ?_⟩ (by omega)
  rw [sL_rd]
  by_cases e : i = l4.toNatClampNeg
  · rw [if_pos ⟨rfl, e⟩]
  · rw [if_neg (fun k => e k.2)]
    exact h3 i (by omega)
theorem m_zero {q : SS} {a : Int32} (ha : 0 ≤ a.toInt ∧ a.toInt < 6) : T (b_X12_row_54 q a (60 * a)) (fun r => r.1 = 1 ∧ LF 91 q r.2 ∧ (∀ i : Nat, 60 * a.toNatClampNeg ≤ i → i < 60 * a.toNatClampNeg + 60 → r.2.2 91 i = 0) ∧ ∀ i : Nat, (i < 60 * a.toNatClampNeg ∨ 60 * a.toNatClampNeg + 60 ≤ i) → r.2.2 91 i = q.2 91 i) := by
  have e60 : (60 : Int32).toInt = 60 := rfl
  have e0 : ((60 : Int32) * a).toInt = 60 * a.toInt := by rw [tmul (by rw [e60]; omega) (by rw [e60]; omega), e60]
  have e2 : ((60 : Int32) * a + 60).toInt = 60 * a.toInt + 60 := by rw [tadd (by omega) (by omega), e0, e60]
  have ea := cnI ha.1
  unfold b_X12_row_54
  refine T_fx3 (fun q' l1 l4 => l1 = a ∧ 60 * a.toInt ≤ l4.toInt ∧ l4.toInt ≤ 60 * a.toInt + 60 ∧ LF 91 q q' ∧ (∀ i : Nat, 60 * a.toNatClampNeg ≤ i → (i : Int) < l4.toInt → q'.2 91 i = 0) ∧ ∀ i : Nat, (i < 60 * a.toNatClampNeg ∨ 60 * a.toNatClampNeg + 60 ≤ i) → q'.2 91 i = q.2 91 i) (fun _ _ l4 => (60 * a.toInt + 60 - l4.toInt).toNat) ?_ _ _ _ _ ⟨rfl, by omega, by omega, LF_refl q, fun i h1 h2 => absurd h2 (by omega), fun _ _ => rfl⟩ (by unfold FU; omega)
  rintro rec q' l1 l4 ⟨rfl, h0, h1, h2, h3, h4⟩ hr
  refine T_le (fun g => T_some.mpr ⟨rfl, h2, fun i k1 k2 => h3 i k1 (by omega), h4⟩) (fun g => T_vp (by omega) (by show l4.toInt < 360; omega) (T_nm ?_))
  have e1 := inc1 (a := l4) (by omega) (by omega)
  have ec := cnI (a := l4) (by omega)
  refine hr _ _ _ ⟨rfl, by omega, by omega, LF_sL h2, fun i k1 k2 => ?_, fun i k => ?_⟩ (by omega)
  · rw [sL_rd]
    by_cases e : i = l4.toNatClampNeg
    · rw [if_pos ⟨rfl, e⟩]
    · rw [if_neg (fun k => e k.2)]
      exact h3 i k1 (by omega)
  · rw [sL_rd, if_neg (fun e => by have := e.2; omega)]
    exact h4 i k
theorem RS_row {q X Y : SS} (h : RS q) {s : Nat} (hs : s < 6) {k n : Int32} (hk : 0 ≤ k.toInt ∧ k.toInt ≤ 4) (hn : 0 ≤ n.toInt ∧ n.toInt ≤ 60)
    (hX : LF (31 + s) (sI (sI q 27 s k) 28 s n) X) (hX0 : ∀ i : Nat, (i : Int) < n.toInt → X.2 (31 + s) i = 0)
    (hY : LF 91 (sI (sI X 89 s (-2 - k)) 90 s n) Y) (hY0 : ∀ i : Nat, 60 * s ≤ i → i < 60 * s + 60 → Y.2 91 i = 0) (hY1 : ∀ i : Nat, (i < 60 * s ∨ 60 * s + 60 ≤ i) → Y.2 91 i = X.2 91 i) : RS Y := by
  have ez : (-2 - k).toInt = -2 - k.toInt := by rw [tsub (by rw [lm2]; omega) (by rw [lm2]; omega), lm2]
  have r27 : Y.1 27 = (sI q 27 s k).1 27 := by rw [hY.1]; show X.1 27 = _; rw [hX.1]; rfl
  have r28 : Y.1 28 = (sI q 28 s n).1 28 := by rw [hY.1]; show X.1 28 = _; rw [hX.1]; rfl
  have r29 : Y.1 29 = q.1 29 := by rw [hY.1]; show X.1 29 = _; rw [hX.1]; rfl
  have x89 : X.1 89 = q.1 89 := by rw [hX.1]; rfl
  have x90 : X.1 90 = q.1 90 := by rw [hX.1]; rfl
  have x91 : X.2 91 = q.2 91 := hX.2 91 (by omega)
  have r89 : ∀ j, Y.1 89 j = if j = s then -2 - k else q.1 89 j := fun j => by
    rw [hY.1, ← x89]; show (if 89 = 90 ∧ j = s then n else if 89 = 89 ∧ j = s then -2 - k else X.1 89 j) = _; simp
  have r90 : ∀ j, Y.1 90 j = if j = s then n else q.1 90 j := fun j => by
    rw [hY.1, ← x90]; show (if 90 = 90 ∧ j = s then n else if 90 = 89 ∧ j = s then -2 - k else X.1 90 j) = _; simp
  have r52 : Y.1 60 52 = q.1 60 52 := by rw [hY.1]; show X.1 60 52 = _; rw [hX.1]; rfl
  obtain ⟨h1, h2, h3, h4⟩ := h
  unfold RS
  refine ⟨?_, fun t ht => ?_, fun t ht => ?_, fun t ht h0 i hi => ?_⟩
  · funext j
    rw [r28, r90 j, sI_rd, congrFun h1 j]
    simp
  · rw [r90]
    by_cases e : t = s
    · rw [if_pos e]; exact hn
    · rw [if_neg e]; exact h2 t ht
  · have k3 := h3 t ht
    rw [r27, r29, r89, r52, sI_rd]
    by_cases e : t = s
    · rw [if_pos ⟨rfl, e⟩, if_pos e]
      exact Or.inr (Or.inr ⟨hk.1, hk.2, ez⟩)
    · rw [if_neg (fun g => e g.2), if_neg e]
      exact k3
  · rw [r27, sI_rd] at h0
    rw [r90] at hi
    have l31 : Y.2 (31 + t) = X.2 (31 + t) := (hY.2 _ (by omega))
    rw [l31]
    by_cases e : t = s
    · subst e
      rw [if_pos rfl] at hi
      rw [hX0 i hi, hY0 _ (by omega) (by omega)]
    · rw [if_neg (fun g => e g.2)] at h0
      rw [if_neg e] at hi
      have := h2 t ht
      rw [hX.2 _ (by omega), hY1 _ (by omega), x91]
      exact h4 t ht h0 i hi
theorem op_row {q : SS} (h : INV q) (a b n : Int32) : T (f_X11_row q a b n) (fun r => T (f_X12_row r.2 a b n) (fun s => INV s.2 ∧ r.1 = s.1)) := by
  have m1 : ∀ r, f_X12_in r b 0 4 = some (bI (0 ≤ b.toInt ∧ b.toInt ≤ 4)) := fun r => m_in r b 0 4
  unfold f_X11_row
  refine T_rw (x_isShelf q a) ?_
  by_cases c : 0 ≤ a.toInt ∧ a.toInt < 6
  · have hs := cnL c.1 c.2
    refine T_bp c (T_rw (x_isSort q b) ?_)
    by_cases d : 0 ≤ b.toInt ∧ b.toInt ≤ 4
    · refine T_bp d (T_le (fun g => T_le (fun g0 => ?_) (fun g0 => T_some.mpr ?_)) (fun g => T_some.mpr ?_))
      · have hn : 0 ≤ n.toInt ∧ n.toInt ≤ 60 := ⟨g0, g⟩
        unfold f_X7_holdRow
        refine T_b (T_rw (x_isShelf q a) (T_bp c (T_rw (x_isSort q b) (T_bp d (T_ltn g0 (T_ltn g (T_vp c.1 c.2 (T_nm (T_vp c.1 c.2 (T_nm (x_zero c hn))))))))))) (fun X hX => ?_)
        refine T_some.mpr ?_
        unfold f_X12_row
        refine T_rw (m_isShelf _ a) (T_bp c (T_rw (m1 _) (T_bp d (T_lep g (T_lep g0 (T_vp c.1 c.2 (T_nm (T_vp c.1 c.2 (T_nm (T_nm (T_mono (m_zero c) ?_)))))))))))
        rintro ⟨v, Y⟩ ⟨hv, hY, hY0, hY1⟩
        refine ⟨?_, hv.symm⟩
        have i1 : Y.1 = (sI (sI X 89 a.toNatClampNeg (-2 - b)) 90 a.toNatClampNeg n).1 := hY.1
        have i2 : ∀ k, k ≠ 27 → k ≠ 28 → k ≠ 89 → k ≠ 90 → Y.1 k = q.1 k := fun k k1 k2 k3 k4 => by
          rw [i1, sI_ro k4, sI_ro k3, hX.1.1, sI_ro k2, sI_ro k1]
        have f := fun (k : Nat) (e : (k == 27 || k == 28 || k == 89 || k == 90) = false) => i2 k (by rintro rfl; cases e) (by rintro rfl; cases e) (by rintro rfl; cases e) (by rintro rfl; cases e)
        exact ⟨RY_fr (q := q) (f 3 rfl) (f 4 rfl) (f 5 rfl) (f 6 rfl) (f 7 rfl) (f 8 rfl) (f 9 rfl) (f 61 rfl) (f 62 rfl) (f 63 rfl) (f 64 rfl) (f 65 rfl) (f 66 rfl) (f 67 rfl) (congrFun (f 1 rfl) 1) (congrFun (f 1 rfl) 2) (congrFun (f 10 rfl) 0) (congrFun (f 11 rfl) 0) (congrFun (f 60 rfl) 1) (congrFun (f 60 rfl) 6) (congrFun (f 68 rfl) 0) (congrFun (f 68 rfl) 1) (INV_RY h), RC_fr (q := q) (f 53 rfl) (f 54 rfl) (f 55 rfl) (f 56 rfl) (f 69 rfl) (f 70 rfl) (f 71 rfl) (f 72 rfl) (congrFun (f 52 rfl) 5) (congrFun (f 52 rfl) 6) (congrFun (f 60 rfl) 1) (congrFun (f 60 rfl) 6) (congrFun (f 60 rfl) 11) (congrFun (f 60 rfl) 12) (INV_RC h), RD_fr (q := q) (f 48 rfl) (f 49 rfl) (f 50 rfl) (f 51 rfl) (f 83 rfl) (f 84 rfl) (f 85 rfl) (f 86 rfl) (congrFun (f 47 rfl) 5) (congrFun (f 47 rfl) 6) (congrFun (f 47 rfl) 7) (congrFun (f 60 rfl) 1) (congrFun (f 60 rfl) 6) (congrFun (f 60 rfl) 46) (congrFun (f 60 rfl) 47) (congrFun (f 60 rfl) 48) (INV_RD h), RT_fr (q := q) (f 18 rfl) (f 73 rfl) (congrFun (f 17 rfl) 2) (congrFun (f 60 rfl) 18) (INV_RT h), RH_fr (q := q) (f 58 rfl) (f 59 rfl) (f 87 rfl) (f 88 rfl) (congrFun (f 57 rfl) 2) (congrFun (f 57 rfl) 3) (congrFun (f 60 rfl) 52) (congrFun (f 60 rfl) 54) (INV_RH h), RS_row (INV_RS h) hs d hn hX.1 hX.2 hY hY0 hY1, RW_fr (q := q) (f 74 rfl) (f 75 rfl) (f 77 rfl) (f 78 rfl) (congrFun (f 60 rfl) 30) (congrFun (f 76 rfl) 0) (INV_RW h), RJ_fr (q := q) (f 81 rfl) (congrFun (f 37 rfl) 3) (INV_RJ h)⟩
      · unfold f_X12_row
        exact T_rw (m_isShelf _ a) (T_bp c (T_rw (m1 _) (T_bp d (T_lep g (T_len g0 (T_some.mpr ⟨h, rfl⟩))))))
      · unfold f_X12_row
        exact T_rw (m_isShelf _ a) (T_bp c (T_rw (m1 _) (T_bp d (T_len g (T_some.mpr ⟨h, rfl⟩)))))
    · refine T_bn d (T_some.mpr ?_)
      unfold f_X12_row
      exact T_rw (m_isShelf _ a) (T_bp c (T_rw (m1 _) (T_bn d (T_some.mpr ⟨h, rfl⟩))))
  · refine T_bn c (T_some.mpr ?_)
    unfold f_X12_row
    exact T_rw (m_isShelf _ a) (T_bn c (T_some.mpr ⟨h, rfl⟩))

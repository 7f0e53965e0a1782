/-! ===== mend ===== -/
theorem sR_ro {q : SS} {o a : Nat} {f : Nat → Int32} (h : a ≠ o) : (sR q o f).1 a = q.1 a := by
  funext j
  rw [sR_rd, if_neg h]
/-- a row of changes with one more, the oldest gone if it was full -/
def nrow (f : Nat → Int32) (full : Bool) (d : Nat) (x : Int32) (j : Nat) : Int32 := if j = d then x else if full = true ∧ j < 39 then f (j + 1) else f j
/-- full or not, where the new one lies -/
def fd (D : Int) (full : Bool) (d : Nat) : Prop := (full = true ∧ D = 40 ∧ d = 39) ∨ (full = false ∧ D = (d : Int) ∧ d < 40)
theorem x_addC {q : SS} {D : Int32} (h5 : q.1 52 5 = D) {full : Bool} {d : Nat} (hd : fd D.toInt full d) (w n a b : Int32) : T (f_X0_add q w n a b) (fun r => r.2 = q.2 ∧ (∀ k, k < 52 ∨ 56 < k → r.1 k = q.1 k) ∧ r.1 52 5 = Int32.ofNat (d + 1) ∧ r.1 52 6 = 0 ∧ (∀ j, r.1 53 j = nrow (q.1 53) full d w j) ∧ (∀ j, r.1 54 j = nrow (q.1 54) full d n j) ∧ (∀ j, r.1 55 j = nrow (q.1 55) full d a j) ∧ (∀ j, r.1 56 j = nrow (q.1 56) full d b j)) := by
  have fin : ∀ (z : SS) (E : Int32), E.toInt = (d : Int) → d < 40 → z.1 52 5 = E → z.2 = q.2 → (∀ k, k < 52 ∨ 56 < k → z.1 k = q.1 k) → (∀ k, 53 ≤ k ∧ k ≤ 56 → ∀ j, j ≠ d → z.1 k j = if full = true ∧ j < 39 then q.1 k (j + 1) else q.1 k j) → T (b_X0_add_13 z w n a b) (fun r => r.2 = q.2 ∧ (∀ k, k < 52 ∨ 56 < k → r.1 k = q.1 k) ∧ r.1 52 5 = Int32.ofNat (d + 1) ∧ r.1 52 6 = 0 ∧ (∀ j, r.1 53 j = nrow (q.1 53) full d w j) ∧ (∀ j, r.1 54 j = nrow (q.1 54) full d n j) ∧ (∀ j, r.1 55 j = nrow (q.1 55) full d a j) ∧ (∀ j, r.1 56 j = nrow (q.1 56) full d b j)) := by
    intro z E hE hd40 z5 z2 zo zr
    have cE : E.toNatClampNeg = d := by
      simp only [cn_eq, hE]
      omega
    have v : vin E 40 := ⟨by omega, by show E.toInt < 40; omega⟩
    have eN : E + 1 = Int32.ofNat (d + 1) := by
      have e1 : E = Int32.ofNat d := by
        rw [← cE]
        exact (Int32.ofNat_toNatClampNeg E (Int32.le_iff_toInt_le.mpr (by show (0 : Int) ≤ E.toInt; omega))).symm
      rw [e1]
      exact (Int32.ofNat_add d 1).symm
    unfold b_X0_add_13
    rw [z5]
    show T (if vin E 40 then (if vin (z.1 52 5) 40 then (if vin (z.1 52 5) 40 then (if vin (z.1 52 5) 40 then some (sI (sI (sI (sI (sI (sI z 53 E.toNatClampNeg w) 54 (z.1 52 5).toNatClampNeg n) 55 (z.1 52 5).toNatClampNeg a) 56 (z.1 52 5).toNatClampNeg b) 52 5 (z.1 52 5 + 1)) 52 6 0) else none) else none) else none) else none) _
    rw [z5, if_pos v, if_pos v, if_pos v, if_pos v, cE, eN]
    refine T_some.mpr ⟨z2, fun k hk => ?_, rfl, rfl, fun j => ?_, fun j => ?_, fun j => ?_, fun j => ?_⟩
    · rw [sI_ro (by omega), sI_ro (by omega), sI_ro (by omega), sI_ro (by omega), sI_ro (by omega), sI_ro (by omega)]
      exact zo k hk
    · have r := zr 53 (by decide) j
      unfold nrow
      simp only [sI_rd]
      by_cases e : j = d
      · simp [e]
      · rw [if_neg e, ← r e]
        simp [e]
    · have r := zr 54 (by decide) j
      unfold nrow
      simp only [sI_rd]
      by_cases e : j = d
      · simp [e]
      · rw [if_neg e, ← r e]
        simp [e]
    · have r := zr 55 (by decide) j
      unfold nrow
      simp only [sI_rd]
      by_cases e : j = d
      · simp [e]
      · rw [if_neg e, ← r e]
        simp [e]
    · have r := zr 56 (by decide) j
      unfold nrow
      simp only [sI_rd]
      by_cases e : j = d
      · simp [e]
      · rw [if_neg e, ← r e]
        simp [e]
  unfold f_X0_add
  rw [h5]
  rcases hd with ⟨rfl, hD, rfl⟩ | ⟨rfl, hD, hd⟩
  · refine T_ltn (by show (40 : Int) ≤ D.toInt; omega) ?_
    unfold f_X0_forgetOldest
    have c : cpok 40 40 1 0 39 := by decide
    refine T_b (T_p c (T_nm (T_p c (T_nm (T_p c (T_nm (T_p c (T_nm (T_nm (T_some.mpr (Eq.refl _))))))))))) (fun z hz => ?_)
    subst hz
    refine fin _ 39 (by decide) (by decide) rfl rfl (fun k hk => ?_) (fun k hk j hj => ?_)
    · funext j
      rw [sI_ro (by omega), sR_rd, if_neg (by omega), sR_rd, if_neg (by omega), sR_rd, if_neg (by omega), sR_rd, if_neg (by omega)]
    · have cp : ∀ f : Nat → Int32, va_cpy f f 1 0 39 j = if j < 39 then f (j + 1) else f j := by
        intro f
        show (if 0 ≤ j ∧ j < 0 + 39 then f (1 + (j - 0)) else f j) = _
        by_cases e : j < 39
        · rw [if_pos (by omega), if_pos e]
          exact congrArg f (by omega)
        · rw [if_neg (by omega), if_neg e]
      rw [sI_ro (by omega)]
      have hc : k = 53 ∨ k = 54 ∨ k = 55 ∨ k = 56 := by omega
      rcases hc with rfl | rfl | rfl | rfl
      · simp [sR_rd, sR_ro, cp]
      · simp [sR_rd, sR_ro, cp]
      · simp [sR_rd, sR_ro, cp]
      · simp [sR_rd, sR_ro, cp]
  · refine T_ltp (by show D.toInt < (40 : Int); omega) ?_
    exact fin q D hD hd h5 rfl (fun _ _ => rfl) (fun k hk j hj => by simp)
theorem m_addC {q : SS} {D : Int32} (h5 : q.1 60 11 = D) {full : Bool} {d : Nat} (hd : fd D.toInt full d) {P K : Int} (hP : P ≤ 6) (hK : K ≤ 12) {w n was v : Int32} (ok : okN P K w.toInt n.toInt) (hv : f_X12_valueAt q w n = some was) (hne : was ≠ v) : T (f_X12_changes q w n v) (fun r => r.1 = was ∧ ∃ y : SS, r.2 = LAY y w n v ∧ y.2 = q.2 ∧ (∀ k, k ≠ 60 → (k < 69 ∨ 72 < k) → y.1 k = q.1 k) ∧ (∀ i, i ≠ 11 → i ≠ 12 → y.1 60 i = q.1 60 i) ∧ y.1 60 11 = Int32.ofNat (d + 1) ∧ y.1 60 12 = 0 ∧ (∀ j, y.1 69 j = nrow (q.1 69) full d w j) ∧ (∀ j, y.1 70 j = nrow (q.1 70) full d n j) ∧ (∀ j, y.1 71 j = nrow (q.1 71) full d was j) ∧ (∀ j, y.1 72 j = nrow (q.1 72) full d v j)) := by
  have fin : ∀ (z : SS) (E : Int32), E.toInt = (d : Int) → d < 40 → z.1 60 11 = E → z.1 60 12 = 0 → z.2 = q.2 → (∀ k, k ≠ 60 → (k < 69 ∨ 72 < k) → z.1 k = q.1 k) → (∀ i, i ≠ 11 → i ≠ 12 → z.1 60 i = q.1 60 i) → (∀ k, 69 ≤ k ∧ k ≤ 72 → ∀ j, j ≠ d → z.1 k j = if full = true ∧ j < 39 then q.1 k (j + 1) else q.1 k j) → T (b_X12_changes_121 z w n v was) (fun r => r.1 = was ∧ ∃ y : SS, r.2 = LAY y w n v ∧ y.2 = q.2 ∧ (∀ k, k ≠ 60 → (k < 69 ∨ 72 < k) → y.1 k = q.1 k) ∧ (∀ i, i ≠ 11 → i ≠ 12 → y.1 60 i = q.1 60 i) ∧ y.1 60 11 = Int32.ofNat (d + 1) ∧ y.1 60 12 = 0 ∧ (∀ j, y.1 69 j = nrow (q.1 69) full d w j) ∧ (∀ j, y.1 70 j = nrow (q.1 70) full d n j) ∧ (∀ j, y.1 71 j = nrow (q.1 71) full d was j) ∧ (∀ j, y.1 72 j = nrow (q.1 72) full d v j)) := by
    intro z E hE hd40 z5 z6 z2 zo z60 zr
    have cE : E.toNatClampNeg = d := by
      simp only [cn_eq, hE]
      omega
    have vv : vin E 40 := ⟨by omega, by show E.toInt < 40; omega⟩
    have eN : E + 1 = Int32.ofNat (d + 1) := by
      have e1 : E = Int32.ofNat d := by
        rw [← cE]
        exact (Int32.ofNat_toNatClampNeg E (Int32.le_iff_toInt_le.mpr (by show (0 : Int) ≤ E.toInt; omega))).symm
      rw [e1]
      exact (Int32.ofNat_add d 1).symm
    unfold b_X12_changes_121
    show T (if vin (z.1 60 11) 40 then (if vin (z.1 60 11) 40 then (if vin (z.1 60 11) 40 then (if vin (z.1 60 11) 40 then (f_X12_lays (sI (sI (sI (sI (sI z 69 (z.1 60 11).toNatClampNeg w) 70 (z.1 60 11).toNatClampNeg n) 71 (z.1 60 11).toNatClampNeg was) 72 (z.1 60 11).toNatClampNeg v) 60 11 (z.1 60 11 + 1)) w n v).bind fun r9 => some (was, r9) else none) else none) else none) else none) _
    rw [z5, if_pos vv, if_pos vv, if_pos vv, if_pos vv, cE, eN]
    refine T_rw (m_lays hP hK v ok) (T_some.mpr ⟨rfl, _, rfl, z2, fun k hk hk2 => ?_, fun i hi hi2 => ?_, rfl, z6, fun j => ?_, fun j => ?_, fun j => ?_, fun j => ?_⟩)
    · rw [sI_ro (by omega), sI_ro (by omega), sI_ro (by omega), sI_ro (by omega), sI_ro (by omega)]
      exact zo k hk hk2
    · rw [sI_rd, if_neg (fun x => hi x.2), sI_ro (by decide), sI_ro (by decide), sI_ro (by decide), sI_ro (by decide)]
      exact z60 i hi hi2
    · have r := zr 69 (by decide) j
      unfold nrow
      simp only [sI_rd]
      by_cases e : j = d
      · simp [e]
      · rw [if_neg e, ← r e]
        simp [e]
    · have r := zr 70 (by decide) j
      unfold nrow
      simp only [sI_rd]
      by_cases e : j = d
      · simp [e]
      · rw [if_neg e, ← r e]
        simp [e]
    · have r := zr 71 (by decide) j
      unfold nrow
      simp only [sI_rd]
      by_cases e : j = d
      · simp [e]
      · rw [if_neg e, ← r e]
        simp [e]
    · have r := zr 72 (by decide) j
      unfold nrow
      simp only [sI_rd]
      by_cases e : j = d
      · simp [e]
      · rw [if_neg e, ← r e]
        simp [e]
  unfold f_X12_changes
  refine T_rw hv (T_q hne (T_nm ?_))
  rcases hd with ⟨rfl, hD, rfl⟩ | ⟨rfl, hD, hd⟩
  · have e40 : q.1 60 11 = 40 := by rw [h5]; exact Int32.toInt_inj.mp hD
    refine T_p (by show q.1 60 11 = 40; exact e40) ?_
    unfold b_X12_changes_34
    refine T_fx6 (fun z l1 l2 l3 l4 l5 => l1 = w ∧ l2 = n ∧ l3 = v ∧ l4 = was ∧ 1 ≤ l5.toInt ∧ l5.toInt ≤ 40 ∧ z.1 60 11 = 40 ∧ z.1 60 12 = 0 ∧ z.2 = q.2 ∧ (∀ k, k ≠ 60 → (k < 69 ∨ 72 < k) → z.1 k = q.1 k) ∧ (∀ i, i ≠ 11 → i ≠ 12 → z.1 60 i = q.1 60 i) ∧ (∀ k, 69 ≤ k ∧ k ≤ 72 → ∀ j : Nat, z.1 k j = if (j : Int) + 1 < l5.toInt then q.1 k (j + 1) else q.1 k j)) (fun _ _ _ _ _ l5 => (40 - l5.toInt).toNat) ?_ _ _ _ _ _ _ _ ⟨rfl, rfl, rfl, rfl, by decide, by decide, e40, rfl, rfl, fun k hk _ => sI_ro hk, fun i _ hi => by rw [sI_rd, if_neg (fun x => hi x.2)], fun k hk j => ?_⟩ (by unfold FU; decide)
    · rintro rec z l1 l2 l3 l4 l5 ⟨rfl, rfl, rfl, rfl, g0, g1, z11, z12, z2, zo, z60, zr⟩ hr
      have l40 : (40 : Int32).toInt = 40 := rfl
      refine T_le (fun g => T_nm ?_) (fun g => ?_)
      · have e5 : l5.toInt = 40 := by omega
        refine fin _ 39 (by decide) (by decide) (by rw [rds, z11]; rfl) (by rw [sI_rd, if_neg (by decide)]; exact z12) z2 (fun k hk hk2 => (sI_ro hk).trans (zo k hk hk2)) (fun i hi hi2 => by rw [sI_rd, if_neg (fun x => hi x.2)]; exact z60 i hi hi2) (fun k hk j hj => ?_)
        rw [sI_ro (by omega), zr k hk j, e5]
        by_cases e : j < 39
        · rw [if_pos (by omega), if_pos ⟨rfl, e⟩]
        · rw [if_neg (by omega), if_neg (fun x => e x.2)]
      · have e1 := inc1 (a := l5) (by omega) (by omega)
        have e2 := dec1 (a := l5) (by omega)
        have c5 := cnI (a := l5) (by omega)
        have c6 := cnI (a := l5 - 1) (by omega)
        have va : vin l5 40 := ⟨by omega, by show l5.toInt < 40; omega⟩
        have vb : vin (l5 - 1) 40 := ⟨by omega, by show (l5 - 1).toInt < 40; omega⟩
        refine T_p va (T_p vb (T_nm (T_p va (T_p vb (T_nm (T_p va (T_p vb (T_nm (T_p va (T_p vb (T_nm (hr _ _ _ _ _ _ ⟨rfl, rfl, rfl, rfl, by omega, by omega, z11, z12, z2, fun k hk hk2 => ?_, fun i hi hi2 => z60 i hi hi2, fun k hk j => ?_⟩ (by omega)))))))))))))
        · rw [sI_ro (by omega), sI_ro (by omega), sI_ro (by omega), sI_ro (by omega)]
          exact zo k hk hk2
        · have r1 := zr k hk j
          have r2 := zr k hk l5.toNatClampNeg
          rw [if_neg (by omega)] at r2
          have key : (if j = (l5 - 1).toNatClampNeg then z.1 k l5.toNatClampNeg else z.1 k j) = if (j : Int) + 1 < (l5 + 1).toInt then q.1 k (j + 1) else q.1 k j := by
            by_cases e : j = (l5 - 1).toNatClampNeg
            · rw [if_pos e, if_pos (by omega), r2]
              exact congrArg (q.1 k) (by omega)
            · rw [if_neg e, r1]
              by_cases e3 : (j : Int) + 1 < l5.toInt
              · rw [if_pos e3, if_pos (by omega)]
              · rw [if_neg e3, if_neg (by omega)]
          rw [← key]
          have hc : k = 69 ∨ k = 70 ∨ k = 71 ∨ k = 72 := by omega
          rcases hc with rfl | rfl | rfl | rfl
          · simp [sI_rd]
          · simp [sI_rd]
          · simp [sI_rd]
          · simp [sI_rd]
    · have l1 : (1 : Int32).toInt = 1 := rfl
      rw [sI_ro (by omega), if_neg (by omega)]
  · refine T_q (by show ¬ q.1 60 11 = 40; rw [h5]; intro k; rw [k] at hD; have : (40 : Int32).toInt = 40 := rfl; omega) ?_
    exact fin _ D hD hd h5 rfl rfl (fun k hk _ => sI_ro hk) (fun i _ hi => by rw [sI_rd, if_neg (fun x => hi x.2)]) (fun k hk j hj => by rw [sI_ro (by omega)]; simp)
theorem RC_new {q s : SS} (h : RC q) {full : Bool} {d : Nat} (hd : fd (q.1 60 11).toInt full d) {w n a b : Int32} (ok : okN (q.1 60 1).toInt (q.1 60 6).toInt w.toInt n.toInt) (oa : okV (q.1 60 1).toInt w.toInt a.toInt) (ob : okV (q.1 60 1).toInt w.toInt b.toInt)
    (p1 : s.1 60 1 = q.1 60 1) (p6 : s.1 60 6 = q.1 60 6) (e1 : s.1 52 5 = s.1 60 11) (e2 : s.1 52 6 = s.1 60 12) (d1 : s.1 60 11 = Int32.ofNat (d + 1)) (u1 : s.1 60 12 = 0)
    (r53 : ∀ j, s.1 53 j = nrow (q.1 53) full d w j) (r54 : ∀ j, s.1 54 j = nrow (q.1 54) full d n j) (r55 : ∀ j, s.1 55 j = nrow (q.1 55) full d a j) (r56 : ∀ j, s.1 56 j = nrow (q.1 56) full d b j)
    (r69 : ∀ j, s.1 69 j = nrow (q.1 69) full d w j) (r70 : ∀ j, s.1 70 j = nrow (q.1 70) full d n j) (r71 : ∀ j, s.1 71 j = nrow (q.1 71) full d a j) (r72 : ∀ j, s.1 72 j = nrow (q.1 72) full d b j) : RC s := by
  obtain ⟨h1, h2, h3, h4, h5, h6, h7, h8, h9, h10⟩ := h
  have hd40 : d < 40 := by
    rcases hd with ⟨_, _, rfl⟩ | ⟨_, _, k⟩
    · decide
    · exact k
  have ed : (Int32.ofNat (d + 1)).toInt = (d : Int) + 1 := by
    rw [Int32.toInt_ofNat_of_lt (by omega)]
    omega
  have l0 : (0 : Int32).toInt = 0 := rfl
  unfold RC
  rw [p1, p6, e1, e2, d1, u1, ed, l0]
  refine ⟨rfl, rfl, by omega, by omega, by omega, funext fun j => ?_, funext fun j => ?_, funext fun j => ?_, funext fun j => ?_, fun j hj => ?_⟩
  · rw [r53, r69, h6]
  · rw [r54, r70, h7]
  · rw [r55, r71, h8]
  · rw [r56, r72, h9]
  · rw [r69, r70, r71, r72]
    unfold nrow
    by_cases e : j = d
    · simp only [if_pos e]
      exact ⟨ok, oa, ob⟩
    · simp only [if_neg e]
      rcases hd with ⟨rfl, hD, rfl⟩ | ⟨rfl, hD, _⟩
      · have hj2 : j < 39 := by omega
        simp only [hj2, and_self, if_true]
        exact h10 (j + 1) (by omega)
      · simp only [Bool.false_eq_true, false_and, if_false]
        exact h10 j (by omega)
theorem op_mend {q : SS} (h : INV q) (n w v : Int32) : T (f_X11_mend q n w v) (fun r => T (f_X12_mend r.2 n w v) (fun s => INV s.2 ∧ r.1 = s.1)) := by
  have hY := INV_RY h
  have hC := INV_RC h
  have p0 := RY_p0 hY
  have k0 := RY_k0 hY
  unfold f_X11_mend
  refine T_rw (x_hasN hY w n) (T_bi (fun c => T_some.mpr ?_) (fun ok => ?_))
  · unfold f_X12_mend
    exact T_rw (m_isPlace p0 k0 n w) (T_bn c (T_some.mpr ⟨h, rfl⟩))
  · have w0 : 0 ≤ w.toInt ∧ w.toInt ≤ 8 := by omega
    refine T_rw (x_mayBe w v w0.1 w0.2) ?_
    rw [RY_p hY]
    refine T_bi (fun c => T_some.mpr ?_) (fun ov => ?_)
    · unfold f_X12_mend
      exact T_rw (m_isPlace p0 k0 n w) (T_bp ok (T_rw (m_mayHave p0 w v w0.1 w0.2) (T_bn c (T_some.mpr ⟨h, rfl⟩))))
    · obtain ⟨was, g1, g2, owas⟩ := gv hY ok
      refine T_rw g1 ?_
      by_cases e : was = v
      · refine T_p e (T_some.mpr ?_)
        unfold f_X12_mend f_X12_changes
        exact T_rw (m_isPlace p0 k0 n w) (T_bp ok (T_rw (m_mayHave p0 w v w0.1 w0.2) (T_bp ov (T_b (T_rw g2 (T_p e (T_some.mpr (Eq.refl _)))) (fun r hr => by subst hr; exact T_some.mpr ⟨h, rfl⟩)))))
      · refine T_q e ?_
        have d0 := RC_d0 hC
        have du := RC_du hC
        have u0 := RC_u0 hC
        obtain ⟨full, d, hd⟩ : ∃ full d, fd (q.1 60 11).toInt full d := by
          by_cases e40 : (q.1 60 11).toInt = 40
          · exact ⟨true, 39, Or.inl ⟨rfl, e40, rfl⟩⟩
          · exact ⟨false, (q.1 60 11).toNatClampNeg, Or.inr ⟨rfl, (cnI d0).symm, by have := cnI d0; omega⟩⟩
        refine T_b (x_addC (RC_done hC) hd w n was v) (fun r hr => ?_)
        obtain ⟨r2, ro, r5, r6, r53, r54, r55, r56⟩ := hr
        have cw := cnI w0.1
        have r1 : r.1 1 = q.1 1 := ro 1 (by decide)
        have st : f_X10_set r w n v = some (sI r (3 + w.toNatClampNeg) n.toNatClampNeg v) := by
          rw [x_set (by rw [r1, RY_p hY]; exact RY_p6 hY) (by rw [r1, RY_k hY]; exact RY_k12 hY) w n v, r1, RY_p hY, RY_k hY, if_pos ok]
        refine T_rw st (T_some.mpr ?_)
        have z60 : (sI r (3 + w.toNatClampNeg) n.toNatClampNeg v).1 60 = q.1 60 := by rw [sI_ro (by omega), ro 60 (by decide)]
        have zk : ∀ k, 60 ≤ k → (sI r (3 + w.toNatClampNeg) n.toNatClampNeg v).1 k = q.1 k := fun k hk => by rw [sI_ro (by omega), ro k (by omega)]
        have zl : ∀ k, 52 ≤ k → k ≤ 56 → (sI r (3 + w.toNatClampNeg) n.toNatClampNeg v).1 k = r.1 k := fun k hk _ => sI_ro (by omega)
        have zf : Fr wC v0 (sI q (3 + w.toNatClampNeg) n.toNatClampNeg v) (sI r (3 + w.toNatClampNeg) n.toNatClampNeg v) := by
          refine Fr_sI2 ⟨fun k i ek => ?_, fun k _ => by rw [r2]⟩
          rw [ro k]
          by_cases hk : 52 ≤ k ∧ k ≤ 56
          · rw [wC_r (Or.inl hk)] at ek
            cases ek
          · omega
        generalize hz : sI r (3 + w.toNatClampNeg) n.toNatClampNeg v = z at *
        unfold f_X12_mend
        refine T_rw (m_isPlace (by rw [z60]; exact p0) (by rw [z60]; exact k0) n w) ?_
        rw [z60]
        refine T_bp ok (T_rw (m_mayHave (by rw [z60]; exact p0) w v w0.1 w0.2) ?_)
        rw [z60]
        have gz : f_X12_valueAt z w n = some was := by
          rw [← g2]
          unfold f_X12_valueAt
          rw [zk 61 (by decide), zk 62 (by decide), zk 63 (by decide), zk 64 (by decide), zk 65 (by decide), zk 66 (by decide), zk 67 (by decide), zk 68 (by decide)]
        refine T_bp ov (T_b (m_addC (D := q.1 60 11) (by rw [z60]) hd (RY_p6 hY) (RY_k12 hY) ok gz e) (fun s hs => T_some.mpr ?_))
        obtain ⟨s1, y, s2, y2, yo, y60, y11, y12, y69, y70, y71, y72⟩ := hs
        refine ⟨?_, s1.symm⟩
        show INV s.2
        rw [s2]
        have fy : Fr wC v0 z y := by
          refine ⟨fun k i ek => ?_, fun k _ => by rw [y2]⟩
          by_cases hk : k = 60
          · subst hk
            refine y60 i ?_ ?_
            · rintro rfl
              exact absurd ek (by decide)
            · rintro rfl
              exact absurd ek (by decide)
          · rw [yo k hk]
            by_cases hk : 69 ≤ k ∧ k ≤ 72
            · rw [wC_r (Or.inr hk)] at ek
              cases ek
            · omega
        refine INV_set h ok ov (Fr_LAY2 (Fr_tr zf fy)) (RC_new hC hd ok owas ov ?_ ?_ ?_ ?_ ?_ ?_ (fun j => ?_) (fun j => ?_) (fun j => ?_) (fun j => ?_) (fun j => ?_) (fun j => ?_) (fun j => ?_) (fun j => ?_))
        · rw [LAY_r w0.1 w0.2 (by omega), y60 1 (by decide) (by decide), z60]
        · rw [LAY_r w0.1 w0.2 (by omega), y60 6 (by decide) (by decide), z60]
        · rw [LAY_r w0.1 w0.2 (by omega), LAY_r w0.1 w0.2 (by omega), y11, yo 52 (by decide) (by decide), zl 52 (by decide) (by decide), r5]
        · rw [LAY_r w0.1 w0.2 (by omega), LAY_r w0.1 w0.2 (by omega), y12, yo 52 (by decide) (by decide), zl 52 (by decide) (by decide), r6]
        · rw [LAY_r w0.1 w0.2 (by omega), y11]
        · rw [LAY_r w0.1 w0.2 (by omega), y12]
        · rw [LAY_r w0.1 w0.2 (by omega), yo 53 (by decide) (by decide), zl 53 (by decide) (by decide), r53]
        · rw [LAY_r w0.1 w0.2 (by omega), yo 54 (by decide) (by decide), zl 54 (by decide) (by decide), r54]
        · rw [LAY_r w0.1 w0.2 (by omega), yo 55 (by decide) (by decide), zl 55 (by decide) (by decide), r55]
        · rw [LAY_r w0.1 w0.2 (by omega), yo 56 (by decide) (by decide), zl 56 (by decide) (by decide), r56]
        · rw [LAY_r w0.1 w0.2 (by omega), y69, zk 69 (by decide)]
        · rw [LAY_r w0.1 w0.2 (by omega), y70, zk 70 (by decide)]
        · rw [LAY_r w0.1 w0.2 (by omega), y71, zk 71 (by decide)]
        · rw [LAY_r w0.1 w0.2 (by omega), y72, zk 72 (by decide)]

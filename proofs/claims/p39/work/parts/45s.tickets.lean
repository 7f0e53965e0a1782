/-! ===== tickets from a row ===== -/
def VT (q : SS) (E : Nat → Int32) (i : Nat) : Nat → SS
  | 0 => q
  | k + 1 => mAT (xAT (VT q E i k) (E (i + 3 * k)) (E (i + 3 * k + 1)) (E (i + 3 * k + 2))) (E (i + 3 * k)) (E (i + 3 * k + 1)) (E (i + 3 * k + 2))
/-- the k-th three comes -/
def okT (q : SS) (E : Nat → Int32) (n : Int) (i k : Nat) : Prop := ((i + 3 * k + 3 : Nat) : Int) ≤ n ∧ (0 ≤ (E (i + 3 * k)).toInt ∧ (E (i + 3 * k)).toInt < (q.1 60 1).toInt) ∧ (0 ≤ (E (i + 3 * k + 1)).toInt ∧ (E (i + 3 * k + 1)).toInt ≤ 1) ∧ (0 ≤ (E (i + 3 * k + 2)).toInt ∧ (E (i + 3 * k + 2)).toInt ≤ 4) ∧ (q.1 60 6).toInt + (k : Int) < 12
theorem VT_o (q : SS) (E : Nat → Int32) (i : Nat) : ∀ k, (VT q E i k).2 = q.2 ∧ (∀ z, z ≠ 1 → z ≠ 7 → z ≠ 8 → z ≠ 9 → z ≠ 60 → z ≠ 65 → z ≠ 66 → z ≠ 67 → (VT q E i k).1 z = q.1 z) ∧ (VT q E i k).1 1 1 = q.1 1 1 ∧ (∀ j, j ≠ 6 → (VT q E i k).1 60 j = q.1 60 j)
  | 0 => ⟨rfl, fun _ _ _ _ _ _ _ _ _ => rfl, rfl, fun _ _ => rfl⟩
  | k + 1 => by
    obtain ⟨h1, h2, h3, h4⟩ := VT_o q E i k
    refine ⟨h1, fun z a b c d e f g h => ?_, h3, fun j hj => ?_⟩
    · show (mAT _ _ _ _).1 z = _
      unfold mAT xAT
      rw [sI_ro e, sI_ro h, sI_ro g, sI_ro f, sI_ro d, sI_ro c, sI_ro b, sI_ro a]
      exact h2 z a b c d e f g h
    · show (mAT _ _ _ _).1 60 j = _
      unfold mAT xAT
      rw [sI_rd, if_neg (fun x => hj x.2), sI_ro (by decide), sI_ro (by decide), sI_ro (by decide), sI_ro (by decide), sI_ro (by decide), sI_ro (by decide), sI_ro (by decide)]
      exact h4 j hj
theorem VT_I {q : SS} (h : INV q) (E : Nat → Int32) (n : Int) (i : Nat) : ∀ k, (∀ j, j < k → okT q E n i j) → INV (VT q E i k) ∧ ((VT q E i k).1 60 6).toInt = (q.1 60 6).toInt + (k : Int)
  | 0, _ => ⟨h, by show (q.1 60 6).toInt = _; omega⟩
  | k + 1, ok => by
    obtain ⟨h1, h2⟩ := VT_I h E n i k (fun j hj => ok j (by omega))
    obtain ⟨o1, o2, o3, o4⟩ := VT_o q E i k
    obtain ⟨_, c1, c2, c3, c4⟩ := ok k (by omega)
    have hK : ((VT q E i k).1 60 6).toInt < 12 := by omega
    refine ⟨INV_AT h1 (by rw [o4 1 (by decide)]; exact c1) c2 c3 hK, ?_⟩
    have e : (VT q E i (k + 1)).1 60 6 = (VT q E i k).1 60 6 + 1 := rfl
    have k0 := RY_k0 (INV_RY h1)
    rw [e, inc1 (by omega) (by omega), h2]
    omega
theorem t32 {x : Int64} (h0 : 0 ≤ x.toInt) (h : x.toInt < 2147483648) : x.toInt32.toInt = x.toInt := by
  rw [Int64.toInt_toInt32]
  exact Int.bmod_eq_of_le (by omega) (by omega)
/-- of the class's state behind k of them -/
def loT (q v z : SS) : Prop := (∀ k, k < 60 → z.1 k = v.1 k) ∧ (∀ k, 60 ≤ k → z.1 k = q.1 k) ∧ z.2 = q.2
theorem x_tk {q : SS} (h : INV q) {s i n : Int32} (hs : 0 ≤ s.toInt ∧ s.toInt < 6) (h0 : q.1 27 s.toNatClampNeg = 0) (hi : 0 ≤ i.toInt) (hn : 1 ≤ n.toInt ∧ n.toInt ≤ 12) {E : Nat → Int32} (hE : ∀ z : Nat, (z : Int) < (q.1 90 s.toNatClampNeg).toInt → E z = (q.2 91 (60 * s.toNatClampNeg + z)).toInt32) :
    T (b_X11_tickets_63 q s i n 0 0) (fun r => ∃ c : Nat, r.1 = Int32.ofNat c ∧ (c : Int) ≤ n.toInt ∧ (∀ j, j < c → okT q E (q.1 90 s.toNatClampNeg).toInt i.toNatClampNeg j) ∧ ((c : Int) < n.toInt → ¬ okT q E (q.1 90 s.toNatClampNeg).toInt i.toNatClampNeg c) ∧ loT q (VT q E i.toNatClampNeg c) r.2) := by
  have hS := INV_RS h
  have hY := INV_RY h
  have ss := cnL hs.1 hs.2
  have zs := RS_size0 hS _ ss
  have ci := cnI hi
  have bi := Int32.toInt_lt i
  unfold b_X11_tickets_63
  refine T_fx6 (fun z l1 l2 l3 l5 l6 => l1 = s ∧ l2 = i ∧ l3 = n ∧ l5 = l6 ∧ ∃ k : Nat, l6 = Int32.ofNat k ∧ (k : Int) ≤ n.toInt ∧ (∀ j, j < k → okT q E (q.1 90 s.toNatClampNeg).toInt i.toNatClampNeg j) ∧ loT q (VT q E i.toNatClampNeg k) z) (fun _ _ _ _ _ l6 => (12 - l6.toInt).toNat) ?_ _ _ _ _ _ _ _ ⟨rfl, rfl, rfl, rfl, 0, rfl, by omega, fun j hj => absurd hj (by omega), fun _ _ => rfl, fun _ _ => rfl, rfl⟩ (by unfold FU; decide)
  rintro rec z l1 l2 l3 l5 l6 ⟨rfl, rfl, rfl, rfl, k, rfl, hk, ok, z1, z2, z3⟩ hr
  have ek : (Int32.ofNat k).toInt = (k : Int) := Int32.toInt_ofNat_of_lt (by omega)
  refine T_le (fun g => T_some.mpr ⟨k, rfl, hk, ok, fun g2 => absurd g2 (by omega), z1, z2, z3⟩) (fun g => ?_)
  obtain ⟨hV, hK⟩ := VT_I h E _ l2.toNatClampNeg k ok
  obtain ⟨o1, o2, o3, o4⟩ := VT_o q E l2.toNatClampNeg k
  have hVY := INV_RY hV
  generalize hv : VT q E l2.toNatClampNeg k = V at *
  have w1 : z.1 1 = V.1 1 := z1 1 (by decide)
  have w27 : z.1 27 l1.toNatClampNeg = 0 := by rw [z1 27 (by decide), o2 27 (by decide) (by decide) (by decide) (by decide) (by decide) (by decide) (by decide) (by decide)]; exact h0
  have w28 : z.1 28 l1.toNatClampNeg = q.1 90 l1.toNatClampNeg := by rw [z1 28 (by decide), o2 28 (by decide) (by decide) (by decide) (by decide) (by decide) (by decide) (by decide) (by decide), RS_size hS]
  have w2 : z.1 1 2 = V.1 60 6 := by rw [w1]; exact RY_k hVY
  have wp : z.1 1 1 = q.1 60 1 := by rw [w1, o3]; exact RY_p hY
  have row : 0 ≤ l1.toInt ∧ l1.toInt < 6 ∧ 0 ≤ (z.1 27 l1.toNatClampNeg).toInt ∧ (z.1 27 l1.toNatClampNeg).toInt ≤ 4 := by rw [w27]; exact ⟨hs.1, hs.2, by decide, by decide⟩
  have sz := x_sizeOf z l1
  rw [if_pos row, w28] at sz
  have szx : szX z l1 = (q.1 90 l1.toNatClampNeg).toInt := by
    unfold szX
    rw [if_pos row, w28]
  have c3 : (3 : Int64).toInt = 3 := rfl
  have e3 : ((3 : Int64) * (Int32.ofNat k).toInt64).toInt = 3 * (k : Int) := by rw [lmul (by rw [c3, i64, ek]; omega) (by rw [c3, i64, ek]; omega), c3, i64, ek]
  have e4 : (l2.toInt64 + (3 : Int64) * (Int32.ofNat k).toInt64).toInt = l2.toInt + 3 * (k : Int) := by rw [ladd (by rw [e3, i64]; omega) (by rw [e3, i64]; omega), e3, i64]
  generalize hA : l2.toInt64 + (3 : Int64) * (Int32.ofNat k).toInt64 = A at *
  have e5 : (A + 3).toInt = l2.toInt + 3 * (k : Int) + 3 := by rw [ladd (by rw [e4, c3]; omega) (by rw [e4, c3]; omega), e4, c3]
  have e1 : (Int32.ofNat k + 1) = Int32.ofNat (k + 1) := (Int32.ofNat_add k 1).symm
  -- what the step tells
  have key : T (f_X11_addFromRow z l1 l2 (Int32.ofNat k)) (fun r => (r.1 = 0 ∧ ¬ okT q E (q.1 90 l1.toNatClampNeg).toInt l2.toNatClampNeg k ∧ r.2 = z) ∨ (r.1 = 1 ∧ okT q E (q.1 90 l1.toNatClampNeg).toInt l2.toNatClampNeg k ∧ r.2 = xAT z (E (l2.toNatClampNeg + 3 * k)) (E (l2.toNatClampNeg + 3 * k + 1)) (E (l2.toNatClampNeg + 3 * k + 2)))) := by
    unfold f_X11_addFromRow
    rw [hA]
    refine T_nm (T_rw sz ?_)
    by_cases g1 : ((l2.toNatClampNeg + 3 * k + 3 : Nat) : Int) ≤ (q.1 90 l1.toNatClampNeg).toInt
    · have a0 : A.toInt32.toInt = l2.toInt + 3 * (k : Int) := by rw [t32 (by omega) (by omega), e4]
      have l1' : (1 : Int32).toInt = 1 := rfl
      have l2' : (2 : Int32).toInt = 2 := rfl
      have a1 : (A.toInt32 + 1).toInt = l2.toInt + 3 * (k : Int) + 1 := by rw [tadd (by rw [a0, l1']; omega) (by rw [a0, l1']; omega), a0, l1']
      have a2 : (A.toInt32 + 2).toInt = l2.toInt + 3 * (k : Int) + 2 := by rw [tadd (by rw [a0, l2']; omega) (by rw [a0, l2']; omega), a0, l2']
      have rd : ∀ (x : Int32) (m : Nat), x.toInt = (m : Int) → (m : Int) < (q.1 90 l1.toNatClampNeg).toInt → f_X7_get z l1 x = some (q.2 91 (60 * l1.toNatClampNeg + m)) := by
        intro x m hx hm
        have cx : x.toNatClampNeg = m := by
          simp only [cn_eq, hx]
          omega
        rw [x_get7 z l1 x (by rw [szx]; exact zs.2), szx, if_pos ⟨by omega, by omega⟩, cx, z3]
        exact congrArg some (RS_el hS _ ss (by rw [h0]; decide) _ hm)
      have f0 : (q.2 91 (60 * l1.toNatClampNeg + (l2.toNatClampNeg + 3 * k))).toInt32 = E (l2.toNatClampNeg + 3 * k) := (hE _ (by omega)).symm
      have f1 : (q.2 91 (60 * l1.toNatClampNeg + (l2.toNatClampNeg + 3 * k + 1))).toInt32 = E (l2.toNatClampNeg + 3 * k + 1) := (hE _ (by omega)).symm
      have f2 : (q.2 91 (60 * l1.toNatClampNeg + (l2.toNatClampNeg + 3 * k + 2))).toInt32 = E (l2.toNatClampNeg + 3 * k + 2) := (hE _ (by omega)).symm
      refine T_p (by rw [lgc_le, e5, i64]; omega) ?_
      refine T_rw (rd _ (l2.toNatClampNeg + 3 * k) (by omega) (by omega)) (T_nm (T_rw (rd _ (l2.toNatClampNeg + 3 * k + 1) (by omega) (by omega)) (T_nm (T_rw (rd _ (l2.toNatClampNeg + 3 * k + 2) (by omega) (by omega)) (T_nm ?_)))))
      rw [f0, f1, f2]
      generalize hE0 : E (l2.toNatClampNeg + 3 * k) = v0 at *
      generalize hE1 : E (l2.toNatClampNeg + 3 * k + 1) = v1 at *
      generalize hE2 : E (l2.toNatClampNeg + 3 * k + 2) = v2 at *
      have oT : okT q E (q.1 90 l1.toNatClampNeg).toInt l2.toNatClampNeg k ↔ ((0 ≤ v0.toInt ∧ v0.toInt < (q.1 60 1).toInt) ∧ (0 ≤ v1.toInt ∧ v1.toInt ≤ 1) ∧ (0 ≤ v2.toInt ∧ v2.toInt ≤ 4) ∧ (q.1 60 6).toInt + (k : Int) < 12) := by
        unfold okT
        rw [hE0, hE1, hE2]
        exact ⟨fun x => x.2, fun x => ⟨g1, x⟩⟩
      refine T_rw (x_mayBe 4 v0 (by decide) (by decide)) ?_
      rw [wp]
      refine T_bi (fun c => T_some.mpr (Or.inl ⟨rfl, fun x => ?_, rfl⟩)) (fun c => T_rw (x_mayBe 5 v1 (by decide) (by decide)) ?_)
      · apply c
        have := (oT.mp x).1
        unfold okV
        simp only [Int32.reduceToInt]
        omega
      · have c0 : 0 ≤ v0.toInt ∧ v0.toInt < (q.1 60 1).toInt := ⟨c.1, c.2.2.2.2.2.1 (by decide)⟩
        rw [wp]
        refine T_bi (fun c => T_some.mpr (Or.inl ⟨rfl, fun x => ?_, rfl⟩)) (fun c => T_rw (x_mayBe 6 v2 (by decide) (by decide)) ?_)
        · apply c
          have := (oT.mp x).2.1
          unfold okV
          simp only [Int32.reduceToInt]
          omega
        · have c1 : 0 ≤ v1.toInt ∧ v1.toInt ≤ 1 := ⟨c.1, c.2.2.2.2.2.2.1 (by decide)⟩
          rw [wp]
          refine T_bi (fun c => T_some.mpr (Or.inl ⟨rfl, fun x => ?_, rfl⟩)) (fun c => ?_)
          · apply c
            have := (oT.mp x).2.2.1
            unfold okV
            simp only [Int32.reduceToInt]
            omega
          · have c2 : 0 ≤ v2.toInt ∧ v2.toInt ≤ 4 := ⟨c.1, c.2.2.2.2.2.2.2.1 (by decide)⟩
            have kv12 := RY_k12 hVY
            have kv0 := RY_k0 hVY
            refine T_rw (x_addTicket (q := z) (by rw [wp]; exact RY_p6 hY) (by rw [w2]; exact kv0) (by rw [w2]; exact kv12) v0 v1 v2) ?_
            rw [w2]
            by_cases g2 : V.1 60 6 = 12
            · rw [if_pos g2]
              refine T_p rfl (T_some.mpr (Or.inl ⟨rfl, fun x => ?_, rfl⟩))
              have := (oT.mp x).2.2.2
              rw [g2] at hK
              have : (12 : Int32).toInt = 12 := rfl
              omega
            · rw [if_neg g2]
              have := ne12 kv12 g2
              refine T_q (by show ¬ V.1 60 6 = -3; intro x; rw [x] at kv0; exact absurd kv0 (by decide)) (T_some.mpr (Or.inr ⟨rfl, oT.mpr ⟨c0, c1, c2, by omega⟩, rfl⟩))
    · refine T_q (fun x => ?_) (T_some.mpr (Or.inl ⟨rfl, fun x => g1 x.1, rfl⟩))
      rw [lgc_le, e5, i64] at x
      omega
  refine T_b key (fun r hr1 => ?_)
  rcases hr1 with ⟨r1, r2, r3⟩ | ⟨r1, r2, r3⟩
  · refine T_p r1 (T_some.mpr ⟨k, rfl, hk, ok, fun _ => r2, ?_⟩)
    show loT q (VT q E l2.toNatClampNeg k) r.2
    rw [r3, hv]
    exact ⟨z1, z2, z3⟩
  · refine T_q (by rw [r1]; decide) (hr _ _ _ _ _ _ ⟨rfl, rfl, rfl, rfl, k + 1, e1, by omega, fun j hj => ?_, ?_⟩ ?_)
    · by_cases e : j = k
      · subst e; exact r2
      · exact ok j (by omega)
    · rw [r3]
      show loT q (mAT (xAT (VT q E l2.toNatClampNeg k) _ _ _) _ _ _) _
      rw [hv]
      refine ⟨fun j hj => ?_, fun j hj => ?_, z3⟩
      · unfold mAT
        rw [sI_ro (by omega), sI_ro (by omega), sI_ro (by omega), sI_ro (by omega)]
        unfold xAT
        rw [w1]
        by_cases j9 : j = 9
        · subst j9; funext u; simp only [sI_rd, z1 9 (by decide)]
        by_cases j8 : j = 8
        · subst j8; funext u; simp only [sI_rd, z1 8 (by decide)]
        by_cases j7 : j = 7
        · subst j7; funext u; simp only [sI_rd, z1 7 (by decide)]
        by_cases j1 : j = 1
        · subst j1; funext u; simp only [sI_rd, z1 1 (by decide)]
        rw [sI_ro j9, sI_ro j8, sI_ro j7, sI_ro j1, sI_ro j9, sI_ro j8, sI_ro j7, sI_ro j1]
        exact z1 j hj
      · unfold xAT
        rw [sI_ro (by omega), sI_ro (by omega), sI_ro (by omega), sI_ro (by omega)]
        exact z2 j hj
    · rw [e1, Int32.toInt_ofNat_of_lt (by omega), ek]
      omega
def hiT (v x z : SS) : Prop := (∀ k, 60 ≤ k → z.1 k = v.1 k) ∧ (∀ k, k < 60 → z.1 k = x.1 k) ∧ z.2 = v.2
set_option maxHeartbeats 8000000 in
theorem m_tk {q x : SS} (h : INV q) (hx : ∀ k, 60 ≤ k → x.1 k = q.1 k) (hx2 : x.2 = q.2) {s i n : Int32} (hs : 0 ≤ s.toInt ∧ s.toInt < 6) (hi : 0 ≤ i.toInt) (hn : 1 ≤ n.toInt ∧ n.toInt ≤ 12) {E : Nat → Int32} (hE : ∀ z : Nat, (z : Int) < (q.1 90 s.toNatClampNeg).toInt → E z = (q.2 91 (60 * s.toNatClampNeg + z)).toInt32) :
    T (b_X12_tickets_58 x s i n 0) (fun r => ∃ c : Nat, r.1 = Int32.ofNat c ∧ (c : Int) ≤ n.toInt ∧ (∀ j, j < c → okT q E (q.1 90 s.toNatClampNeg).toInt i.toNatClampNeg j) ∧ ((c : Int) < n.toInt → ¬ okT q E (q.1 90 s.toNatClampNeg).toInt i.toNatClampNeg c) ∧ hiT (VT q E i.toNatClampNeg c) x r.2) := by
  have hS := INV_RS h
  have hY := INV_RY h
  have p0 := RY_p0 hY
  have ss := cnL hs.1 hs.2
  have zs := RS_size0 hS _ ss
  have ci := cnI hi
  have cs := cnI hs.1
  have bi := Int32.toInt_lt i
  unfold b_X12_tickets_58
  refine T_fx5 (fun z l1 l2 l3 l4 => l1 = s ∧ l2 = i ∧ l3 = n ∧ ∃ k : Nat, l4 = Int32.ofNat k ∧ (k : Int) ≤ n.toInt ∧ (∀ j, j < k → okT q E (q.1 90 s.toNatClampNeg).toInt i.toNatClampNeg j) ∧ hiT (VT q E i.toNatClampNeg k) x z) (fun _ _ _ _ l4 => (12 - l4.toInt).toNat) ?_ _ _ _ _ _ _ ⟨rfl, rfl, rfl, 0, rfl, by omega, fun j hj => absurd hj (by omega), hx, fun _ _ => rfl, hx2⟩ (by unfold FU; decide)
  rintro rec z l1 l2 l3 l4 ⟨rfl, rfl, rfl, k, rfl, hk, ok, hz⟩ hr
  have ek : (Int32.ofNat k).toInt = (k : Int) := Int32.toInt_ofNat_of_lt (by omega)
  refine T_le (fun g => T_some.mpr ⟨k, Int32.toInt_inj.mp (by show l3.toInt = _; omega), hk, ok, fun g2 => absurd g2 (by omega), hz⟩) (fun g => ?_)
  obtain ⟨hV, hK⟩ := VT_I h E _ l2.toNatClampNeg k ok
  obtain ⟨o1, o2, o3, o4⟩ := VT_o q E l2.toNatClampNeg k
  have hVY := INV_RY hV
  have stop : ¬ okT q E (q.1 90 l1.toNatClampNeg).toInt l2.toNatClampNeg k → T (some (Int32.ofNat k, z)) (fun r => ∃ c : Nat, r.1 = Int32.ofNat c ∧ (c : Int) ≤ l3.toInt ∧ (∀ j, j < c → okT q E (q.1 90 l1.toNatClampNeg).toInt l2.toNatClampNeg j) ∧ ((c : Int) < l3.toInt → ¬ okT q E (q.1 90 l1.toNatClampNeg).toInt l2.toNatClampNeg c) ∧ hiT (VT q E l2.toNatClampNeg c) x r.2) := fun n => T_some.mpr ⟨k, rfl, hk, ok, fun _ => n, hz⟩
  obtain ⟨z1, z2, z3⟩ := hz
  generalize hv : VT q E l2.toNatClampNeg k = V at *
  have w60 : z.1 60 = V.1 60 := z1 60 (by decide)
  have wp : z.1 60 1 = q.1 60 1 := by rw [w60, o4 1 (by decide)]
  have w90 : z.1 90 = q.1 90 := by rw [z1 90 (by decide), o2 90 (by decide) (by decide) (by decide) (by decide) (by decide) (by decide) (by decide) (by decide)]
  have w91 : z.2 = q.2 := z3.trans o1
  have l3' : (3 : Int32).toInt = 3 := rfl
  have e3 : ((3 : Int32) * Int32.ofNat k).toInt = 3 * (k : Int) := by rw [tmul (by rw [l3', ek]; omega) (by rw [l3', ek]; omega), l3', ek]
  have e4 : (l2.toInt64 + ((3 : Int32) * Int32.ofNat k).toInt64).toInt = l2.toInt + 3 * (k : Int) := by rw [i64add, e3]
  generalize hA : l2.toInt64 + ((3 : Int32) * Int32.ofNat k).toInt64 = A at *
  have c2 : (2 : Int64).toInt = 2 := rfl
  have c0 : (0 : Int64).toInt = 0 := rfl
  have e5 : (A + 2).toInt = l2.toInt + 3 * (k : Int) + 2 := by rw [ladd (by rw [e4, c2]; omega) (by rw [e4, c2]; omega), e4, c2]
  have e1 : (Int32.ofNat k + 1) = Int32.ofNat (k + 1) := (Int32.ofNat_add k 1).symm
  refine T_nm (T_q (fun y => by rw [lgc_neg, e4, c0] at y; omega) (T_vp hs.1 hs.2 ?_))
  rw [w90]
  by_cases g1 : ((l2.toNatClampNeg + 3 * k + 3 : Nat) : Int) ≤ (q.1 90 l1.toNatClampNeg).toInt
  · refine T_q (fun y => by rw [lgc_ge, e5, i64] at y; omega) ?_
    by_cases g2 : z.1 60 6 = 12
    · refine T_p g2 (stop (fun y => ?_))
      have := y.2.2.2.2
      rw [w60] at g2
      rw [g2] at hK
      have : (12 : Int32).toInt = 12 := rfl
      omega
    · refine T_q g2 (T_nm ?_)
      have kv0 := RY_k0 hVY
      have kv12 := RY_k12 hVY
      have kz : (z.1 60 6).toInt < 12 := ne12 (by rw [w60]; exact kv12) g2
      have a0 : A.toInt32.toInt = l2.toInt + 3 * (k : Int) := by rw [t32 (by omega) (by omega), e4]
      have m0 := mul60 (a := l1) (b := A.toInt32) hs (by omega)
      rw [a0] at m0
      generalize hB : (60 : Int32) * l1 + A.toInt32 = B at *
      have l1' : (1 : Int32).toInt = 1 := rfl
      have l2' : (2 : Int32).toInt = 2 := rfl
      have m1 : (B + 1).toInt = 60 * l1.toInt + (l2.toInt + 3 * (k : Int)) + 1 := by rw [tadd (by rw [m0, l1']; omega) (by rw [m0, l1']; omega), m0, l1']
      have m2 : (B + 2).toInt = 60 * l1.toInt + (l2.toInt + 3 * (k : Int)) + 2 := by rw [tadd (by rw [m0, l2']; omega) (by rw [m0, l2']; omega), m0, l2']
      clear hB
      generalize B + 1 = B1 at *
      generalize B + 2 = B2 at *
      have v0 : vin B 360 := ⟨by omega, by show B.toInt < 360; omega⟩
      have v1 : vin (B1) 360 := ⟨by omega, by show (B1).toInt < 360; omega⟩
      have v2 : vin (B2) 360 := ⟨by omega, by show (B2).toInt < 360; omega⟩
      have n0 : B.toNatClampNeg = 60 * l1.toNatClampNeg + (l2.toNatClampNeg + 3 * k) := by simp only [cn_eq, m0]; omega
      have n1 : (B1).toNatClampNeg = 60 * l1.toNatClampNeg + (l2.toNatClampNeg + 3 * k + 1) := by simp only [cn_eq, m1]; omega
      have n2 : (B2).toNatClampNeg = 60 * l1.toNatClampNeg + (l2.toNatClampNeg + 3 * k + 2) := by simp only [cn_eq, m2]; omega
      have f0 : (q.2 91 (60 * l1.toNatClampNeg + (l2.toNatClampNeg + 3 * k))).toInt32 = E (l2.toNatClampNeg + 3 * k) := (hE _ (by omega)).symm
      have f1 : (q.2 91 (60 * l1.toNatClampNeg + (l2.toNatClampNeg + 3 * k + 1))).toInt32 = E (l2.toNatClampNeg + 3 * k + 1) := (hE _ (by omega)).symm
      have f2 : (q.2 91 (60 * l1.toNatClampNeg + (l2.toNatClampNeg + 3 * k + 2))).toInt32 = E (l2.toNatClampNeg + 3 * k + 2) := (hE _ (by omega)).symm
      rw [w91, n0, n1, n2, f0, f1, f2]
      generalize hE0 : E (l2.toNatClampNeg + 3 * k) = b0 at *
      generalize hE1 : E (l2.toNatClampNeg + 3 * k + 1) = b1 at *
      generalize hE2 : E (l2.toNatClampNeg + 3 * k + 2) = b2 at *
      refine T_p v0 (T_p v1 (T_rw (m_areTicket (q := z) (by rw [wp]; exact p0) b0 b1) ?_))
      rw [wp]
      refine T_bi (fun c => stop (fun y => c ?_)) (fun c => T_p v2 (T_rw (m_in z b2 0 4) (T_bi (fun d => stop (fun y => d ?_)) (fun d => T_p v0 (T_p v1 (T_p v2 (T_rw (m_addTicket (q := z) (by rw [w60]; exact kv0) kz b0 b1 b2) (hr _ _ _ _ _ ⟨rfl, rfl, rfl, k + 1, e1, by omega, fun j hj => ?_, ?_⟩ ?_))))))))
      · have y2 := y.2.1
        have y3 := y.2.2.1
        rw [hE0] at y2
        rw [hE1] at y3
        exact ⟨y2, y3⟩
      · have y4 := y.2.2.2.1
        rw [hE2] at y4
        exact y4
      · by_cases e : j = k
        · subst e
          refine ⟨g1, ?_, ?_, ?_, ?_⟩
          · rw [hE0]; exact c.1
          · rw [hE1]; exact c.2
          · rw [hE2]; exact d
          · rw [w60] at kz; omega
        · exact ok j (by omega)
      · show hiT (mAT (xAT (VT q E l2.toNatClampNeg k) _ _ _) _ _ _) x _
        rw [hE0, hE1, hE2, hv]
        refine ⟨fun j hj => ?_, fun j hj => ?_, z3⟩
        · unfold mAT
          show _ = (sI (sI (sI (sI (xAT V b0 b1 b2) 65 (V.1 60 6).toNatClampNeg b0) 66 (V.1 60 6).toNatClampNeg b1) 67 (V.1 60 6).toNatClampNeg b2) 60 6 (V.1 60 6 + 1)).1 j
          have xo : ∀ u, 60 ≤ u → (xAT V b0 b1 b2).1 u = V.1 u := fun u hu => by
            unfold xAT
            rw [sI_ro (by omega), sI_ro (by omega), sI_ro (by omega), sI_ro (by omega)]
          rw [w60]
          by_cases j0 : j = 60
          · subst j0; funext u; simp only [sI_rd, z1 60 (by decide), xo 60 (by decide)]
          by_cases j7 : j = 67
          · subst j7; funext u; simp only [sI_rd, z1 67 (by decide), xo 67 (by decide)]
          by_cases j6 : j = 66
          · subst j6; funext u; simp only [sI_rd, z1 66 (by decide), xo 66 (by decide)]
          by_cases j5 : j = 65
          · subst j5; funext u; simp only [sI_rd, z1 65 (by decide), xo 65 (by decide)]
          rw [sI_ro j0, sI_ro j7, sI_ro j6, sI_ro j5, sI_ro j0, sI_ro j7, sI_ro j6, sI_ro j5, xo j hj]
          exact z1 j hj
        · unfold mAT
          rw [sI_ro (by omega), sI_ro (by omega), sI_ro (by omega), sI_ro (by omega)]
          exact z2 j hj
      · rw [e1, Int32.toInt_ofNat_of_lt (by omega), ek]
        omega
  · exact T_p (by rw [lgc_ge, e5, i64]; omega) (stop (fun y => g1 y.1))
theorem op_tickets {q : SS} (h : INV q) (s i n : Int32) : T (f_X11_tickets q s i n) (fun r => T (f_X12_tickets r.2 s i n) (fun t => INV t.2 ∧ r.1 = t.1)) := by
  have hS := INV_RS h
  have l1' : (1 : Int32).toInt = 1 := rfl
  have l12 : (12 : Int32).toInt = 12 := rfl
  have l0 : (0 : Int32).toInt = 0 := rfl
  have m1 : ∀ r, f_X12_in r n 1 12 = some (bI (1 ≤ n.toInt ∧ n.toInt ≤ 12)) := fun r => m_in r n 1 12
  unfold f_X11_tickets
  refine T_rw (x_isShelf q s) ?_
  by_cases c : 0 ≤ s.toInt ∧ s.toInt < 6
  · refine T_bp c ?_
    have ss := cnL c.1 c.2
    by_cases d : 1 ≤ n.toInt ∧ n.toInt ≤ 12
    · refine T_ltn (by omega) (T_lep (by omega) (T_rw (x_refBytes q s) ?_))
      rw [if_pos c]
      rcases RS_shelf hS _ ss with ⟨k1, k2⟩ | ⟨k1, k2, k3, k4⟩ | ⟨k1, k2, k3⟩
      · rw [if_pos k1]
        refine T_q (by decide) (T_p rfl (T_some.mpr ?_))
        unfold f_X12_tickets b_X12_tickets_43
        exact T_rw (m_isShelf _ s) (T_bp c (T_rw (m1 _) (T_bp d (T_vp c.1 c.2 (T_p k2 (T_vp c.1 c.2 (T_p k2 (T_some.mpr ⟨h, rfl⟩))))))))
      · have n1 : ¬ q.1 27 s.toNatClampNeg = -2 := by rw [k1]; decide
        have n2 : ¬ q.1 27 s.toNatClampNeg = 0 := by rw [k1]; decide
        have n3 : ¬ q.1 89 s.toNatClampNeg = -1 := by rintro k; rw [k] at k3; exact absurd k3 (by decide)
        have n4 : ¬ q.1 89 s.toNatClampNeg = -2 := by rintro k; rw [k] at k3; exact absurd k3 (by decide)
        rw [if_neg n1, if_neg n2]
        refine T_p rfl (T_some.mpr ?_)
        unfold f_X12_tickets
        exact T_rw (m_isShelf _ s) (T_bp c (T_rw (m1 _) (T_bp d (T_vp c.1 c.2 (T_q n3 (T_vp c.1 c.2 (T_q n4 (T_some.mpr ⟨h, rfl⟩))))))))
      · have n1 : ¬ q.1 27 s.toNatClampNeg = -2 := by rintro k; rw [k] at k1; exact absurd k1 (by decide)
        have n3 : ¬ q.1 89 s.toNatClampNeg = -1 := by rintro k; rw [k] at k3; have := lm1; omega
        rw [if_neg n1]
        by_cases e : q.1 27 s.toNatClampNeg = 0
        · have n4 : q.1 89 s.toNatClampNeg = -2 := Int32.toInt_inj.mp (by rw [k3, e, lm2]; rfl)
          rw [if_pos e]
          have mod : ∀ {P : Int32 × SS → Prop} (x : SS), x.1 89 = q.1 89 → T (b_X12_tickets_58 x s i n 0) P → T (f_X12_tickets x s i n) P := by
            intro P x hx k
            unfold f_X12_tickets b_X12_tickets_43
            refine T_rw (m_isShelf _ s) (T_bp c (T_rw (m1 _) (T_bp d (T_vp c.1 c.2 (T_q (by rw [hx]; exact n3) (T_vp c.1 c.2 (T_p (by rw [hx]; exact n4) (T_vp c.1 c.2 (T_q (by rw [hx]; exact n3) k)))))))))
          have hE : ∀ z : Nat, (z : Int) < (q.1 90 s.toNatClampNeg).toInt → (fun z : Nat => (q.2 91 (60 * s.toNatClampNeg + z)).toInt32) z = (q.2 91 (60 * s.toNatClampNeg + z)).toInt32 := fun _ _ => rfl
          refine T_q (by decide) (T_q (by decide) (T_le (fun g => T_mono (x_tk h c e g d hE) (fun r hr => ?_)) (fun g => T_some.mpr (mod q rfl ?_))))
          · obtain ⟨k, r1, r2, r3, r4, r5, r6, r7⟩ := hr
            refine mod r.2 (r6 89 (by decide)) (T_mono (m_tk h r6 r7 c g d hE) (fun t ht => ?_))
            obtain ⟨m, t1, t2, t3, t4, t5, t6, t7⟩ := ht
            have ekm : k = m := by
              rcases Nat.lt_trichotomy k m with x | x | x
              · exact absurd (t3 k x) (r4 (by omega))
              · exact x
              · exact absurd (r3 m x) (t4 (by omega))
            subst ekm
            refine ⟨?_, r1.trans t1.symm⟩
            have hV := (VT_I h _ _ _ k r3).1
            have : t.2 = VT q (fun z : Nat => (q.2 91 (60 * s.toNatClampNeg + z)).toInt32) i.toNatClampNeg k := by
              refine Prod.ext (funext fun j => ?_) t7
              by_cases hj : j < 60
              · exact (t6 j hj).trans (r5 j hj)
              · exact t5 j (by omega)
            rw [this]
            exact hV
          · unfold b_X12_tickets_58
            rw [fx5_s]
            have e3 : ((3 : Int32) * 0).toInt = 0 := rfl
            have e4 : (i.toInt64 + ((3 : Int32) * 0).toInt64).toInt = i.toInt := by rw [i64add, e3]; omega
            have c0 : (0 : Int64).toInt = 0 := rfl
            exact T_len (by omega) (T_nm (T_p (by rw [lgc_neg, e4, c0]; exact g) (T_some.mpr ⟨h, rfl⟩)))
        · have n4 : ¬ q.1 89 s.toNatClampNeg = -2 := by
            intro k
            rw [k, lm2] at k3
            exact e (Int32.toInt_inj.mp (by rw [l0]; omega))
          rw [if_neg e]
          refine T_p rfl (T_some.mpr ?_)
          unfold f_X12_tickets
          exact T_rw (m_isShelf _ s) (T_bp c (T_rw (m1 _) (T_bp d (T_vp c.1 c.2 (T_q n3 (T_vp c.1 c.2 (T_q n4 (T_some.mpr ⟨h, rfl⟩))))))))
    · have key : T (f_X12_tickets q s i n) (fun t => INV t.2 ∧ -1 = t.1) := by
        unfold f_X12_tickets
        exact T_rw (m_isShelf _ s) (T_bp c (T_rw (m1 _) (T_bn d (T_some.mpr ⟨h, rfl⟩))))
      exact T_lt (fun _ => T_some.mpr key) (fun g => T_le (fun g2 => absurd ⟨by omega, by omega⟩ d) (fun _ => T_some.mpr key))
  · refine T_bn c (T_some.mpr ?_)
    unfold f_X12_tickets
    exact T_rw (m_isShelf _ s) (T_bn c (T_some.mpr ⟨h, rfl⟩))

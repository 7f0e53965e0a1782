/-- of the class's state behind k of them -/
def loT (q v z : SS) : Prop := (∀ k, k < 60 → z.1 k = v.1 k) ∧ (∀ k, 60 ≤ k → z.1 k = q.1 k) ∧ z.2 = q.2
theorem x_tk {q : SS} (h : INV q) {s i n : Int32} (hs : 0 ≤ s.toInt ∧ s.toInt < 6) (h0 : q.1 27 s.toNatClampNeg = 0) (hi : 0 ≤ i.toInt) (hn : 1 ≤ n.toInt ∧ n.toInt ≤ 12) {E : Nat → Int32} (hE : ∀ z : Nat, (z : Int) < (q.1 90 s.toNatClampNeg).toInt → E z = (q.2 91 (60 * s.toNatClampNeg + z)).toInt32) :
    T (b_X11_tickets_63 q s i n 0 0) (fun r => ∃ c : Nat, r.1 = Int32.ofNat c ∧ (c : Int) ≤ n.toInt ∧ (∀ j, j < c → okT q E (q.1 90 s.toNatClampNeg).toInt i.toNatClampNeg j) ∧ ((c : Int) < n.toInt → ¬ okT q E (q.1 90 s.toNatClampNeg).toInt i.toNatClampNeg c) ∧ loT q (VT q E i.toNatClampNeg c) r.2) := by
  have hS := INV_RS h
  have hY := INV_RY h
  have ss := cnL hs.1 hs.2
  have zs := RS_size0 hS _ ss
  have ci := cnI hi
  have bi := Int32.toInt_lt i
  unfold b_X11_tickets_63
  refine T_fx6 (fun z l1 l2 l3 l5 l6 => l1 = s ∧ l2 = i ∧ l3 = n ∧ l5 = l6 ∧ ∃ k : Nat, l6 = Int32.ofNat k ∧ (k : Int) ≤ n.toInt ∧ (∀ j, j < k → okT q E (q.1 90 s.toNatClampNeg).toInt i.toNatClampNeg j) ∧ loT q (VT q E i.toNatClampNeg k) z) (fun _ _ _ _ _ l6 => (12 - l6.toInt).toNat) ?_ _ _ _ _ _ _ _ ⟨rfl, rfl, rfl, rfl, 0, rfl, by omega, fun j hj => absurd hj (by omega), fun _ _ => rfl, fun _ _ => rfl, rfl⟩ (by unfold FU; decide)
  rintro rec z l1 l2 l3 l5 l6 ⟨rfl, rfl, rfl, rfl, k, rfl, hk, ok, z1, z2, z3⟩ hr
  have ek : (Int32.ofNat k).toInt = (k : Int) := Int32.toInt_ofNat_of_lt (by omega)
  refine T_le (fun g => T_some.mpr ⟨k, rfl, hk, ok, fun g2 => absurd g2 (by omega), z1, z2, z3⟩) (fun g => ?_)
  obtain ⟨hV, hK⟩ := VT_I h E _ l2.toNatClampNeg k ok
  obtain ⟨o1, o2, o3, o4⟩ := VT_o q E l2.toNatClampNeg k
  have hVY := INV_RY hV
  generalize hv : VT q E l2.toNatClampNeg k = V at *
  have w1 : z.1 1 = V.1 1 := z1 1 (by decide)
  have w27 : z.1 27 l1.toNatClampNeg = 0 := by rw [z1 27 (by decide), o2 27 (by decide) (by decide) (by decide) (by decide) (by decide) (by decide) (by decide) (by decide)]; exact h0
  have w28 : z.1 28 l1.toNatClampNeg = q.1 90 l1.toNatClampNeg := by rw [z1 28 (by decide), o2 28 (by decide) (by decide) (by decide) (by decide) (by decide) (by decide) (by decide) (by decide), RS_size hS]
  have w2 : z.1 1 2 = V.1 60 6 := by rw [w1]; exact RY_k hVY
  have wp : z.1 1 1 = q.1 60 1 := by rw [w1, o3]; exact RY_p hY
  have row : 0 ≤ l1.toInt ∧ l1.toInt < 6 ∧ 0 ≤ (z.1 27 l1.toNatClampNeg).toInt ∧ (z.1 27 l1.toNatClampNeg).toInt ≤ 4 := by rw [w27]; exact ⟨hs.1, hs.2, by decide, by decide⟩
  have sz := x_sizeOf z l1
  rw [if_pos row, w28] at sz
  have szx : szX z l1 = (q.1 90 l1.toNatClampNeg).toInt := by
    unfold szX
    rw [if_pos row, w28]
  have c3 : (3 : Int64).toInt = 3 := rfl
  have e3 : ((3 : Int64) * (Int32.ofNat k).toInt64).toInt = 3 * (k : Int) := by rw [lmul (by rw [c3, i64, ek]; omega) (by rw [c3, i64, ek]; omega), c3, i64, ek]
  have e4 : (l2.toInt64 + (3 : Int64) * (Int32.ofNat k).toInt64).toInt = l2.toInt + 3 * (k : Int) := by rw [ladd (by rw [e3, i64]; omega) (by rw [e3, i64]; omega), e3, i64]
  generalize hA : l2.toInt64 + (3 : Int64) * (Int32.ofNat k).toInt64 = A at *
  have e5 : (A + 3).toInt = l2.toInt + 3 * (k : Int) + 3 := by rw [ladd (by rw [e4, c3]; omega) (by rw [e4, c3]; omega), e4, c3]
  have e1 : (Int32.ofNat k + 1) = Int32.ofNat (k + 1) := (Int32.ofNat_add k 1).symm
  -- what the step tells
  have key : T (f_X11_addFromRow z l1 l2 (Int32.ofNat k)) (fun r => (r.1 = 0 ∧ ¬ okT q E (q.1 90 l1.toNatClampNeg).toInt l2.toNatClampNeg k ∧ r.2 = z) ∨ (r.1 = 1 ∧ okT q E (q.1 90 l1.toNatClampNeg).toInt l2.toNatClampNeg k ∧ r.2 = xAT z (E (l2.toNatClampNeg + 3 * k)) (E (l2.toNatClampNeg + 3 * k + 1)) (E (l2.toNatClampNeg + 3 * k + 2)))) := by
    unfold f_X11_addFromRow
    rw [hA]
    refine T_nm (T_rw sz ?_)
    by_cases g1 : ((l2.toNatClampNeg + 3 * k + 3 : Nat) : Int) ≤ (q.1 90 l1.toNatClampNeg).toInt
    · have a0 : A.toInt32.toInt = l2.toInt + 3 * (k : Int) := by rw [t32 (by omega) (by omega), e4]
      have l1' : (1 : Int32).toInt = 1 := rfl
      have l2' : (2 : Int32).toInt = 2 := rfl
      have a1 : (A.toInt32 + 1).toInt = l2.toInt + 3 * (k : Int) + 1 := by rw [tadd (by rw [a0, l1']; omega) (by rw [a0, l1']; omega), a0, l1']
      have a2 : (A.toInt32 + 2).toInt = l2.toInt + 3 * (k : Int) + 2 := by rw [tadd (by rw [a0, l2']; omega) (by rw [a0, l2']; omega), a0, l2']
      have rd : ∀ (x : Int32) (m : Nat), x.toInt = (m : Int) → (m : Int) < (q.1 90 l1.toNatClampNeg).toInt → f_X7_get z l1 x = some (q.2 91 (60 * l1.toNatClampNeg + m)) := by
        intro x m hx hm
        have cx : x.toNatClampNeg = m := by
          simp only [cn_eq, hx]
          omega
        rw [x_get7 z l1 x (by rw [szx]; exact zs.2), szx, if_pos ⟨by omega, by omega⟩, cx, z3]
        exact congrArg some (RS_el hS _ ss (by rw [h0]; decide) _ hm)
      have f0 : (q.2 91 (60 * l1.toNatClampNeg + (l2.toNatClampNeg + 3 * k))).toInt32 = E (l2.toNatClampNeg + 3 * k) := (hE _ (by omega)).symm
      have f1 : (q.2 91 (60 * l1.toNatClampNeg + (l2.toNatClampNeg + 3 * k + 1))).toInt32 = E (l2.toNatClampNeg + 3 * k + 1) := (hE _ (by omega)).symm
      have f2 : (q.2 91 (60 * l1.toNatClampNeg + (l2.toNatClampNeg + 3 * k + 2))).toInt32 = E (l2.toNatClampNeg + 3 * k + 2) := (hE _ (by omega)).symm
      refine T_p (by rw [lgc_le, e5, i64]; omega) ?_
      refine T_rw (rd _ (l2.toNatClampNeg + 3 * k) (by omega) (by omega)) (T_nm (T_rw (rd _ (l2.toNatClampNeg + 3 * k + 1) (by omega) (by omega)) (T_nm (T_rw (rd _ (l2.toNatClampNeg + 3 * k + 2) (by omega) (by omega)) (T_nm ?_)))))
      rw [f0, f1, f2]
      generalize hE0 : E (l2.toNatClampNeg + 3 * k) = v0 at *
      generalize hE1 : E (l2.toNatClampNeg + 3 * k + 1) = v1 at *
      generalize hE2 : E (l2.toNatClampNeg + 3 * k + 2) = v2 at *
      have oT : okT q E (q.1 90 l1.toNatClampNeg).toInt l2.toNatClampNeg k ↔ ((0 ≤ v0.toInt ∧ v0.toInt < (q.1 60 1).toInt) ∧ (0 ≤ v1.toInt ∧ v1.toInt ≤ 1) ∧ (0 ≤ v2.toInt ∧ v2.toInt ≤ 4) ∧ (q.1 60 6).toInt + (k : Int) < 12) := by
        unfold okT
        rw [hE0, hE1, hE2]
        exact ⟨fun x => x.2, fun x => ⟨g1, x⟩⟩
      refine T_rw (x_mayBe 4 v0 (by decide) (by decide)) ?_
      rw [wp]
      refine T_bi (fun c => T_some.mpr (Or.inl ⟨rfl, fun x => ?_, rfl⟩)) (fun c => T_rw (x_mayBe 5 v1 (by decide) (by decide)) ?_)
      · apply c
        have := (oT.mp x).1
        unfold okV
        simp only [Int32.reduceToInt]
        omega
      · have c0 : 0 ≤ v0.toInt ∧ v0.toInt < (q.1 60 1).toInt := ⟨c.1, c.2.2.2.2.2.1 (by decide)⟩
        rw [wp]
        refine T_bi (fun c => T_some.mpr (Or.inl ⟨rfl, fun x => ?_, rfl⟩)) (fun c => T_rw (x_mayBe 6 v2 (by decide) (by decide)) ?_)
        · apply c
          have := (oT.mp x).2.1
          unfold okV
          simp only [Int32.reduceToInt]
          omega
        · have c1 : 0 ≤ v1.toInt ∧ v1.toInt ≤ 1 := ⟨c.1, c.2.2.2.2.2.2.1 (by decide)⟩
          rw [wp]
          refine T_bi (fun c => T_some.mpr (Or.inl ⟨rfl, fun x => ?_, rfl⟩)) (fun c => ?_)
          · apply c
            have := (oT.mp x).2.2.1
            unfold okV
            simp only [Int32.reduceToInt]
            omega
          · have c2 : 0 ≤ v2.toInt ∧ v2.toInt ≤ 4 := ⟨c.1, c.2.2.2.2.2.2.2.1 (by decide)⟩
            have kv12 := RY_k12 hVY
            have kv0 := RY_k0 hVY
            refine T_rw (x_addTicket (q := z) (by rw [wp]; exact RY_p6 hY) (by rw [w2]; exact kv0) (by rw [w2]; exact kv12) v0 v1 v2) ?_
            rw [w2]
            by_cases g2 : V.1 60 6 = 12
            · rw [if_pos g2]
              refine T_p rfl (T_some.mpr (Or.inl ⟨rfl, fun x => ?_, rfl⟩))
              have := (oT.mp x).2.2.2
              rw [g2] at hK
              have : (12 : Int32).toInt = 12 := rfl
              omega
            · rw [if_neg g2]
              have := ne12 kv12 g2
              refine T_q (by show ¬ V.1 60 6 = -3; intro x; rw [x] at kv0; exact absurd kv0 (by decide)) (T_some.mpr (Or.inr ⟨rfl, oT.mpr ⟨c0, c1, c2, by omega⟩, rfl⟩))
    · refine T_q (fun x => ?_) (T_some.mpr (Or.inl ⟨rfl, fun x => g1 x.1, rfl⟩))
      rw [lgc_le, e5, i64] at x
      omega
  refine T_b key (fun r hr1 => ?_)
  rcases hr1 with ⟨r1, r2, r3⟩ | ⟨r1, r2, r3⟩
  · refine T_p r1 (T_some.mpr ⟨k, rfl, hk, ok, fun _ => r2, ?_⟩)
    show loT q (VT q E l2.toNatClampNeg k) r.2
    rw [r3, hv]
    exact ⟨z1, z2, z3⟩
  · refine T_q (by rw [r1]; decide) (hr _ _ _ _ _ _ ⟨rfl, rfl, rfl, rfl, k + 1, e1, by omega, fun j hj => ?_, ?_⟩ ?_)
    · by_cases e : j = k
      · subst e; exact r2
      · exact ok j (by omega)
    · rw [r3]
      show loT q (mAT (xAT (VT q E l2.toNatClampNeg k) _ _ _) _ _ _) _
      rw [hv]
      refine ⟨fun j hj => ?_, fun j hj => ?_, z3⟩
      · unfold mAT
        rw [sI_ro (by omega), sI_ro (by omega), sI_ro (by omega), sI_ro (by omega)]
        unfold xAT
        rw [w1]
        by_cases j9 : j = 9
        · subst j9; funext u; simp only [sI_rd, z1 9 (by decide)]
        by_cases j8 : j = 8
        · subst j8; funext u; simp only [sI_rd, z1 8 (by decide)]
        by_cases j7 : j = 7
        · subst j7; funext u; simp only [sI_rd, z1 7 (by decide)]
        by_cases j1 : j = 1
        · subst j1; funext u; simp only [sI_rd, z1 1 (by decide)]
        rw [sI_ro j9, sI_ro j8, sI_ro j7, sI_ro j1, sI_ro j9, sI_ro j8, sI_ro j7, sI_ro j1]
        exact z1 j hj
      · unfold xAT
        rw [sI_ro (by omega), sI_ro (by omega), sI_ro (by omega), sI_ro (by omega)]
        exact z2 j hj
    · rw [e1, Int32.toInt_ofNat_of_lt (by omega), ek]
      omega

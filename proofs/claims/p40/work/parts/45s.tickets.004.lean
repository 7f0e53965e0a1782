def hiT (v x z : SS) : Prop := (∀ k, 60 ≤ k → z.1 k = v.1 k) ∧ (∀ k, k < 60 → z.1 k = x.1 k) ∧ z.2 = v.2
set_option maxHeartbeats 8000000 in
theorem m_tk {q x : SS} (h : INV q) (hx : ∀ k, 60 ≤ k → x.1 k = q.1 k) (hx2 : x.2 = q.2) {s i n : Int32} (hs : 0 ≤ s.toInt ∧ s.toInt < 6) (hi : 0 ≤ i.toInt) (hn : 1 ≤ n.toInt ∧ n.toInt ≤ 12) {E : Nat → Int32} (hE : ∀ z : Nat, (z : Int) < (q.1 90 s.toNatClampNeg).toInt → E z = (q.2 91 (60 * s.toNatClampNeg + z)).toInt32) :
    T (b_X12_tickets_58 x s i n 0) (fun r => ∃ c : Nat, r.1 = Int32.ofNat c ∧ (c : Int) ≤ n.toInt ∧ (∀ j, j < c → okT q E (q.1 90 s.toNatClampNeg).toInt i.toNatClampNeg j) ∧ ((c : Int) < n.toInt → ¬ okT q E (q.1 90 s.toNatClampNeg).toInt i.toNatClampNeg c) ∧ hiT (VT q E i.toNatClampNeg c) x r.2) := by
  have hS := INV_RS h
  have hY := INV_RY h
  have p0 := RY_p0 hY
  have ss := cnL hs.1 hs.2
  have zs := RS_size0 hS _ ss
  have ci := cnI hi
  have cs := cnI hs.1
  have bi := Int32.toInt_lt i
  unfold b_X12_tickets_58
  refine T_fx5 (fun z l1 l2 l3 l4 => l1 = s ∧ l2 = i ∧ l3 = n ∧ ∃ k : Nat, l4 = Int32.ofNat k ∧ (k : Int) ≤ n.toInt ∧ (∀ j, j < k → okT q E (q.1 90 s.toNatClampNeg).toInt i.toNatClampNeg j) ∧ hiT (VT q E i.toNatClampNeg k) x z) (fun _ _ _ _ l4 => (12 - l4.toInt).toNat) ?_ _ _ _ _ _ _ ⟨rfl, rfl, rfl, 0, rfl, by omega, fun j hj => absurd hj (by omega), hx, fun _ _ => rfl, hx2⟩ (by unfold FU; decide)
  rintro rec z l1 l2 l3 l4 ⟨rfl, rfl, rfl, k, rfl, hk, ok, hz⟩ hr
  have ek : (Int32.ofNat k).toInt = (k : Int) := Int32.toInt_ofNat_of_lt (by omega)
  refine T_le (fun g => T_some.mpr ⟨k, Int32.toInt_inj.mp (by show l3.toInt = _; omega), hk, ok, fun g2 => absurd g2 (by omega), hz⟩) (fun g => ?_)
  obtain ⟨hV, hK⟩ := VT_I h E _ l2.toNatClampNeg k ok
  obtain ⟨o1, o2, o3, o4⟩ := VT_o q E l2.toNatClampNeg k
  have hVY := INV_RY hV
  have stop : ¬ okT q E (q.1 90 l1.toNatClampNeg).toInt l2.toNatClampNeg k → T (some (Int32.ofNat k, z)) (fun r => ∃ c : Nat, r.1 = Int32.ofNat c ∧ (c : Int) ≤ l3.toInt ∧ (∀ j, j < c → okT q E (q.1 90 l1.toNatClampNeg).toInt l2.toNatClampNeg j) ∧ ((c : Int) < l3.toInt → ¬ okT q E (q.1 90 l1.toNatClampNeg).toInt l2.toNatClampNeg c) ∧ hiT (VT q E l2.toNatClampNeg c) x r.2) := fun n => T_some.mpr ⟨k, rfl, hk, ok, fun _ => n, hz⟩
  obtain ⟨z1, z2, z3⟩ := hz
  generalize hv : VT q E l2.toNatClampNeg k = V at *
  have w60 : z.1 60 = V.1 60 := z1 60 (by decide)
  have wp : z.1 60 1 = q.1 60 1 := by rw [w60, o4 1 (by decide)]
  have w90 : z.1 90 = q.1 90 := by rw [z1 90 (by decide), o2 90 (by decide) (by decide) (by decide) (by decide) (by decide) (by decide) (by decide) (by decide)]
  have w91 : z.2 = q.2 := z3.trans o1
  have l3' : (3 : Int32).toInt = 3 := rfl
  have e3 : ((3 : Int32) * Int32.ofNat k).toInt = 3 * (k : Int) := by rw [tmul (by rw [l3', ek]; omega) (by rw [l3', ek]; omega), l3', ek]
  have e4 : (l2.toInt64 + ((3 : Int32) * Int32.ofNat k).toInt64).toInt = l2.toInt + 3 * (k : Int) := by rw [i64add, e3]
  generalize hA : l2.toInt64 + ((3 : Int32) * Int32.ofNat k).toInt64 = A at *
  have c2 : (2 : Int64).toInt = 2 := rfl
  have c0 : (0 : Int64).toInt = 0 := rfl
  have e5 : (A + 2).toInt = l2.toInt + 3 * (k : Int) + 2 := by rw [ladd (by rw [e4, c2]; omega) (by rw [e4, c2]; omega), e4, c2]
  have e1 : (Int32.ofNat k + 1) = Int32.ofNat (k + 1) := (Int32.ofNat_add k 1).symm
  refine T_nm (T_q (fun y => by rw [lgc_neg, e4, c0] at y; omega) (T_vp hs.1 hs.2 ?_))
  rw [w90]
  by_cases g1 : ((l2.toNatClampNeg + 3 * k + 3 : Nat) : Int) ≤ (q.1 90 l1.toNatClampNeg).toInt
  · refine T_q (fun y => by rw [lgc_ge, e5, i64] at y; omega) ?_
    by_cases g2 : z.1 60 6 = 12
    · refine T_p g2 (stop (fun y => ?_))
      have := y.2.2.2.2
      rw [w60] at g2
      rw [g2] at hK
      have : (12 : Int32).toInt = 12 := rfl
      omega
    · refine T_q g2 (T_nm ?_)
      have kv0 := RY_k0 hVY
      have kv12 := RY_k12 hVY
      have kz : (z.1 60 6).toInt < 12 := ne12 (by rw [w60]; exact kv12) g2
      have a0 : A.toInt32.toInt = l2.toInt + 3 * (k : Int) := by rw [t32 (by omega) (by omega), e4]
      have m0 := mul60 (a := l1) (b := A.toInt32) hs (by omega)
      rw [a0] at m0
      generalize hB : (60 : Int32) * l1 + A.toInt32 = B at *
      have l1' : (1 : Int32).toInt = 1 := rfl
      have l2' : (2 : Int32).toInt = 2 := rfl
      have m1 : (B + 1).toInt = 60 * l1.toInt + (l2.toInt + 3 * (k : Int)) + 1 := by rw [tadd (by rw [m0, l1']; omega) (by rw [m0, l1']; omega), m0, l1']
      have m2 : (B + 2).toInt = 60 * l1.toInt + (l2.toInt + 3 * (k : Int)) + 2 := by rw [tadd (by rw [m0, l2']; omega) (by rw [m0, l2']; omega), m0, l2']
      clear hB
      generalize B + 1 = B1 at *
      generalize B + 2 = B2 at *
      have v0 : vin B 360 := ⟨by omega, by show B.toInt < 360; omega⟩
      have v1 : vin (B1) 360 := ⟨by omega, by show (B1).toInt < 360; omega⟩
      have v2 : vin (B2) 360 := ⟨by omega, by show (B2).toInt < 360; omega⟩
      have n0 : B.toNatClampNeg = 60 * l1.toNatClampNeg + (l2.toNatClampNeg + 3 * k) := by simp only [cn_eq, m0]; omega
      have n1 : (B1).toNatClampNeg = 60 * l1.toNatClampNeg + (l2.toNatClampNeg + 3 * k + 1) := by simp only [cn_eq, m1]; omega
      have n2 : (B2).toNatClampNeg = 60 * l1.toNatClampNeg + (l2.toNatClampNeg + 3 * k + 2) := by simp only [cn_eq, m2]; omega
      have f0 : (q.2 91 (60 * l1.toNatClampNeg + (l2.toNatClampNeg + 3 * k))).toInt32 = E (l2.toNatClampNeg + 3 * k) := (hE _ (by omega)).symm
      have f1 : (q.2 91 (60 * l1.toNatClampNeg + (l2.toNatClampNeg + 3 * k + 1))).toInt32 = E (l2.toNatClampNeg + 3 * k + 1) := (hE _ (by omega)).symm
      have f2 : (q.2 91 (60 * l1.toNatClampNeg + (l2.toNatClampNeg + 3 * k + 2))).toInt32 = E (l2.toNatClampNeg + 3 * k + 2) := (hE _ (by omega)).symm
      rw [w91, n0, n1, n2, f0, f1, f2]
      generalize hE0 : E (l2.toNatClampNeg + 3 * k) = b0 at *
      generalize hE1 : E (l2.toNatClampNeg + 3 * k + 1) = b1 at *
      generalize hE2 : E (l2.toNatClampNeg + 3 * k + 2) = b2 at *
      refine T_p v0 (T_p v1 (T_rw (m_areTicket (q := z) (by rw [wp]; exact p0) b0 b1) ?_))
      rw [wp]
      refine T_bi (fun c => stop (fun y => c ?_)) (fun c => T_p v2 (T_rw (m_in z b2 0 4) (T_bi (fun d => stop (fun y => d ?_)) (fun d => T_p v0 (T_p v1 (T_p v2 (T_rw (m_addTicket (q := z) (by rw [w60]; exact kv0) kz b0 b1 b2) (hr _ _ _ _ _ ⟨rfl, rfl, rfl, k + 1, e1, by omega, fun j hj => ?_, ?_⟩ ?_))))))))
      · have y2 := y.2.1
        have y3 := y.2.2.1
        rw [hE0] at y2
        rw [hE1] at y3
        exact ⟨y2, y3⟩
      · have y4 := y.2.2.2.1
        rw [hE2] at y4
        exact y4
      · by_cases e : j = k
        · subst e
          refine ⟨g1, ?_, ?_, ?_, ?_⟩
          · rw [hE0]; exact c.1
          · rw [hE1]; exact c.2
          · rw [hE2]; exact d
          · rw [w60] at kz; omega
        · exact ok j (by omega)
      · show hiT (mAT (xAT (VT q E l2.toNatClampNeg k) _ _ _) _ _ _) x _
        rw [hE0, hE1, hE2, hv]
        refine ⟨fun j hj => ?_, fun j hj => ?_, z3⟩
        · unfold mAT
          show _ = (sI (sI (sI (sI (xAT V b0 b1 b2) 65 (V.1 60 6).toNatClampNeg b0) 66 (V.1 60 6).toNatClampNeg b1) 67 (V.1 60 6).toNatClampNeg b2) 60 6 (V.1 60 6 + 1)).1 j
          have xo : ∀ u, 60 ≤ u → (xAT V b0 b1 b2).1 u = V.1 u := fun u hu => by
            unfold xAT
            rw [sI_ro (by omega), sI_ro (by omega), sI_ro (by omega), sI_ro (by omega)]
          rw [w60]
          by_cases j0 : j = 60
          · subst j0; funext u; simp only [sI_rd, z1 60 (by decide), xo 60 (by decide)]
          by_cases j7 : j = 67
          · subst j7; funext u; simp only [sI_rd, z1 67 (by decide), xo 67 (by decide)]
          by_cases j6 : j = 66
          · subst j6; funext u; simp only [sI_rd, z1 66 (by decide), xo 66 (by decide)]
          by_cases j5 : j = 65
          · subst j5; funext u; simp only [sI_rd, z1 65 (by decide), xo 65 (by decide)]
          rw [sI_ro j0, sI_ro j7, sI_ro j6, sI_ro j5, sI_ro j0, sI_ro j7, sI_ro j6, sI_ro j5, xo j hj]
          exact z1 j hj
        · unfold mAT
          rw [sI_ro (by omega), sI_ro (by omega), sI_ro (by omega), sI_ro (by omega)]
          exact z2 j hj
      · rw [e1, Int32.toInt_ofNat_of_lt (by omega), ek]
        omega
  · exact T_p (by rw [lgc_ge, e5, i64]; omega) (stop (fun y => g1 y.1))

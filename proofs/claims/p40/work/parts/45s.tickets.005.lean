theorem op_tickets {q : SS} (h : INV q) (s i n : Int32) : T (f_X11_tickets q s i n) (fun r => T (f_X12_tickets r.2 s i n) (fun t => INV t.2 ∧ r.1 = t.1)) := by
  have hS := INV_RS h
  have l1' : (1 : Int32).toInt = 1 := rfl
  have l12 : (12 : Int32).toInt = 12 := rfl
  have l0 : (0 : Int32).toInt = 0 := rfl
  have m1 : ∀ r, f_X12_in r n 1 12 = some (bI (1 ≤ n.toInt ∧ n.toInt ≤ 12)) := fun r => m_in r n 1 12
  unfold f_X11_tickets
  refine T_rw (x_isShelf q s) ?_
  by_cases c : 0 ≤ s.toInt ∧ s.toInt < 6
  · refine T_bp c ?_
    have ss := cnL c.1 c.2
    by_cases d : 1 ≤ n.toInt ∧ n.toInt ≤ 12
    · refine T_ltn (by omega) (T_lep (by omega) (T_rw (x_refBytes q s) ?_))
      rw [if_pos c]
      rcases RS_shelf hS _ ss with ⟨k1, k2⟩ | ⟨k1, k2, k3, k4⟩ | ⟨k1, k2, k3⟩
      · rw [if_pos k1]
        refine T_q (by decide) (T_p rfl (T_some.mpr ?_))
        unfold f_X12_tickets b_X12_tickets_43
        exact T_rw (m_isShelf _ s) (T_bp c (T_rw (m1 _) (T_bp d (T_vp c.1 c.2 (T_p k2 (T_vp c.1 c.2 (T_p k2 (T_some.mpr ⟨h, rfl⟩))))))))
      · have n1 : ¬ q.1 27 s.toNatClampNeg = -2 := by rw [k1]; decide
        have n2 : ¬ q.1 27 s.toNatClampNeg = 0 := by rw [k1]; decide
        have n3 : ¬ q.1 89 s.toNatClampNeg = -1 := by rintro k; rw [k] at k3; exact absurd k3 (by decide)
        have n4 : ¬ q.1 89 s.toNatClampNeg = -2 := by rintro k; rw [k] at k3; exact absurd k3 (by decide)
        rw [if_neg n1, if_neg n2]
        refine T_p rfl (T_some.mpr ?_)
        unfold f_X12_tickets
        exact T_rw (m_isShelf _ s) (T_bp c (T_rw (m1 _) (T_bp d (T_vp c.1 c.2 (T_q n3 (T_vp c.1 c.2 (T_q n4 (T_some.mpr ⟨h, rfl⟩))))))))
      · have n1 : ¬ q.1 27 s.toNatClampNeg = -2 := by rintro k; rw [k] at k1; exact absurd k1 (by decide)
        have n3 : ¬ q.1 89 s.toNatClampNeg = -1 := by rintro k; rw [k] at k3; have := lm1; omega
        rw [if_neg n1]
        by_cases e : q.1 27 s.toNatClampNeg = 0
        · have n4 : q.1 89 s.toNatClampNeg = -2 := Int32.toInt_inj.mp (by rw [k3, e, lm2]; rfl)
          rw [if_pos e]
          have mod : ∀ {P : Int32 × SS → Prop} (x : SS), x.1 89 = q.1 89 → T (b_X12_tickets_58 x s i n 0) P → T (f_X12_tickets x s i n) P := by
            intro P x hx k
            unfold f_X12_tickets b_X12_tickets_43
            refine T_rw (m_isShelf _ s) (T_bp c (T_rw (m1 _) (T_bp d (T_vp c.1 c.2 (T_q (by rw [hx]; exact n3) (T_vp c.1 c.2 (T_p (by rw [hx]; exact n4) (T_vp c.1 c.2 (T_q (by rw [hx]; exact n3) k)))))))))
          have hE : ∀ z : Nat, (z : Int) < (q.1 90 s.toNatClampNeg).toInt → (fun z : Nat => (q.2 91 (60 * s.toNatClampNeg + z)).toInt32) z = (q.2 91 (60 * s.toNatClampNeg + z)).toInt32 := fun _ _ => rfl
          refine T_q (by decide) (T_q (by decide) (T_le (fun g => T_mono (x_tk h c e g d hE) (fun r hr => ?_)) (fun g => T_some.mpr (mod q rfl ?_))))
          · obtain ⟨k, r1, r2, r3, r4, r5, r6, r7⟩ := hr
            refine mod r.2 (r6 89 (by decide)) (T_mono (m_tk h r6 r7 c g d hE) (fun t ht => ?_))
            obtain ⟨m, t1, t2, t3, t4, t5, t6, t7⟩ := ht
            have ekm : k = m := by
              rcases Nat.lt_trichotomy k m with x | x | x
              · exact absurd (t3 k x) (r4 (by omega))
              · exact x
              · exact absurd (r3 m x) (t4 (by omega))
            subst ekm
            refine ⟨?_, r1.trans t1.symm⟩
            have hV := (VT_I h _ _ _ k r3).1
            have : t.2 = VT q (fun z : Nat => (q.2 91 (60 * s.toNatClampNeg + z)).toInt32) i.toNatClampNeg k := by
              refine Prod.ext (funext fun j => ?_) t7
              by_cases hj : j < 60
              · exact (t6 j hj).trans (r5 j hj)
              · exact t5 j (by omega)
            rw [this]
            exact hV
          · unfold b_X12_tickets_58
            rw [fx5_s]
            have e3 : ((3 : Int32) * 0).toInt = 0 := rfl
            have e4 : (i.toInt64 + ((3 : Int32) * 0).toInt64).toInt = i.toInt := by rw [i64add, e3]; omega
            have c0 : (0 : Int64).toInt = 0 := rfl
            exact T_len (by omega) (T_nm (T_p (by rw [lgc_neg, e4, c0]; exact g) (T_some.mpr ⟨h, rfl⟩)))
        · have n4 : ¬ q.1 89 s.toNatClampNeg = -2 := by
            intro k
            rw [k, lm2] at k3
            exact e (Int32.toInt_inj.mp (by rw [l0]; omega))
          rw [if_neg e]
          refine T_p rfl (T_some.mpr ?_)
          unfold f_X12_tickets
          exact T_rw (m_isShelf _ s) (T_bp c (T_rw (m1 _) (T_bp d (T_vp c.1 c.2 (T_q n3 (T_vp c.1 c.2 (T_q n4 (T_some.mpr ⟨h, rfl⟩))))))))
    · have key : T (f_X12_tickets q s i n) (fun t => INV t.2 ∧ -1 = t.1) := by
        unfold f_X12_tickets
        exact T_rw (m_isShelf _ s) (T_bp c (T_rw (m1 _) (T_bn d (T_some.mpr ⟨h, rfl⟩))))
      exact T_lt (fun _ => T_some.mpr key) (fun g => T_le (fun g2 => absurd ⟨by omega, by omega⟩ d) (fun _ => T_some.mpr key))
  · refine T_bn c (T_some.mpr ?_)
    unfold f_X12_tickets
    exact T_rw (m_isShelf _ s) (T_bn c (T_some.mpr ⟨h, rfl⟩))

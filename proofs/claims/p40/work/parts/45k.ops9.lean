/-! ===== what stands now, in thought; fold, hour, slip ===== -/
theorem Fr_sI2 {w : Nat → Nat → Bool} {v : Nat → Bool} {a b : SS} {k i : Nat} {x : Int32} (h : Fr w v a b) : Fr w v (sI a k i x) (sI b k i x) := by
  refine ⟨fun k2 i2 e => ?_, h.2⟩
  rw [sI_rd, sI_rd, h.1 k2 i2 e]
theorem x_begin {q : SS} (h : RY q) : T (f_X8_begin q) (fun r => r.2 = q.2 ∧ (∀ k, k ≠ 25 → r.1 k = q.1 k) ∧ ∀ t : Nat, (t : Int) < (q.1 60 6).toInt → r.1 25 t = q.1 65 t) := by
  have k0 := RY_k0 h
  have k12 := RY_k12 h
  have ek := RY_k h
  have l12 : (12 : Int32).toInt = 12 := rfl
  unfold f_X8_begin b_X8_begin_2
  refine T_fx2 (fun q' l1 => 0 ≤ l1.toInt ∧ l1.toInt ≤ 12 ∧ q'.2 = q.2 ∧ (∀ k, k ≠ 25 → q'.1 k = q.1 k) ∧ ∀ t : Nat, (t : Int) < l1.toInt → (t : Int) < (q.1 60 6).toInt → q'.1 25 t = q.1 65 t) (fun _ l1 => (12 - l1.toInt).toNat) ?_ _ _ _ ⟨by decide, by decide, rfl, fun _ _ => rfl, fun t ht => absurd ht (by simp only [Int32.reduceToInt]; omega)⟩ (by unfold FU; decide)
  rintro rec q' l1 ⟨g0, g1, g2, g3, g4⟩ hr
  refine T_le (fun g => T_some.mpr ⟨g2, g3, fun t ht => g4 t (by omega) ht⟩) (fun g => ?_)
  have e1 := inc1 (a := l1) (by omega) (by omega)
  have c1 := cnI g0
  refine T_rw (x_get4 (q := q') (by rw [g3 1 (by decide), ek]; exact k12) l1) (T_vp g0 (by show l1.toInt < 12; omega) (T_nm (hr _ _ ⟨by omega, by omega, g2, fun k hk => (sI_ro hk).trans (g3 k hk), fun t ht hk => ?_⟩ (by omega))))
  rw [sI_rd]
  by_cases e : t = l1.toNatClampNeg
  · rw [if_pos ⟨rfl, e⟩, g3 1 (by decide), g3 7 (by decide), ek, if_pos ⟨g0, by omega⟩, e, RY_holder h]
  · rw [if_neg (fun x => e x.2)]
    exact g4 t (by omega) hk
theorem m_layNow {q : SS} (k0 : 0 ≤ (q.1 60 6).toInt) (k12 : (q.1 60 6).toInt ≤ 12) : T (f_X12_layNow q) (fun r => r.2 = q.2 ∧ (∀ k, k ≠ 81 → k ≠ 60 → r.1 k = q.1 k) ∧ (∀ i, i ≠ 32 → r.1 60 i = q.1 60 i) ∧ r.1 60 32 = q.1 68 0 ∧ ∀ t : Nat, r.1 81 t = if (t : Int) < (q.1 60 6).toInt then q.1 65 t else q.1 81 t) := by
  unfold f_X12_layNow b_X12_layNow_2
  refine T_fx2 (fun q' l1 => 0 ≤ l1.toInt ∧ l1.toInt ≤ (q.1 60 6).toInt ∧ q'.2 = q.2 ∧ (∀ k, k ≠ 81 → q'.1 k = q.1 k) ∧ ∀ t : Nat, q'.1 81 t = if (t : Int) < l1.toInt then q.1 65 t else q.1 81 t) (fun _ l1 => (12 - l1.toInt).toNat) ?_ _ _ _ ⟨by decide, by simp only [Int32.reduceToInt]; omega, rfl, fun _ _ => rfl, fun t => by rw [if_neg]; simp only [Int32.reduceToInt]; omega⟩ (by unfold FU; decide)
  rintro rec q' l1 ⟨g0, g1, g2, g3, g4⟩ hr
  rw [g3 60 (by decide)]
  refine T_le (fun g => T_vp (by decide) (by decide) (T_nm (T_some.mpr ⟨g2, fun k hk h6 => (sI_ro h6).trans (g3 k hk), fun i hi => ?_, ?_, fun t => ?_⟩))) (fun g => ?_)
  · rw [sI_rd, if_neg (fun x => hi x.2), g3 60 (by decide)]
  · rw [sI_rd, if_pos ⟨rfl, rfl⟩, g3 68 (by decide)]
    rfl
  · rw [sI_rd, if_neg (fun x => absurd x.1 (by decide)), g4 t]
    have : l1.toInt = (q.1 60 6).toInt := by omega
    rw [this]
  · have e1 := inc1 (a := l1) (by omega) (by omega)
    have c1 := cnI g0
    refine T_vp g0 (by show l1.toInt < 12; omega) (T_vp g0 (by show l1.toInt < 12; omega) (T_nm (hr _ _ ⟨by omega, by omega, g2, fun k hk => (sI_ro hk).trans (g3 k hk), fun t => ?_⟩ (by omega))))
    rw [sI_rd]
    by_cases e : t = l1.toNatClampNeg
    · rw [if_pos ⟨rfl, e⟩, g3 65 (by decide), if_pos (by omega), e]
    · rw [if_neg (fun x => e x.2), g4 t]
      have : ((t : Int) < l1.toInt) ↔ ((t : Int) < (l1 + 1).toInt) := by omega
      simp only [this]
/-- behind the class's begin -/
theorem INV_begin {q r : SS} (h : INV q) (h2 : r.2 = q.2) (h1 : ∀ k, k ≠ 25 → r.1 k = q.1 k) : INV r := by
  have f : Fr wX vX q r := ⟨fun k i e => by
    have : k ≠ 25 := by
      rintro rfl
      exact absurd e (by unfold wX wE; simp)
    rw [h1 k this], fun k _ => by rw [h2]⟩
  exact INV_wX f (RJ_fr (q := q) (h1 81 (by decide)) (congrFun (h1 37 (by decide)) 3) (INV_RJ h)) h
/-- behind the model's layNow -/
theorem INV_lay {q r : SS} (h : INV q) (h2 : r.2 = q.2) (h1 : ∀ k, k ≠ 81 → k ≠ 60 → r.1 k = q.1 k) (h60 : ∀ i, i ≠ 32 → r.1 60 i = q.1 60 i) (h81 : ∀ t : Nat, r.1 81 t = if (t : Int) < (q.1 60 6).toInt then q.1 65 t else q.1 81 t) : INV r := by
  have f : Fr wM vM q r := ⟨fun k i e => by
    by_cases e81 : k = 81
    · subst e81
      exact absurd e (by unfold wM wF; simp)
    by_cases e60 : k = 60
    · subst e60
      by_cases e32 : i = 32
      · subst e32
        exact absurd e (by decide)
      · exact h60 i e32
    · rw [h1 k e81 e60], fun k _ => by rw [h2]⟩
  have p6 := RY_p6 (INV_RY h)
  have j := INV_RJ h
  refine INV_wM f ⟨?_, ?_, fun t ht => ?_⟩ h
  · rw [h1 37 (by decide) (by decide)]; exact RJ_e0 j
  · rw [h1 37 (by decide) (by decide)]; exact RJ_e12 j
  · rw [h81 t]
    by_cases e : (t : Int) < (q.1 60 6).toInt
    · rw [if_pos e]
      have := RY_rholder (INV_RY h) t e
      omega
    · rw [if_neg e]
      exact RJ_h1 j t ht
theorem op_fold {q : SS} (h : INV q) (a : Int32) : T (f_X11_fold q a) (fun r => T (f_X12_fold r.2 a) (fun s => INV s.2 ∧ r.1 = s.1)) := by
  have hY := INV_RY h
  have hD := INV_RD h
  have k0 := RY_k0 hY
  have k12 := RY_k12 hY
  have p6 := RY_p6 hY
  have ek := RY_k hY
  have ep := RY_p hY
  have l4 : (4 : Int32).toInt = 4 := rfl
  unfold f_X11_fold
  refine T_rw (x_isTicket q a) ?_
  rw [ek]
  by_cases c : 0 ≤ a.toInt ∧ a.toInt < (q.1 60 6).toInt
  · refine T_bp c (T_rw (x_get6 (q := q) (by rw [ek]; exact k12) a) ?_)
    rw [ek, if_pos c, RY_folds hY]
    have r := RY_rfolds hY a.toNatClampNeg (by rw [cnI c.1]; exact c.2)
    refine T_lt (fun g => T_rw (x_note 2 (by decide) (by decide)) ?_) (fun g => T_some.mpr ?_)
    · have e1 := inc1 (a := q.1 67 a.toNatClampNeg) (by omega) (by omega)
      refine T_rw (x_set (q := sI q 48 2 (q.1 48 2 + 1)) (by show (q.1 1 1).toInt ≤ 6; rw [ep]; exact p6) (by show (q.1 1 2).toInt ≤ 12; rw [ek]; exact k12) 6 a (q.1 67 a.toNatClampNeg + 1)) ?_
      have o : okN ((sI q 48 2 (q.1 48 2 + 1)).1 1 1).toInt ((sI q 48 2 (q.1 48 2 + 1)).1 1 2).toInt (6 : Int32).toInt a.toInt := Or.inr (Or.inl ⟨by decide, by decide, c.1, by show a.toInt < (q.1 1 2).toInt; rw [ek]; exact c.2⟩)
      rw [if_pos o]
      refine T_some.mpr ?_
      unfold f_X12_fold
      have v0 : ∀ {n : Nat}, 12 ≤ n → a.toInt < (n : Int) := fun hn => by omega
      refine T_rw (m_isTicket (q := sI (sI q 48 2 (q.1 48 2 + 1)) 9 a.toNatClampNeg (q.1 67 a.toNatClampNeg + 1)) k0 a) (T_bp c (T_vp c.1 (v0 (by decide)) (T_q (by show ¬ q.1 67 a.toNatClampNeg = 4; intro k; rw [k] at g; exact absurd g (by decide)) (T_vp c.1 (v0 (by decide)) (T_vp c.1 (v0 (by decide)) (T_nm (T_vp (by decide) (by decide) (T_vp (by decide) (by decide) (T_nm (T_vp c.1 (v0 (by decide)) (T_some.mpr ⟨?_, ?_⟩)))))))))))
      · show INV (sI (sI (sI (sI q 48 2 (q.1 48 2 + 1)) 9 a.toNatClampNeg (q.1 67 a.toNatClampNeg + 1)) 67 a.toNatClampNeg (q.1 67 a.toNatClampNeg + 1)) 83 2 (q.1 83 2 + 1))
        refine ⟨RY_fr (q := sI (sI q 9 a.toNatClampNeg (q.1 67 a.toNatClampNeg + 1)) 67 a.toNatClampNeg (q.1 67 a.toNatClampNeg + 1)) rfl rfl rfl rfl rfl rfl rfl rfl rfl rfl rfl rfl rfl rfl rfl rfl rfl rfl rfl rfl rfl rfl (RY_set6 hY (by rw [cnI c.1]; exact c.2) (by omega) (by omega)), RC_fr (q := q) rfl rfl rfl rfl rfl rfl rfl rfl rfl rfl rfl rfl rfl rfl (INV_RC h), RD_note (k := 2) hD (fun j => ?_) (fun j => ?_) (fun z hz => ?_) (fun i hi => rfl), RT_fr (q := q) rfl rfl rfl rfl (INV_RT h), RH_fr (q := q) rfl rfl rfl rfl rfl rfl rfl rfl (INV_RH h), RS_fr (q := q) rfl rfl rfl rfl rfl rfl rfl (fun _ _ => rfl) (INV_RS h), RW_fr (q := q) rfl rfl rfl rfl rfl rfl (INV_RW h), RJ_fr (q := q) rfl rfl (INV_RJ h)⟩
        · simp [sI_rd]
        · simp [sI_rd]
        · simp at hz
          rcases hz with rfl | rfl | rfl | rfl | rfl | rfl | rfl <;> rfl
      · exact (if_pos ⟨rfl, rfl⟩ : (if 67 = 67 ∧ a.toNatClampNeg = a.toNatClampNeg then q.1 67 a.toNatClampNeg + 1 else q.1 67 a.toNatClampNeg) = _).symm
    · have e4 : q.1 67 a.toNatClampNeg = 4 := Int32.toInt_inj.mp (by omega)
      unfold f_X12_fold
      exact T_rw (m_isTicket k0 a) (T_bp c (T_vp c.1 (by show a.toInt < 12; omega) (T_p e4 (T_some.mpr ⟨h, rfl⟩))))
  · refine T_bn c (T_some.mpr ?_)
    unfold f_X12_fold
    exact T_rw (m_isTicket k0 a) (T_bn c (T_some.mpr ⟨h, rfl⟩))
theorem op_hour {q : SS} (h : INV q) : T (f_X11_hour q) (fun r => T (f_X12_hour r.2) (fun s => INV s.2 ∧ r.1 = s.1)) := by
  have hY := INV_RY h
  have hD := INV_RD h
  have h0 := RY_h0 hY
  have h11 := RY_h11 hY
  have eh := RY_hour hY
  have l11 : (11 : Int32).toInt = 11 := rfl
  have fin : ∀ v : Int32, 0 ≤ v.toInt → v.toInt ≤ 11 → v = (if q.1 68 0 = 11 then 0 else q.1 68 0 + 1) → T (b_X11_hour_25 q v) (fun r => T (f_X12_hour r.2) (fun s => INV s.2 ∧ r.1 = s.1)) := by
    intro v v0 v1 ev
    unfold b_X11_hour_25
    refine T_rw (x_note 3 (by decide) (by decide)) (T_rw (x_set (q := sI q 48 3 (q.1 48 3 + 1)) (by show (q.1 1 1).toInt ≤ 6; rw [RY_p hY]; exact RY_p6 hY) (by show (q.1 1 2).toInt ≤ 12; rw [RY_k hY]; exact RY_k12 hY) 7 0 v) ?_)
    rw [if_pos (Or.inr (Or.inr ⟨by decide, by decide, rfl⟩))]
    refine T_some.mpr ?_
    unfold f_X12_hour
    have inv : INV (sI (sI (sI (sI q 48 3 (q.1 48 3 + 1)) 10 0 v) 68 0 v) 83 3 (q.1 83 3 + 1)) := by
      refine ⟨RY_fr (q := sI (sI q 10 0 v) 68 0 v) rfl rfl rfl rfl rfl rfl rfl rfl rfl rfl rfl rfl rfl rfl rfl rfl rfl rfl rfl rfl rfl rfl (RY_set7 hY v0 v1), RC_fr (q := q) rfl rfl rfl rfl rfl rfl rfl rfl rfl rfl rfl rfl rfl rfl (INV_RC h), RD_note (k := 3) hD (fun j => ?_) (fun j => ?_) (fun z hz => ?_) (fun i hi => rfl), RT_fr (q := q) rfl rfl rfl rfl (INV_RT h), RH_fr (q := q) rfl rfl rfl rfl rfl rfl rfl rfl (INV_RH h), RS_fr (q := q) rfl rfl rfl rfl rfl rfl rfl (fun _ _ => rfl) (INV_RS h), RW_fr (q := q) rfl rfl rfl rfl rfl rfl (INV_RW h), RJ_fr (q := q) rfl rfl (INV_RJ h)⟩
      · simp [sI_rd]
      · simp [sI_rd]
      · simp at hz
        rcases hz with rfl | rfl | rfl | rfl | rfl | rfl | rfl <;> rfl
    have fin2 : T (b_X12_hour_28 (sI (sI q 48 3 (q.1 48 3 + 1)) 10 0 v) v 0) (fun s => INV s.2 ∧ v = s.1) := by
      unfold b_X12_hour_28
      exact T_vp (by decide) (by decide) (T_nm (T_vp (by decide) (by decide) (T_vp (by decide) (by decide) (T_nm (T_vp (by decide) (by decide) (T_some.mpr ⟨inv, rfl⟩))))))
    refine T_vp (by decide) (by decide) ?_
    by_cases g : q.1 68 0 = 11
    · rw [if_pos g] at ev
      subst ev
      exact T_p g fin2
    · rw [if_neg g] at ev
      subst ev
      exact T_q g (T_vp (by decide) (by decide) fin2)
  unfold f_X11_hour
  refine T_rw (x_hourNow q) ?_
  rw [eh]
  refine T_lt (fun g => T_rw (x_hourNow q) ?_) (fun g => ?_)
  · rw [eh]
    have e1 := inc1 (a := q.1 68 0) (by omega) (by omega)
    exact fin _ (by omega) (by omega) (by rw [if_neg]; intro k; rw [k] at g; exact absurd g (by decide))
  · exact fin 0 (by decide) (by decide) (by rw [if_pos]; exact Int32.toInt_inj.mp (by omega))
theorem areS {P K : Int} {a : Int32} (c : 0 ≤ a.toInt ∧ a.toInt / 8 < K ∧ a.toInt % 8 < P) : jshr a 3 = a / 8 ∧ a &&& 7 = jrem a 8 ∧ 0 ≤ (a / 8).toInt ∧ (a / 8).toInt < K ∧ 0 ≤ (jrem a 8).toInt ∧ (jrem a 8).toInt < P := by
  have d := div8 c.1
  have r := rem8 c.1
  exact ⟨shr_div c.1, and_rem c.1, by omega, by omega, by omega, by omega⟩
theorem op_slip {q : SS} (h : INV q) (a b : Int32) : T (f_X11_slip q a b) (fun r => T (f_X12_slip r.2 a b) (fun s => INV s.2 ∧ r.1 = s.1)) := by
  have hY := INV_RY h
  have p0 := RY_p0 hY
  have p6 := RY_p6 hY
  have k0 := RY_k0 hY
  have k12 := RY_k12 hY
  have ek := RY_k hY
  have ep := RY_p hY
  have l1 : (1 : Int32).toInt = 1 := rfl
  have l0 : (0 : Int32).toInt = 0 := rfl
  have m1 : ∀ r, f_X12_in r b 0 1 = some (bI (0 ≤ b.toInt ∧ b.toInt ≤ 1)) := fun r => m_in r b 0 1
  unfold f_X11_slip
  refine T_rw (x_isSlipping q a) ?_
  rw [ek, ep]
  by_cases c : 0 ≤ a.toInt ∧ a.toInt / 8 < (q.1 60 6).toInt ∧ a.toInt % 8 < (q.1 60 1).toInt
  · obtain ⟨es, er, d0, d1, r0, r1⟩ := areS c
    refine T_bp c ?_
    by_cases w : 0 ≤ b.toInt ∧ b.toInt ≤ 1
    · refine T_ltn w.1 (T_lep w.2 (T_nm (T_nm ?_)))
      rw [es, er]
      generalize ha : a / 8 = t at *
      generalize hb : jrem a 8 = p at *
      unfold f_X11_now
      refine T_b (T_b (x_begin hY) (fun r hr => T_some.mpr hr)) (fun r hr => ?_)
      obtain ⟨hr2, hr1, hr25⟩ := hr
      have hI := INV_begin h hr2 hr1
      have hYr := INV_RY hI
      have i60 : r.1 60 = q.1 60 := hr1 60 (by decide)
      have i1 : r.1 1 = q.1 1 := hr1 1 (by decide)
      have ek' : r.1 1 2 = q.1 60 6 := by rw [i1, ek]
      have ep' : r.1 1 1 = q.1 60 1 := by rw [i1, ep]
      have k12' : (r.1 1 2).toInt ≤ 12 := by rw [ek']; exact k12
      have p6' : (r.1 1 1).toInt ≤ 6 := by rw [ep']; exact p6
      have ct := cnI d0
      refine T_rw (x_canSlip (q := r) p6' k12' t p) ?_
      have e25 : r.1 25 t.toNatClampNeg = q.1 65 t.toNatClampNeg := hr25 _ (by omega)
      have e9 : r.1 9 t.toNatClampNeg = q.1 67 t.toNatClampNeg := by rw [hr1 9 (by decide), RY_folds hY]
      have e4 : r.1 4 p.toNatClampNeg = q.1 62 p.toNatClampNeg := by rw [hr1 4 (by decide), RY_child hY]
      rw [ek', ep', e25, e9, e4]
      have rf := RY_rfolds hY t.toNatClampNeg (by omega)
      have l4 : (4 : Int32).toInt = 4 := rfl
      have f4 : (q.1 67 t.toNatClampNeg).toInt < 4 ↔ q.1 67 t.toNatClampNeg ≠ 4 := ⟨fun g k => by rw [k] at g; exact absurd g (by decide), fun g => by have : (q.1 67 t.toNatClampNeg).toInt ≠ 4 := fun k => g (Int32.toInt_inj.mp k); omega⟩
      -- the model behind any writes of the class's cells
      have mod : ∀ {P : Int32 × SS → Prop} (z : SS), (∀ k, 60 ≤ k → z.1 k = r.1 k) → (∀ z3 : SS, z3.2 = z.2 → (∀ k, k ≠ 81 → k ≠ 60 → z3.1 k = z.1 k) → (∀ i, i ≠ 32 → z3.1 60 i = z.1 60 i) → (∀ t : Nat, z3.1 81 t = if (t : Int) < (q.1 60 6).toInt then q.1 65 t else q.1 81 t) → T (if bI (q.1 67 t.toNatClampNeg ≠ 4 ∧ q.1 65 t.toNatClampNeg ≠ p ∧ q.1 62 p.toNatClampNeg = 0) = 0 then (some ((-5 : Int32), z3)) else (if b = (1 : Int32) then (if vin t 12 then nm (sI z3 65 t.toNatClampNeg p) fun q5 => b_X12_slip_59 q5 a b else none) else (b_X12_slip_59 z3 a b))) P) → T (f_X12_slip z a b) P := by
        intro P z hz k
        have z60 : z.1 60 = q.1 60 := (hz 60 (by decide)).trans i60
        unfold f_X12_slip
        refine T_rw (m_areSlip (by rw [z60]; exact p0) (by rw [z60]; exact k0) a) ?_
        rw [z60]
        refine T_bp c (T_rw (m1 _) (T_bp w (T_b (m_layNow (by rw [z60]; exact k0) (by rw [z60]; exact k12)) (fun z3 hz3 => ?_))))
        obtain ⟨a1, a2, a3, a4, a5⟩ := hz3
        rw [ha, hb]
        have a5' : ∀ t : Nat, z3.1 81 t = if (t : Int) < (q.1 60 6).toInt then q.1 65 t else q.1 81 t := fun t => by
          rw [a5 t, z60, hz 65 (by decide), hz 81 (by decide), hr1 65 (by decide), hr1 81 (by decide)]
        refine T_rw (m_maySlip (q := z3) ⟨d0, by omega⟩ ⟨r0, by omega⟩) ?_
        rw [a5' t.toNatClampNeg, if_pos (show (t.toNatClampNeg : Int) < (q.1 60 6).toInt by omega), a2 67 (by decide) (by decide), a2 62 (by decide) (by decide), hz 67 (by decide), hz 62 (by decide), hr1 67 (by decide), hr1 62 (by decide)]
        exact k z3 a1 a2 a3 a5'
      refine T_bi (fun g => T_some.mpr (mod r (fun _ _ => rfl) (fun z3 a1 a2 a3 a5 => T_bn ?_ (T_some.mpr ⟨?_, rfl⟩)))) (fun g => ?_)
      · intro k
        exact g ⟨d0, d1, f4.mpr k.1, k.2.1, r0, r1, k.2.2⟩
      · exact INV_lay hI a1 a2 a3 (fun t => by rw [a5 t, i60, hr1 65 (by decide), hr1 81 (by decide)])
      · have g' : q.1 67 t.toNatClampNeg ≠ 4 ∧ q.1 65 t.toNatClampNeg ≠ p ∧ q.1 62 p.toNatClampNeg = 0 := ⟨f4.mp g.2.2.1, g.2.2.2.1, g.2.2.2.2.2.2⟩
        refine T_rw (x_note 0 (by decide) (by decide)) ?_
        by_cases e : b = 1
        · subst e
          refine T_p rfl (T_rw (x_note 1 (by decide) (by decide)) ?_)
          have o : okN (r.1 1 1).toInt (r.1 1 2).toInt (4 : Int32).toInt t.toInt := Or.inr (Or.inl ⟨by decide, by decide, d0, by rw [ek']; exact d1⟩)
          refine T_rw (x_set (q := sI (sI r 48 0 (r.1 48 0 + 1)) 48 1 ((sI r 48 0 (r.1 48 0 + 1)).1 48 1 + 1)) p6' k12' 4 t p) ?_
          rw [if_pos (show okN ((sI (sI r 48 0 (r.1 48 0 + 1)) 48 1 ((sI r 48 0 (r.1 48 0 + 1)).1 48 1 + 1)).1 1 1).toInt ((sI (sI r 48 0 (r.1 48 0 + 1)) 48 1 ((sI r 48 0 (r.1 48 0 + 1)).1 48 1 + 1)).1 1 2).toInt (4 : Int32).toInt t.toInt from o)]
          unfold b_X11_slip_80
          refine T_rw (x_get4 (q := sI (sI (sI r 48 0 (r.1 48 0 + 1)) 48 1 ((sI r 48 0 (r.1 48 0 + 1)).1 48 1 + 1)) 7 t.toNatClampNeg p) k12' t) ?_
          have ev : (if 0 ≤ t.toInt ∧ t.toInt < ((sI (sI (sI r 48 0 (r.1 48 0 + 1)) 48 1 ((sI r 48 0 (r.1 48 0 + 1)).1 48 1 + 1)) 7 t.toNatClampNeg p).1 1 2).toInt then (sI (sI (sI r 48 0 (r.1 48 0 + 1)) 48 1 ((sI r 48 0 (r.1 48 0 + 1)).1 48 1 + 1)) 7 t.toNatClampNeg p).1 7 t.toNatClampNeg else 0) = p := by
            rw [if_pos ⟨d0, by show t.toInt < (r.1 1 2).toInt; rw [ek']; exact d1⟩, rds]
          rw [ev]
          refine T_some.mpr (mod _ (fun k hk => by show (sI _ 7 _ _).1 k = _; rw [sI_ro (by omega), sI_ro (by omega), sI_ro (by omega)]) (fun z3 a1 a2 a3 a5 => T_bp g' (T_p rfl (T_vp d0 (by show t.toInt < 12; omega) (T_nm ?_)))))
          have B : INV (sI (sI (sI (sI (sI (sI r 48 0 (r.1 48 0 + 1)) 48 1 (r.1 48 1 + 1)) 7 t.toNatClampNeg p) 65 t.toNatClampNeg p) 83 0 (r.1 83 0 + 1)) 83 1 (r.1 83 1 + 1)) := by
            have hD1 : RD (sI (sI r 48 0 (r.1 48 0 + 1)) 83 0 (r.1 83 0 + 1)) := RD_note (k := 0) (INV_RD hI) (fun j => by simp [sI_rd]) (fun j => by simp [sI_rd]) (fun z hz => by simp at hz; rcases hz with rfl | rfl | rfl | rfl | rfl | rfl | rfl <;> rfl) (fun i hi => rfl)
            refine ⟨RY_fr (q := sI (sI r 7 t.toNatClampNeg p) 65 t.toNatClampNeg p) rfl rfl rfl rfl rfl rfl rfl rfl rfl rfl rfl rfl rfl rfl rfl rfl rfl rfl rfl rfl rfl rfl (RY_set4 hYr (by rw [i60]; omega) r0 (by rw [i60]; exact r1)), RC_fr (q := r) rfl rfl rfl rfl rfl rfl rfl rfl rfl rfl rfl rfl rfl rfl (INV_RC hI), RD_note (k := 1) hD1 (fun j => ?_) (fun j => ?_) (fun z hz => ?_) (fun i hi => rfl), RT_fr (q := r) rfl rfl rfl rfl (INV_RT hI), RH_fr (q := r) rfl rfl rfl rfl rfl rfl rfl rfl (INV_RH hI), RS_fr (q := r) rfl rfl rfl rfl rfl rfl rfl (fun _ _ => rfl) (INV_RS hI), RW_fr (q := r) rfl rfl rfl rfl rfl rfl (INV_RW hI), RJ_fr (q := r) rfl rfl (INV_RJ hI)⟩
            · simp [sI_rd]
            · simp [sI_rd]
            · simp at hz
              rcases hz with rfl | rfl | rfl | rfl | rfl | rfl | rfl <;> rfl
          unfold b_X12_slip_59
          refine T_vp (by decide) (by decide) (T_vp (by decide) (by decide) (T_nm (T_vp (by decide) (by decide) (T_vp (by decide) (by decide) (T_nm ?_)))))
          rw [ha]
          refine T_vp d0 (by show t.toInt < 12; omega) (T_some.mpr ⟨?_, ?_⟩)
          · have z83 : z3.1 83 = r.1 83 := by rw [a2 83 (by decide) (by decide), sI_ro (by decide), sI_ro (by decide), sI_ro (by decide)]
            show INV (sI (sI (sI z3 65 t.toNatClampNeg p) 83 0 (z3.1 83 0 + 1)) 83 1 (z3.1 83 1 + 1))
            rw [z83]
            have f : Fr wM vM (sI (sI (sI r 48 0 (r.1 48 0 + 1)) 48 1 (r.1 48 1 + 1)) 7 t.toNatClampNeg p) z3 := ⟨fun k i e => by
              by_cases e81 : k = 81
              · subst e81
                exact absurd e (by unfold wM wF; simp)
              by_cases e60 : k = 60
              · subst e60
                by_cases e32 : i = 32
                · subst e32
                  exact absurd e (by decide)
                · exact a3 i e32
              · rw [a2 k e81 e60]; rfl, fun k _ => by rw [a1]; rfl⟩
            refine INV_wM (Fr_sI2 (Fr_sI2 (Fr_sI2 f))) ?_ B
            refine ⟨?_, ?_, fun t ht => ?_⟩
            · have j := RJ_e0 (INV_RJ hI)
              have e : z3.1 37 3 = r.1 37 3 := by rw [a2 37 (by decide) (by decide)]; rfl
              show 0 ≤ (z3.1 37 3).toInt
              rw [e]; exact j
            · have j := RJ_e12 (INV_RJ hI)
              have e : z3.1 37 3 = r.1 37 3 := by rw [a2 37 (by decide) (by decide)]; rfl
              show (z3.1 37 3).toInt ≤ 12
              rw [e]; exact j
            · show 0 ≤ (z3.1 81 t).toInt ∧ (z3.1 81 t).toInt ≤ 5
              rw [a5 t]
              by_cases e : (t : Int) < (q.1 60 6).toInt
              · rw [if_pos e]
                have := RY_rholder hY t e
                omega
              · rw [if_neg e]
                exact RJ_h1 (INV_RJ h) t ht
          · exact (if_pos ⟨rfl, rfl⟩ : (if 65 = 65 ∧ t.toNatClampNeg = t.toNatClampNeg then p else z3.1 65 t.toNatClampNeg) = p).symm
        · have b0 : b = 0 := by
            have : b.toInt ≠ 1 := fun k => e (Int32.toInt_inj.mp k)
            exact Int32.toInt_inj.mp (by omega)
          subst b0
          refine T_q e ?_
          unfold b_X11_slip_80
          refine T_rw (x_get4 (q := sI r 48 0 (r.1 48 0 + 1)) k12' t) ?_
          have ev : (if 0 ≤ t.toInt ∧ t.toInt < ((sI r 48 0 (r.1 48 0 + 1)).1 1 2).toInt then (sI r 48 0 (r.1 48 0 + 1)).1 7 t.toNatClampNeg else 0) = q.1 65 t.toNatClampNeg := by
            rw [if_pos ⟨d0, by show t.toInt < (r.1 1 2).toInt; rw [ek']; exact d1⟩]
            show r.1 7 t.toNatClampNeg = _
            rw [hr1 7 (by decide), RY_holder hY]
          rw [ev]
          refine T_some.mpr (mod _ (fun k hk => by rw [sI_ro (by omega)]) (fun z3 a1 a2 a3 a5 => T_bp g' (T_q e ?_)))
          have B : INV (sI (sI (sI r 48 0 (r.1 48 0 + 1)) 83 0 (r.1 83 0 + 1)) 83 1 (r.1 83 1 + 0)) := by
            have hD1 : RD (sI (sI r 48 0 (r.1 48 0 + 1)) 83 0 (r.1 83 0 + 1)) := RD_note (k := 0) (INV_RD hI) (fun j => by simp [sI_rd]) (fun j => by simp [sI_rd]) (fun z hz => by simp at hz; rcases hz with rfl | rfl | rfl | rfl | rfl | rfl | rfl <;> rfl) (fun i hi => rfl)
            have e83 : (sI (sI (sI r 48 0 (r.1 48 0 + 1)) 83 0 (r.1 83 0 + 1)) 83 1 (r.1 83 1 + 0)).1 83 = (sI (sI r 48 0 (r.1 48 0 + 1)) 83 0 (r.1 83 0 + 1)).1 83 := by
              funext j
              by_cases ej : j = 1
              · subst ej
                simp [sI_rd]
              · simp [sI_rd, ej]
            exact ⟨RY_fr (q := r) rfl rfl rfl rfl rfl rfl rfl rfl rfl rfl rfl rfl rfl rfl rfl rfl rfl rfl rfl rfl rfl rfl hYr, RC_fr (q := r) rfl rfl rfl rfl rfl rfl rfl rfl rfl rfl rfl rfl rfl rfl (INV_RC hI), RD_fr (q := sI (sI r 48 0 (r.1 48 0 + 1)) 83 0 (r.1 83 0 + 1)) rfl rfl rfl rfl e83 rfl rfl rfl rfl rfl rfl rfl rfl rfl rfl rfl hD1, RT_fr (q := r) rfl rfl rfl rfl (INV_RT hI), RH_fr (q := r) rfl rfl rfl rfl rfl rfl rfl rfl (INV_RH hI), RS_fr (q := r) rfl rfl rfl rfl rfl rfl rfl (fun _ _ => rfl) (INV_RS hI), RW_fr (q := r) rfl rfl rfl rfl rfl rfl (INV_RW hI), RJ_fr (q := r) rfl rfl (INV_RJ hI)⟩
          unfold b_X12_slip_59
          refine T_vp (by decide) (by decide) (T_vp (by decide) (by decide) (T_nm (T_vp (by decide) (by decide) (T_vp (by decide) (by decide) (T_nm ?_)))))
          rw [ha]
          refine T_vp d0 (by show t.toInt < 12; omega) (T_some.mpr ⟨?_, ?_⟩)
          · have z83 : z3.1 83 = r.1 83 := by rw [a2 83 (by decide) (by decide), sI_ro (by decide)]
            show INV (sI (sI z3 83 0 (z3.1 83 0 + 1)) 83 1 (z3.1 83 1 + 0))
            rw [z83]
            have f : Fr wM vM (sI r 48 0 (r.1 48 0 + 1)) z3 := ⟨fun k i e => by
              by_cases e81 : k = 81
              · subst e81
                exact absurd e (by unfold wM wF; simp)
              by_cases e60 : k = 60
              · subst e60
                by_cases e32 : i = 32
                · subst e32
                  exact absurd e (by decide)
                · exact a3 i e32
              · rw [a2 k e81 e60]; rfl, fun k _ => by rw [a1]; rfl⟩
            refine INV_wM (Fr_sI2 (Fr_sI2 f)) ?_ B
            refine ⟨?_, ?_, fun t ht => ?_⟩
            · have j := RJ_e0 (INV_RJ hI)
              have e : z3.1 37 3 = r.1 37 3 := by rw [a2 37 (by decide) (by decide)]; rfl
              show 0 ≤ (z3.1 37 3).toInt
              rw [e]; exact j
            · have j := RJ_e12 (INV_RJ hI)
              have e : z3.1 37 3 = r.1 37 3 := by rw [a2 37 (by decide) (by decide)]; rfl
              show (z3.1 37 3).toInt ≤ 12
              rw [e]; exact j
            · show 0 ≤ (z3.1 81 t).toInt ∧ (z3.1 81 t).toInt ≤ 5
              rw [a5 t]
              by_cases e : (t : Int) < (q.1 60 6).toInt
              · rw [if_pos e]
                have := RY_rholder hY t e
                omega
              · rw [if_neg e]
                exact RJ_h1 (INV_RJ h) t ht
          · show q.1 65 t.toNatClampNeg = z3.1 65 t.toNatClampNeg
            rw [a2 65 (by decide) (by decide), sI_ro (by decide), hr1 65 (by decide)]
    · have key : T (f_X12_slip q a b) (fun s => INV s.2 ∧ -1 = s.1) := by
        unfold f_X12_slip
        exact T_rw (m_areSlip p0 k0 a) (T_bp c (T_rw (m1 _) (T_bn w (T_some.mpr ⟨h, rfl⟩))))
      refine T_lt (fun _ => T_some.mpr key) (fun g => T_le (fun g2 => absurd ⟨g, g2⟩ w) (fun _ => T_some.mpr key))
  · refine T_bn c (T_some.mpr ?_)
    unfold f_X12_slip
    exact T_rw (m_areSlip p0 k0 a) (T_bn c (T_some.mpr ⟨h, rfl⟩))

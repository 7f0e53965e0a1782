/-! ===== led, trace, taken, count; fold, hour ===== -/
theorem op_led {q : SS} (h : INV q) (a : Int32) : T (f_X11_led q a) (fun r => T (f_X12_led q a) (fun s => r = s)) := by
  have hD := INV_RD h
  have m1 : f_X12_in q a 0 3 = some (bI (0 ≤ a.toInt ∧ a.toInt ≤ 3)) := m_in q a 0 3
  unfold f_X11_led b_X11_led_9 f_X1_noted
  refine T_lt (fun g => T_some.mpr ?_) (fun g => T_lt (fun g2 => ?_) (fun g2 => T_some.mpr ?_))
  · unfold f_X12_led
    refine T_rw m1 (T_bn ?_ (T_some.mpr rfl))
    have l0 : (0 : Int32).toInt = 0 := rfl
    omega
  · have l0 : (0 : Int32).toInt = 0 := rfl
    have l4 : (4 : Int32).toInt = 4 := rfl
    refine T_b (T_ltn g (T_len g2 (T_vp g (by show a.toInt < 4; omega) (T_some.mpr (Eq.refl _))))) (fun r hr => T_some.mpr ?_)
    unfold f_X12_led
    refine T_rw m1 (T_bp (by omega) (T_vp g (by show a.toInt < 4; omega) (T_some.mpr ?_)))
    rw [← hr, RD_notes hD]
  · unfold f_X12_led
    refine T_rw m1 (T_bn ?_ (T_some.mpr rfl))
    have l4 : (4 : Int32).toInt = 4 := rfl
    omega
theorem op_trace {q : SS} (h : INV q) (a : Int32) : T (f_X11_trace q a) (fun r => T (f_X12_trace q a) (fun s => r = s)) := by
  have hH := INV_RH h
  have er := RH_ran hH
  have et := RH_trace hH
  have l0 : (0 : Int32).toInt = 0 := rfl
  have l24 : (24 : Int32).toInt = 24 := rfl
  unfold f_X11_trace b_X11_trace_15 f_X3_traceAt f_X3_traced f_X12_trace
  refine T_lt (fun g => T_some.mpr (T_ltp g (T_some.mpr rfl))) (fun g => T_rw rfl ?_)
  rw [er]
  have ej : (jmin (q.1 60 54) 24).toInt = if (q.1 60 54).toInt ≤ 24 then (q.1 60 54).toInt else 24 := by
    unfold jmin
    by_cases e : (24 : Int32) < q.1 60 54
    · have e2 := Int32.lt_iff_toInt_lt.mp e
      rw [if_pos e, if_neg (by omega)]
      rfl
    · have e2 := Int32.le_iff_toInt_le.mp (Int32.not_lt.mp e)
      rw [if_neg e, if_pos (by omega)]
  refine T_lt (fun g2 => ?_) (fun g2 => T_some.mpr ?_)
  · have g3 : a.toInt < (q.1 60 54).toInt ∧ a.toInt < 24 := by split at ej <;> omega
    refine T_b (T_ltn g (T_rw rfl (T_len g2 (T_vp g g3.2 (T_some.mpr (Eq.refl _)))))) (fun r hr => T_some.mpr ?_)
    exact T_ltn g (T_len g3.1 (T_len (by omega) (T_vp g g3.2 (T_some.mpr (by rw [← hr, et])))))
  · refine T_ltn g (T_le (fun _ => T_some.mpr rfl) (fun g4 => T_lep (by split at ej <;> omega) (T_some.mpr rfl)))
def q00 : SS := (fun _ _ => 0, fun _ _ => 0)
theorem isU_x (q : SS) : f_X3_isUnder q = f_X3_isUnder q00 := rfl
theorem isU_m (q : SS) : f_X12_isUnder q = f_X12_isUnder q00 := rfl
set_option maxRecDepth 100000 in
theorem isU_t : ∀ k, k < 8 → ∀ j, j < 8 → f_X3_isUnder q00 (Int32.ofNat k) (Int32.ofNat j) = f_X12_isUnder q00 (Int32.ofNat k) (Int32.ofNat j) ∧ (f_X12_isUnder q00 (Int32.ofNat k) (Int32.ofNat j) = some 0 ∨ f_X12_isUnder q00 (Int32.ofNat k) (Int32.ofNat j) = some 1) := by decide +kernel
set_option maxRecDepth 100000 in
theorem isU_n : ∀ j, j < 8 → f_X3_isUnder q00 (-1) (Int32.ofNat j) = some 0 := by decide +kernel
theorem ofN {a : Int32} {n : Nat} (h0 : 0 ≤ a.toInt) (h : a.toInt < (n : Int)) : ∃ m, m < n ∧ a = Int32.ofNat m := ⟨a.toNatClampNeg, cnL h0 h, (Int32.ofNat_toNatClampNeg a (Int32.le_iff_toInt_le.mpr h0)).symm⟩
theorem isU {q : SS} {k j : Int32} (hk : 0 ≤ k.toInt ∧ k.toInt ≤ 7) (hj : 0 ≤ j.toInt ∧ j.toInt < 8) : ∃ v : Int32, (v = 0 ∨ v = 1) ∧ f_X3_isUnder q k j = some v ∧ f_X12_isUnder q k j = some v := by
  obtain ⟨m, hm, rfl⟩ := ofN (n := 8) hk.1 (by omega)
  obtain ⟨n, hn, rfl⟩ := ofN (n := 8) hj.1 (by omega)
  rw [isU_x, isU_m]
  obtain ⟨e1, e2 | e2⟩ := isU_t m hm n hn
  · exact ⟨0, Or.inl rfl, e1.trans e2, e2⟩
  · exact ⟨1, Or.inr rfl, e1.trans e2, e2⟩
theorem op_taken {q : SS} (h : INV q) (a b : Int32) : T (f_X11_taken q a b) (fun r => T (f_X12_taken q a b) (fun s => r = s)) := by
  have hS := INV_RS h
  have hH := INV_RH h
  have l50 := RH_b50 hH
  have eb := RH_bodies hH
  have m1 : f_X12_in q b 0 7 = some (bI (0 ≤ b.toInt ∧ b.toInt ≤ 7)) := m_in q b 0 7
  unfold f_X11_taken b_X11_taken_64
  refine T_rw (x_isShelf q a) ?_
  by_cases c : 0 ≤ a.toInt ∧ a.toInt < 6
  · have hs := cnL c.1 c.2
    refine T_bp c (T_rw (x_isKind q b) ?_)
    by_cases d : 0 ≤ b.toInt ∧ b.toInt < 8
    · refine T_bp d (T_rw (x_isEmpty q a) ?_)
      rcases RS_shelf hS _ hs with ⟨k1, k2⟩ | ⟨k1, k2, k3, k4⟩ | ⟨k1, k2, k3⟩
      · refine T_bp ⟨c.1, c.2, k1⟩ (T_some.mpr ?_)
        unfold f_X12_taken
        exact T_rw (m_isShelf _ a) (T_bp c (T_rw m1 (T_bp (by omega) (T_vp c.1 c.2 (T_p k2 (T_some.mpr rfl))))))
      · have n1 : ¬ q.1 27 a.toNatClampNeg = -2 := by rw [k1]; decide
        have n2 : ¬ q.1 89 a.toNatClampNeg = -1 := by rintro k; rw [k] at k3; exact absurd k3 (by decide)
        refine T_bn (fun k => n1 k.2.2) (T_rw (x_isRow q a) (T_bn (fun k => by rw [k1] at k; exact absurd k.2.2.1 (by decide)) (T_rw (x_bodyOn q a) ?_)))
        rw [if_pos ⟨c.1, c.2, k1⟩, ← k2]
        refine T_rw (x_kindOf q (by rw [eb]; exact l50) _) ?_
        rw [eb, if_pos ⟨k3, k4⟩, RH_kind hH]
        have kk := RH_rkind hH (q.1 89 a.toNatClampNeg).toNatClampNeg (by rw [cnI k3]; exact k4)
        obtain ⟨v, hv, e1, e2⟩ := isU (q := q) (k := q.1 87 (q.1 89 a.toNatClampNeg).toNatClampNeg) (j := b) kk d
        refine T_rw e1 ?_
        have key : ∀ w : Int32, T (if v = 0 then some (-12 : Int32) else some (q.1 87 (q.1 89 a.toNatClampNeg).toNatClampNeg)) (fun s => w = s) → T (f_X12_taken q a b) (fun s => w = s) := by
          intro w k
          unfold f_X12_taken
          refine T_rw (m_isShelf _ a) (T_bp c (T_rw m1 (T_bp (by omega) (T_vp c.1 c.2 (T_q n2 (T_vp c.1 c.2 (T_ltn k3 (T_vp c.1 c.2 (T_vp k3 (by show (q.1 89 a.toNatClampNeg).toInt < 50; omega) (T_rw e2 ?_))))))))))
          rcases hv with rfl | rfl
          · exact T_p rfl k
          · exact T_q (by decide) (T_vp c.1 c.2 (T_vp k3 (by show (q.1 89 a.toNatClampNeg).toInt < 50; omega) k))
        rcases hv with rfl | rfl
        · exact T_p rfl (T_some.mpr (key _ (T_some.mpr rfl)))
        · exact T_q (by decide) (T_some.mpr (key _ (T_some.mpr rfl)))
      · have n1 : ¬ q.1 27 a.toNatClampNeg = -2 := by rintro k; rw [k] at k1; exact absurd k1 (by decide)
        have n2 : ¬ q.1 89 a.toNatClampNeg = -1 := by rintro k; rw [k] at k3; have := lm1; omega
        refine T_bn (fun k => n1 k.2.2) (T_rw (x_isRow q a) (T_bp ⟨c.1, c.2, k1, k2⟩ ?_))
        obtain ⟨n, hn, rfl⟩ := ofN (n := 8) d.1 (by omega)
        have e1 : f_X3_isUnder q (-1) (Int32.ofNat n) = some 0 := by rw [isU_x]; exact isU_n n hn
        refine T_rw e1 (T_p rfl (T_some.mpr ?_))
        unfold f_X12_taken
        exact T_rw (m_isShelf _ a) (T_bp c (T_rw m1 (T_bp (by omega) (T_vp c.1 c.2 (T_q n2 (T_vp c.1 c.2 (T_ltp (by show _ < (0 : Int); omega) (T_some.mpr rfl))))))))
    · refine T_bn d (T_some.mpr ?_)
      unfold f_X12_taken
      exact T_rw (m_isShelf _ a) (T_bp c (T_rw m1 (T_bn (by omega) (T_some.mpr rfl))))
  · refine T_bn c (T_some.mpr ?_)
    unfold f_X12_taken
    exact T_rw (m_isShelf _ a) (T_bn c (T_some.mpr rfl))
theorem op_count {q : SS} (h : INV q) (a : Int32) : T (f_X11_count q a) (fun r => T (f_X12_count q a) (fun s => r = s)) := by
  have e0 := RY_p (INV_RY h)
  have e1 := RY_k (INV_RY h)
  have e2 := RT_len (INV_RT h)
  have e3 := RC_done (INV_RC h)
  have e4 := RH_bodies (INV_RH h)
  have e5 := RH_ran (INV_RH h)
  unfold f_X11_count f_X12_count f_X10_people f_X10_tickets f_X5_tapeLength f_X0_done f_X3_bodies f_X3_ran
  simp only [sw, bind_s, e0, e1, e2, e3, e4, e5]
  by_cases c0 : a.toInt = 0
  · rw [if_pos c0]; exact T_some.mpr (T_some.mpr rfl)
  rw [if_neg c0]
  by_cases c0 : a.toInt = 1
  · rw [if_pos c0]; exact T_some.mpr (T_some.mpr rfl)
  rw [if_neg c0]
  by_cases c0 : a.toInt = 2
  · rw [if_pos c0]; exact T_some.mpr (T_some.mpr rfl)
  rw [if_neg c0]
  by_cases c0 : a.toInt = 3
  · rw [if_pos c0]; exact T_some.mpr (T_some.mpr rfl)
  rw [if_neg c0]
  by_cases c0 : a.toInt = 4
  · rw [if_pos c0]; exact T_some.mpr (T_some.mpr rfl)
  rw [if_neg c0]
  by_cases c0 : a.toInt = 5
  · rw [if_pos c0]; exact T_some.mpr (T_some.mpr rfl)
  rw [if_neg c0]
  exact T_some.mpr (T_some.mpr rfl)
theorem x_note {q : SS} (k : Int32) (h0 : 0 ≤ k.toInt) (h4 : k.toInt < 4) : f_X1_note q k = some (sI q 48 k.toNatClampNeg (q.1 48 k.toNatClampNeg + 1)) := by
  unfold f_X1_note
  have l0 : (0 : Int32).toInt = 0 := rfl
  have l4 : (4 : Int32).toInt = 4 := rfl
  have v : vin k 4 := ⟨h0, h4⟩
  rw [if_neg (fun g => absurd (Int32.lt_iff_toInt_lt.mp g) (by omega)), if_neg (fun g => absurd (Int32.le_iff_toInt_le.mp g) (by omega)), if_pos v, if_pos v]
  rfl
theorem RD_note {q q' : SS} (h : RD q) {k : Nat} (r48 : ∀ j, q'.1 48 j = if j = k then q.1 48 k + 1 else q.1 48 j) (r83 : ∀ j, q'.1 83 j = if j = k then q.1 83 k + 1 else q.1 83 j) (ot : ∀ z, z ∈ [49, 50, 51, 84, 85, 86, 47] → q'.1 z = q.1 z) (o60 : ∀ i, i ∈ [1, 6, 46, 47, 48] → q'.1 60 i = q.1 60 i) : RD q' := by
  have e := RD_notes h
  have hn : q'.1 48 = q'.1 83 := by
    funext j
    rw [r48, r83, e]
  unfold RD at h ⊢
  rw [ot 49 (by decide), ot 50 (by decide), ot 51 (by decide), ot 84 (by decide), ot 85 (by decide), ot 86 (by decide), ot 47 (by decide), o60 1 (by decide), o60 6 (by decide), o60 46 (by decide), o60 47 (by decide), o60 48 (by decide)]
  exact ⟨hn, h.2⟩

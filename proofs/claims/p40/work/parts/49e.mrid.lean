/-! ===== the model's rid, first, hire answer ===== -/
theorem m_onHour (q : SS) (a : Int32) : T (f_X12_onHour q a) (fun _ => True) := by
  unfold f_X12_onHour
  exact T_vp (by decide) (by decide) (T_i (fun _ => T_vp (by decide) (by decide) (T_some.mpr trivial)) (fun _ => T_some.mpr trivial))
def LB (n : Nat) : Prop := ∀ (q z : SS) (a1 a2 a3 : Int32), GM q z → (0 ≤ a1.toInt ∧ a1.toInt < 6) → 
  ((1 ≤ a2.toInt → 3 * a2.toInt ≤ (n : Int) → ∀ a4 : Int64, T ((g_X12_leftBy n).1 z a1 a2 a3 a4) (fun r => GM q r.2))
  ∧ (1 ≤ a2.toInt → 3 * a2.toInt - 1 ≤ (n : Int) → ∀ (a4 : Int64) (a6 a7 : Int32), (0 ≤ a6.toInt ∧ a6.toInt < 12) → (0 ≤ a7.toInt ∧ a7.toInt < 6) → T ((g_X12_leftBy n).2.1 z a1 a2 a3 a4 a6 a7) (fun r => GM q r.2))
  ∧ (0 ≤ a2.toInt → 3 * a2.toInt + 1 ≤ (n : Int) → T ((g_X12_leftBy n).2.2 z a1 a2 a3) (fun r => GM q r.2)))
theorem LB_0 : LB 0 := by
  intro q z a1 a2 a3 _ _
  exact ⟨fun h1 h2 => absurd h2 (by omega), fun h1 h2 => absurd h2 (by omega), fun h1 h2 => absurd h2 (by omega)⟩
theorem LB_by {n : Nat} (ih : LB n) {q z : SS} {a1 a2 a3 : Int32} (g0 : GM q z) (h1 : 0 ≤ a1.toInt ∧ a1.toInt < 6) (t1 : 1 ≤ a2.toInt) (tn : 3 * a2.toInt ≤ ((n + 1 : Nat) : Int)) (a4 : Int64) : T (fb_X12_leftBy (g_X12_leftBy n) z a1 a2 a3 a4) (fun r => GM q r.2) := by
  unfold fb_X12_leftBy b_X12_leftBy_7
  refine T_fx7 (fun z l1 l2 _ _ _ l8 => GM q z ∧ l1 = a1 ∧ l2 = a2 ∧ 0 ≤ l8.toInt ∧ l8.toInt ≤ 12) (fun _ _ _ _ _ _ l8 => (12 - l8.toInt).toNat) ?_ _ _ _ _ _ _ _ _ ⟨g0, rfl, rfl, by decide, by decide⟩ (by unfold FU; decide)
  rintro rec z l1 l2 l3 l4 l6 l8 ⟨g, rfl, rfl, b0, b1⟩ hrec
  have hk := GM_K g
  refine T_le (fun _ => T_some.mpr g) (fun c => ?_)
  have e8 := inc1 (a := l8) (by omega) (by omega)
  have go : ∀ (y : SS) (l3 : Int32) (u v : Int64), GM q y → T (rec y l1 l2 l3 u v (l8 + 1)) (fun r => GM q r.2) := fun y l3 u v gy => hrec _ _ _ _ _ _ _ ⟨gy, rfl, rfl, by omega, by omega⟩ (by omega)
  unfold b_X12_leftBy_100 b_X12_leftBy_44 b_X12_leftBy_94 b_X12_leftBy_100
  refine T_vp b0 (by show l8.toInt < 12; omega) (T_i (fun _ => T_vp b0 (by show l8.toInt < 12; omega) (T_i (fun _ => go _ _ _ _ g) (fun _ => ?_))) (fun _ => go _ _ _ _ g))
  have k8 : l8.toInt < 12 := by omega
  refine T_fx8 (fun z m1 m2 _ _ _ m8 m9 => GM q z ∧ m1 = l1 ∧ m2 = l2 ∧ m8 = l8 ∧ 0 ≤ m9.toInt ∧ m9.toInt ≤ 6) (fun _ _ _ _ _ _ _ m9 => (6 - m9.toInt).toNat) ?_ _ _ _ _ _ _ _ _ _ ⟨g, rfl, rfl, rfl, by decide, by decide⟩ (by unfold FU; decide)
  rintro rec2 z2 m1 m2 m3 m4 m6 m8 m9 ⟨g2, rfl, rfl, rfl, c0, c1⟩ hrec2
  have hp := GM_P g2
  refine T_le (fun _ => go _ _ _ _ g2) (fun c => T_b (m_slipT z2 ⟨b0, k8⟩ ⟨c0, by omega⟩) (fun r1 _ => ?_))
  have e9 := inc1 (a := m9) (by omega) (by omega)
  have go2 : ∀ (y : SS) (l3 : Int32) (u v : Int64), GM q y → T (rec2 y m1 m2 l3 u v m8 (m9 + 1)) (fun r => GM q r.2) := fun y l3 u v gy => hrec2 _ _ _ _ _ _ _ _ ⟨gy, rfl, rfl, rfl, by omega, by omega⟩ (by omega)
  refine T_i (fun _ => go2 _ _ _ _ g2) (fun _ => T_b ((ih q z2 m1 m2 m3 g2 h1).2.1 t1 (by omega) _ _ _ ⟨b0, k8⟩ ⟨c0, by omega⟩) (fun r2 h2 => T_i (fun _ => go2 _ _ _ _ h2) (fun _ => go2 _ _ _ _ h2)))
theorem LB_slip {n : Nat} (ih : LB n) {q z : SS} {a1 a2 a3 : Int32} (g : GM q z) (h1 : 0 ≤ a1.toInt ∧ a1.toInt < 6) (t1 : 1 ≤ a2.toInt) (tn : 3 * a2.toInt - 1 ≤ ((n + 1 : Nat) : Int)) (a4 : Int64) {a6 a7 : Int32} (h6 : 0 ≤ a6.toInt ∧ a6.toInt < 12) (h7 : 0 ≤ a7.toInt ∧ a7.toInt < 6) : T (fb_X12_slipBy (g_X12_leftBy n) z a1 a2 a3 a4 a6 a7) (fun r => GM q r.2) := by
  have e2 := dec1 (a := a2) (by omega)
  unfold fb_X12_slipBy
  refine T_b (m_onHour z a3) (fun r1 _ => T_nm (T_b (GM_odds (GM_60 g (by decide) (by decide)) h6 h7) (fun r3 h3 => T_i (fun _ => T_some.mpr h3.1) (fun _ => T_vp h6.1 h6.2 (T_nm (T_b ((ih q _ a1 (a2 - 1) (a3 + 1) (GM_81 h3.1 ⟨h7.1, by omega⟩) h1).2.2 (by omega) (by omega)) (fun r5 h5 => T_nm (T_vp h6.1 h6.2 (T_nm (T_some.mpr (GM_81 h5 ⟨h1.1, by omega⟩)))))))))))
theorem LB_of {n : Nat} (ih : LB n) {q z : SS} {a1 a2 a3 : Int32} (g : GM q z) (h1 : 0 ≤ a1.toInt ∧ a1.toInt < 6) (t0 : 0 ≤ a2.toInt) (tn : 3 * a2.toInt + 1 ≤ ((n + 1 : Nat) : Int)) : T (fb_X12_leftOf (g_X12_leftBy n) z a1 a2 a3) (fun r => GM q r.2) := by
  unfold fb_X12_leftOf
  refine T_eq (fun _ => T_rw (m_realOf (GM_K g).1 (GM_K g).2 a1) (T_some.mpr g)) (fun ne => ?_)
  have l0 : (0 : Int32).toInt = 0 := rfl
  have e2 := dec1 (a := a2) (by omega)
  exact T_b ((ih q z a1 (a2 - 1) (a3 + 1) g h1).2.2 (by omega) (by omega)) (fun r2 h2 => T_b ((ih q _ a1 a2 a3 h2 h1).1 (by omega) (by omega) _) (fun r3 h3 => T_some.mpr h3))
theorem LB_all : ∀ n, LB n
  | 0 => LB_0
  | n + 1 => fun q z a1 a2 a3 g h1 => ⟨fun t1 tn a4 => LB_by (LB_all n) g h1 t1 tn a4, fun t1 tn a4 a6 a7 h6 h7 => LB_slip (LB_all n) g h1 t1 tn a4 h6 h7, fun t0 tn => LB_of (LB_all n) g h1 t0 tn⟩
theorem m_leftOf {q z : SS} (g : GM q z) {a1 a2 : Int32} (a3 : Int32) (h1 : 0 ≤ a1.toInt ∧ a1.toInt < 6) (h2 : 0 ≤ a2.toInt ∧ a2.toInt ≤ 3) : T (f_X12_leftOf z a1 a2 a3) (fun r => GM q r.2) := (LB_all 60 q z a1 a2 a3 g h1).2.2 h2.1 (by omega)
theorem m_leftBy {q z : SS} (g : GM q z) {a1 a2 : Int32} (a3 : Int32) (a4 : Int64) (h1 : 0 ≤ a1.toInt ∧ a1.toInt < 6) (h2 : 1 ≤ a2.toInt ∧ a2.toInt ≤ 3) : T (f_X12_leftBy z a1 a2 a3 a4) (fun r => GM q r.2) := (LB_all 60 q z a1 a2 a3 g h1).1 h2.1 (by omega) a4
theorem m_slipBy {q z : SS} (g : GM q z) {a1 a2 : Int32} (a3 : Int32) (a4 : Int64) {a6 a7 : Int32} (h1 : 0 ≤ a1.toInt ∧ a1.toInt < 6) (h2 : 1 ≤ a2.toInt ∧ a2.toInt ≤ 3) (h6 : 0 ≤ a6.toInt ∧ a6.toInt < 12) (h7 : 0 ≤ a7.toInt ∧ a7.toInt < 6) : T (f_X12_slipBy z a1 a2 a3 a4 a6 a7) (fun r => GM q r.2) := (LB_all 60 q z a1 a2 a3 g h1).2.1 h2.1 (by omega) a4 a6 a7 h6 h7
theorem mo_rid {q : SS} (h : INV q) (a b c : Int32) : T (f_X12_rid q a b c) (fun r => INV r.2) := by
  have hY := INV_RY h
  have p6 := RY_p6 hY
  unfold f_X12_rid
  refine T_rw (m_isOne (RY_p0 hY) a) (T_bi (fun _ => T_some.mpr h) (fun ha => T_rw (m_in q b _ _) (T_bi (fun _ => T_some.mpr h) (fun hb => T_rw (m_in q c _ _) (T_bi (fun _ => T_some.mpr h) (fun _ => T_b (m_now hY) (fun r hr => T_rw (nm_allReal hY hr) (T_nm (T_i (fun _ => T_some.mpr (NWM_I h hr)) (fun _ => ?_))))))))))
  have g0 := GM_now h hr
  have b3 : b.toInt ≤ 3 := hb.2
  have b0' : 0 ≤ b.toInt := hb.1
  unfold b_X12_rid_53
  refine T_fx6 (fun z l1 l2 _ _ l6 => GM q z ∧ l1 = a ∧ l2 = b ∧ 0 ≤ l6.toInt ∧ l6.toInt ≤ 3) (fun _ _ _ _ _ l6 => (3 - l6.toInt).toNat) ?_ _ _ _ _ _ _ _ ⟨g0, rfl, rfl, by decide, by decide⟩ (by unfold FU; decide)
  rintro rec z l1 l2 l3 l4 l6 ⟨g, rfl, rfl, c0, c1⟩ hrec
  refine T_le (fun _ => T_b (m_leftOf g 0 ⟨ha.1, by omega⟩ ⟨b0', b3⟩) (fun r7 h7 => T_b (m_lowT r7.2 _ _ _) (fun v _ => T_some.mpr (GM_I h7)))) (fun cc => T_nm ?_)
  have e6 := inc1 (a := l6) (by omega) (by omega)
  exact hrec _ _ _ _ _ _ ⟨g, rfl, rfl, by omega, by omega⟩ (by omega)
theorem mo_first {q : SS} (h : INV q) (a b : Int32) : T (f_X12_first q a b) (fun r => INV r.2) := by
  have hY := INV_RY h
  have p6 := RY_p6 hY
  have l0 : (0 : Int32).toInt = 0 := rfl
  have l3 : (3 : Int32).toInt = 3 := rfl
  unfold f_X12_first
  refine T_rw (m_isOne (RY_p0 hY) a) (T_bi (fun _ => T_some.mpr h) (fun ha => T_rw (m_in q b _ _) (T_bi (fun _ => T_some.mpr h) (fun hb => T_b (m_now hY) (fun r hr => T_eq (fun _ => T_some.mpr (NWM_I h hr)) (fun ne => ?_))))))
  have g0 := GM_now h hr
  have b3 : b.toInt ≤ 3 := by have := hb.2; omega
  have b1 : 1 ≤ b.toInt := by have := hb.1; omega
  have ha6 : 0 ≤ a.toInt ∧ a.toInt < 6 := ⟨ha.1, by omega⟩
  have eb := dec1 (a := b) (by omega)
  refine T_b (m_leftOf g0 1 ha6 ⟨by omega, by omega⟩) (fun r4 h4 => T_nm (T_b (m_leftBy h4 0 _ ha6 ⟨b1, b3⟩) (fun r6 h6 => T_i (fun _ => T_some.mpr (GM_I h6)) (fun _ => ?_))))
  unfold b_X12_first_67
  refine T_fx6 (fun z l1 l2 _ _ l7 => GM q z ∧ l1 = a ∧ l2 = b ∧ 0 ≤ l7.toInt ∧ l7.toInt ≤ 12) (fun _ _ _ _ _ l7 => (12 - l7.toInt).toNat) ?_ _ _ _ _ _ _ _ ⟨h6, rfl, rfl, by decide, by decide⟩ (by unfold FU; decide)
  rintro rec z l1 l2 l3 l5 l7 ⟨g, rfl, rfl, c0, c1⟩ hrec
  have hk := GM_K g
  refine T_le (fun _ => T_some.mpr (GM_I g)) (fun cc => ?_)
  have e7 := inc1 (a := l7) (by omega) (by omega)
  have go : ∀ (y : SS) (u v : Int64), GM q y → T (rec y l1 l2 u v (l7 + 1)) (fun r => INV r.2) := fun y u v gy => hrec _ _ _ _ _ _ ⟨gy, rfl, rfl, by omega, by omega⟩ (by omega)
  unfold b_X12_first_157 b_X12_first_104 b_X12_first_151 b_X12_first_157
  have k7 : l7.toInt < 12 := by omega
  refine T_vp c0 k7 (T_i (fun _ => T_vp c0 k7 (T_i (fun _ => go _ _ _ g) (fun _ => ?_))) (fun _ => go _ _ _ g))
  refine T_fx7 (fun z m1 m2 _ _ m7 m8 => GM q z ∧ m1 = l1 ∧ m2 = l2 ∧ m7 = l7 ∧ 0 ≤ m8.toInt ∧ m8.toInt ≤ 6) (fun _ _ _ _ _ _ m8 => (6 - m8.toInt).toNat) ?_ _ _ _ _ _ _ _ _ ⟨g, rfl, rfl, rfl, by decide, by decide⟩ (by unfold FU; decide)
  rintro rec2 z2 m1 m2 m3 m5 m7 m8 ⟨g2, rfl, rfl, rfl, d0, d1⟩ hrec2
  have hp := GM_P g2
  refine T_le (fun _ => go _ _ _ g2) (fun c => T_b (m_slipT z2 ⟨c0, k7⟩ ⟨d0, by omega⟩) (fun r1 _ => ?_))
  have e8 := inc1 (a := m8) (by omega) (by omega)
  have go2 : ∀ (y : SS) (u v : Int64), GM q y → T (rec2 y m1 m2 u v m7 (m8 + 1)) (fun r => INV r.2) := fun y u v gy => hrec2 _ _ _ _ _ _ _ ⟨gy, rfl, rfl, rfl, by omega, by omega⟩ (by omega)
  exact T_i (fun _ => go2 _ _ _ g2) (fun _ => T_b (m_slipBy g2 0 _ ha6 ⟨b1, b3⟩ ⟨c0, k7⟩ ⟨d0, by omega⟩) (fun r2 h2 => T_i (fun _ => T_some.mpr (GM_I h2)) (fun _ => go2 _ _ _ h2)))

/-! ===== the model's lowest terms answer; likely, all, hire ===== -/
theorem lremA {x y : Int64} (hy : y ≠ 0) : (jlrem x y).toInt.natAbs = x.toInt.natAbs % y.toInt.natAbs := by
  have hy0 : y.toInt ≠ 0 := fun e => hy (eq64.mpr e)
  have y1 := Int64.toInt_lt y
  have y2 := Int64.le_toInt y
  have hm : (x.toInt.tmod y.toInt).natAbs = x.toInt.natAbs % y.toInt.natAbs := Int.natAbs_tmod _ _
  have hlt : x.toInt.natAbs % y.toInt.natAbs < y.toInt.natAbs := Nat.mod_lt _ (by omega)
  have e : (jlrem x y).toInt = x.toInt.tmod y.toInt := by
    show (x - x / y * y).toInt = _
    rw [Int64.toInt_sub, Int64.toInt_mul, Int64.toInt_div, Int.bmod_mul_bmod, Int.sub_bmod_bmod, Int.mul_comm, ← Int.tmod_def]
    exact Int.bmod_eq_of_le (by omega) (by omega)
  rw [e, hm]
def mA (x y : Int64) : Nat := mu x.toInt.natAbs y.toInt.natAbs
theorem mA_b (x y : Int64) : mA x y ≤ 130 := by
  have l : ∀ n : Nat, n < 2 ^ 64 → Nat.log2 n ≤ 63 := fun n hn => by
    by_cases h : n = 0
    · subst h; decide
    · have := (Nat.log2_lt h).mpr hn
      omega
  have x1 := Int64.toInt_lt x
  have x2 := Int64.le_toInt x
  have y1 := Int64.toInt_lt y
  have y2 := Int64.le_toInt y
  have a := l x.toInt.natAbs (by omega)
  have b := l y.toInt.natAbs (by omega)
  unfold mA mu
  split
  · omega
  · split <;> omega
theorem mA_s {x y : Int64} (hy : y ≠ 0) : mA y (jlrem x y) < mA x y := by
  have hy0 : y.toInt ≠ 0 := fun e => hy (eq64.mpr e)
  unfold mA
  rw [lremA hy]
  exact mu_s (by omega)
theorem m_lowT (q : SS) (a b : Int64) (p : Int32) : T (f_X12_lowest q a b p) (fun _ => True) := by
  unfold f_X12_lowest
  by_cases z : a = 0
  · exact T_p (lgc_z.mpr z) (T_some.mpr trivial)
  refine T_q (fun y => z (lgc_z.mp y)) ?_
  unfold b_X12_lowest_16
  refine T_fx5 (fun _ _ _ l5 l7 => ¬ (l5 = 0 ∧ l7 = 0)) (fun _ _ _ l5 l7 => mA l5 l7) ?_ _ _ _ _ _ _ (fun y => z y.1) (by have := mA_b a b; unfold FU; omega)
  intro rec l0 l2 l4 l5 l7 h hr
  by_cases c : l7 = 0
  · have n5 : ¬ l5 = 0 := fun y => h ⟨y, c⟩
    exact T_p (lgc_z.mpr c) (T_i (fun _ => T_n n5 (T_some.mpr trivial)) (fun _ => T_n n5 (T_some.mpr trivial)))
  · exact T_q (fun y => c (lgc_z.mp y)) (T_n c (T_nm (hr _ _ _ _ _ (fun y => c y.1) (mA_s c))))
theorem mo_all {q : SS} (h : INV q) (a b : Int32) : T (f_X12_all q a b) (fun r => INV r.2) := by
  have hY := INV_RY h
  unfold f_X12_all
  refine T_rw (m_isShelf q a) (T_bi (fun _ => T_some.mpr h) (fun ha => T_rw (m_in q b _ _) (T_bi (fun _ => T_some.mpr h) (fun _ => T_rw (m_rowFault ha) (T_i (fun _ => T_b (m_now hY) (fun r hr => ?_)) (fun _ => T_some.mpr h))))))
  have g0 := GM_now h hr
  refine T_b (m_longOf g0 ha (m := 12) z1212) (fun n hn => ?_)
  have n12 : n.toInt ≤ 12 := hn.1.2
  unfold b_X12_all_49 b_X12_all_124
  refine T_fx7 (fun z l1 _ l3 _ _ l8 => GM r z ∧ l1 = a ∧ l3 = n ∧ 0 ≤ l8.toInt ∧ l8.toInt ≤ 12) (fun _ _ _ _ _ _ l8 => (12 - l8.toInt).toNat) ?_ _ _ _ _ _ _ _ _ ⟨GM_r (GM_I g0), rfl, rfl, by decide, by decide⟩ (by unfold FU; decide)
  rintro rec z l1 l2 l3 l4 l6 l8 ⟨g, rfl, rfl, b0, b1⟩ hrec
  refine T_le (fun _ => T_b (m_lowT z _ _ _) (fun v _ => T_some.mpr (GM_I g))) (fun c => T_el g ha ⟨b0, by omega⟩ (hn.2 _ (by omega)) (fun v v8 vr _ ev => T_nm (T_rw ev (T_nm (T_b (m_slipT z v8 vr) (fun r9 _ => ?_))))))
  have e8 := inc1 (a := l8) (by omega) (by omega)
  have go : ∀ (y : SS) (u v : Int64), GM r y → T (rec y l1 l2 l3 u v (l8 + 1)) (fun r => INV r.2) := fun y u v gy => hrec _ _ _ _ _ _ _ ⟨gy, rfl, rfl, by omega, by omega⟩ (by omega)
  refine T_i (fun _ => go _ _ _ g) (fun _ => T_b (GM_odds g v8 vr) (fun s hs => T_nm (T_nm (T_vp v8.1 v8.2 (T_nm (go _ _ _ (GM_81 hs.1 ⟨vr.1, by omega⟩)))))))
theorem mo_likely {q : SS} (h : INV q) (a b c : Int32) : T (f_X12_likely q a b c) (fun r => INV r.2) := by
  have hY := INV_RY h
  unfold f_X12_likely
  refine T_rw (m_isShelf q a) (T_bi (fun _ => T_some.mpr h) (fun ha => T_rw (m_in q b _ _) (T_bi (fun _ => T_some.mpr h) (fun _ => T_rw (m_in q c _ _) (T_bi (fun _ => T_some.mpr h) (fun _ => T_rw (m_rowFault ha) (T_i (fun _ => T_b (m_now hY) (fun r hr => ?_)) (fun _ => T_some.mpr h))))))))
  have g0 := GM_now h hr
  refine T_b (m_longOf g0 ha (m := 12) z1212) (fun n hn => ?_)
  have n12 : n.toInt ≤ 12 := hn.1.2
  have main : ∀ s0 : Int64, T (b_X12_likely_64 r a b c n s0) (fun r => INV r.2) := by
    intro s0
    unfold b_X12_likely_64 b_X12_likely_72 b_X12_likely_118 b_X12_likely_171 b_X12_likely_196
    refine T_fx8 (fun z l1 _ _ l4 _ _ l9 => GM r z ∧ l1 = a ∧ l4 = n ∧ 0 ≤ l9.toInt ∧ l9.toInt ≤ 12) (fun _ _ _ _ _ _ _ l9 => (12 - l9.toInt).toNat) ?_ _ _ _ _ _ _ _ _ _ ⟨GM_r (GM_I g0), rfl, rfl, by decide, by decide⟩ (by unfold FU; decide)
    rintro rec z l1 l2 l3 l4 l5 l7 l9 ⟨g, rfl, rfl, b0, b1⟩ hrec
    refine T_le (fun _ => T_b (m_lowT z _ _ _) (fun v _ => T_some.mpr (GM_I g))) (fun cc => T_el g ha ⟨b0, by omega⟩ (hn.2 _ (by omega)) (fun v v8 vr _ ev => T_nm (T_rw ev (T_nm ?_))))
    have e9 := inc1 (a := l9) (by omega) (by omega)
    have go : ∀ (y : SS) (u v : Int64), GM r y → T (rec y l1 l2 l3 l4 u v (l9 + 1)) (fun r => INV r.2) := fun y u v gy => hrec _ _ _ _ _ _ _ _ ⟨gy, rfl, rfl, by omega, by omega⟩ (by omega)
    refine T_i (fun _ => T_b (m_slipT z v8 vr) (fun r9 _ => ?_)) (fun _ => T_b (m_slipT z v8 vr) (fun r9 _ => ?_))
    · refine T_i (fun _ => T_i (fun _ => go _ _ _ g) (fun _ => go _ _ _ g)) (fun _ => T_b (GM_odds g v8 vr) (fun s hs => ?_))
      exact T_i (fun _ => T_nm (T_nm (T_i (fun _ => go _ _ _ hs.1) (fun _ => T_vp v8.1 v8.2 (T_nm (go _ _ _ (GM_81 hs.1 ⟨vr.1, by omega⟩))))))) (fun _ => T_nm (T_nm (T_i (fun _ => go _ _ _ hs.1) (fun _ => T_vp v8.1 v8.2 (T_nm (go _ _ _ (GM_81 hs.1 ⟨vr.1, by omega⟩)))))))
    · refine T_i (fun _ => T_i (fun _ => go _ _ _ g) (fun _ => go _ _ _ g)) (fun _ => T_b (GM_odds g v8 vr) (fun s hs => ?_))
      exact T_i (fun _ => T_nm (T_nm (T_i (fun _ => go _ _ _ hs.1) (fun _ => T_vp v8.1 v8.2 (T_nm (go _ _ _ (GM_81 hs.1 ⟨vr.1, by omega⟩))))))) (fun _ => T_nm (T_nm (T_i (fun _ => go _ _ _ hs.1) (fun _ => T_vp v8.1 v8.2 (T_nm (go _ _ _ (GM_81 hs.1 ⟨vr.1, by omega⟩)))))))
  exact T_i (fun _ => main _) (fun _ => main _)

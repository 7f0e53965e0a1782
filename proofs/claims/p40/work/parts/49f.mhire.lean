/-! ===== the model's hire answers ===== -/
theorem GM_82 {q z : SS} (g : GM q z) {i : Nat} {x : Int32} : GM q (sI z 82 i x) := by
  have a := INV_sM (q := z) g.1 (k := 82) (i := i) (x := x) (by unfold wM; simp) (by decide)
  have b := g.2
  exact ⟨a, b⟩
theorem m_hire147 {q z : SS} (g0 : GM q z) {l2 l3 l5 l6 l7 : Int32} (hl : l2.toInt ≤ 12) (h7 : 0 ≤ l7.toInt ∧ l7.toInt ≤ 12) : T (b_X12_hire_147 z l2 l3 l5 l6 l7) (fun r => GM q r.2) := by
  have l0 : (0 : Int32).toInt = 0 := rfl
  unfold b_X12_hire_147
  refine T_fx6 (fun z m2 _ _ _ m7 => GM q z ∧ m2 = l2 ∧ 0 ≤ m7.toInt ∧ m7.toInt ≤ 12) (fun _ _ _ _ _ m7 => (12 - m7.toInt).toNat) ?_ _ _ _ _ _ _ _ ⟨g0, rfl, h7.1, h7.2⟩ (by unfold FU; omega)
  rintro rec z m2 m3 m5 m6 m7 ⟨g, rfl, b0, b1⟩ hrec
  refine T_le (fun _ => T_i (fun _ => T_some.mpr g) (fun _ => T_some.mpr g)) (fun c => ?_)
  have e7 := inc1 (a := m7) (by omega) (by omega)
  have go : ∀ (y : SS) (m3 u v : Int32), GM q y → T (rec y m2 m3 u v (m7 + 1)) (fun r => GM q r.2) := fun y m3 u v gy => hrec _ _ _ _ _ _ ⟨gy, rfl, by omega, by omega⟩ (by omega)
  unfold b_X12_hire_160 b_X12_hire_201 b_X12_hire_205
  refine T_fx7 (fun z n2 _ _ n7 n8 n9 => GM q z ∧ n2 = m2 ∧ n7 = m7 ∧ (n8.toInt < 6) ∧ 0 ≤ n9.toInt ∧ n9.toInt ≤ 6) (fun _ _ _ _ _ _ n9 => (6 - n9.toInt).toNat) ?_ _ _ _ _ _ _ _ _ ⟨g, rfl, rfl, by decide, by decide, by decide⟩ (by unfold FU; decide)
  rintro rec2 y n2 n3 n5 n7 n8 n9 ⟨gy, rfl, rfl, k8, c0, c1⟩ hrec2
  have hp := GM_P gy
  refine T_le (fun _ => T_le (fun p8 => T_vp (by omega) k8 (T_vp (by omega) k8 (T_nm (T_vp (by omega) k8 (T_nm (go _ _ _ _ (GM_82 gy))))))) (fun _ => T_some.mpr gy)) (fun cc => ?_)
  have e9 := inc1 (a := n9) (by omega) (by omega)
  have go2 : ∀ (u v w : Int32), w.toInt < 6 → T (rec2 y n2 u v n7 w (n9 + 1)) (fun r => GM q r.2) := fun u v w hw => hrec2 _ _ _ _ _ _ _ ⟨gy, rfl, rfl, hw, by omega, by omega⟩ (by omega)
  have k9 : n9.toInt < 6 := by omega
  refine T_vp c0 k9 (T_i (fun _ => go2 _ _ _ k8) (fun _ => T_lt (fun _ => go2 _ _ _ k9) (fun p8 => T_vp c0 k9 (T_vp (by omega) k8 (T_i (fun _ => go2 _ _ _ k8) (fun _ => go2 _ _ _ k9))))))
theorem mo_hire {q : SS} (h : INV q) (a b c : Int32) : T (f_X12_hire q a b c) (fun r => INV r.2) := by
  have hY := INV_RY h
  have k0 := RY_k0 hY
  have k12 := RY_k12 hY
  unfold f_X12_hire
  refine T_rw (m_isOne (RY_p0 hY) a) (T_bi (fun _ => T_some.mpr h) (fun ha => T_rw (m_in q b _ _) (T_bi (fun _ => T_some.mpr h) (fun hb => T_rw (m_in q c _ _) (T_bi (fun _ => T_some.mpr h) (fun _ => ?_))))))
  have b12 : b.toInt ≤ 12 := hb.2
  unfold b_X12_hire_35 b_X12_hire_69
  refine T_fx6 (fun z l1 l2 _ _ l5 => z = q ∧ l1 = a ∧ l2 = b ∧ 0 ≤ l5.toInt ∧ l5.toInt ≤ 12) (fun _ _ _ _ _ l5 => (12 - l5.toInt).toNat) ?_ _ _ _ _ _ _ _ ⟨rfl, rfl, rfl, by decide, by decide⟩ (by unfold FU; decide)
  rintro rec z l1 l2 l3 l4 l5 ⟨rfl, rfl, rfl, c0, c1⟩ hrec
  refine T_le (fun _ => T_i (fun _ => ?_) (fun _ => T_some.mpr h)) (fun cc => ?_)
  · unfold b_X12_hire_87 b_X12_hire_119 b_X12_hire_130
    refine T_fx5 (fun y m1 m2 _ m5 => GM z y ∧ m1 = l1 ∧ m2 = l2 ∧ 0 ≤ m5.toInt ∧ m5.toInt ≤ 6) (fun _ _ _ _ m5 => (6 - m5.toInt).toNat) ?_ _ _ _ _ _ _ ⟨GM_r h, rfl, rfl, by decide, by decide⟩ (by unfold FU; decide)
    rintro rec2 y m1 m2 m3 m5 ⟨gy, rfl, rfl, d0, d1⟩ hrec2
    have hp := GM_P gy
    refine T_le (fun _ => T_mono (m_hire147 gy b12 ⟨by decide, by decide⟩) (fun r hr => GM_I hr)) (fun cc => ?_)
    have e5 := inc1 (a := m5) (by omega) (by omega)
    have k5 : m5.toInt < 6 := by omega
    have go2 : ∀ (x : SS) (u : Int32), GM z x → T (rec2 x m1 m2 u (m5 + 1)) (fun r => INV r.2) := fun x u gx => hrec2 _ _ _ _ _ ⟨gx, rfl, rfl, by omega, by omega⟩ (by omega)
    exact T_i (fun _ => T_vp d0 k5 (T_nm (go2 _ _ (GM_82 gy)))) (fun _ => T_vp d0 k5 (T_i (fun _ => T_vp d0 k5 (T_nm (go2 _ _ (GM_82 gy)))) (fun _ => T_vp d0 k5 (T_vp d0 k5 (T_nm (go2 _ _ (GM_82 gy)))))))
  · have e5 := inc1 (a := l5) (by omega) (by omega)
    have k5 : l5.toInt < 12 := by omega
    have go : ∀ u v : Int32, T (rec z l1 l2 u v (l5 + 1)) (fun r => INV r.2) := fun u v => hrec _ _ _ _ _ _ ⟨rfl, rfl, rfl, by omega, by omega⟩ (by omega)
    exact T_vp c0 k5 (T_i (fun _ => T_vp c0 k5 (T_i (fun _ => go _ _) (fun _ => go _ _))) (fun _ => go _ _))

/-! ===== the model's lines, in their order ===== -/
theorem F80_t {a b c : SS} (h : F80 a b) (g : F80 b c) : F80 a c := ⟨g.1.trans h.1, fun k hk => (g.2 k hk).trans (h.2 k hk)⟩
theorem m_workedz {q z : SS} (hf : F80 q z) {s e : Int32} (hs : 0 ≤ s.toInt) (he : e.toInt ≤ 130) (ok : okSeg (q.1 74) (q.1 75) s.toInt e.toInt) : T (f_X12_worked z 0 s e) (fun r => F80 q r.2) := by
  refine T_mono (m_worked (q := z) hs he (by rw [hf.2 74 (by decide), hf.2 75 (by decide)]; exact ok)) (fun r hr => F80_t hf hr)
theorem m_gives {q : SS} (h : RW q) (ht : q.1 60 30 = 1) : T (f_X12_gives q 0) (fun r => F80 q r.2) := by
  have o61 : (61 : Int32) * 0 = 0 := by decide
  have z0 : ∀ x : Int32, (0 : Int32) + x = x := fun x => Int32.zero_add x
  have hm := RW_m h ht
  have hl := RW_line h ht
  have l0 : (0 : Int32).toInt = 0 := rfl
  unfold f_X12_gives
  rw [o61]
  refine T_nm ?_
  unfold b_X12_gives_7
  refine T_fx4 (fun z l1 l2 l3 => F80 q z ∧ l1 = 0 ∧ (0 ≤ l3.toInt ∧ l3.toInt ≤ 61) ∧ l2.toInt = (if l3.toInt.toNat = 0 then 0 else (q.1 78 (l3.toInt.toNat - 1)).toInt)) (fun _ _ _ l3 => (61 - l3.toInt).toNat) ?_ _ _ _ _ _ ⟨⟨rfl, fun _ _ => rfl⟩, rfl, by decide, rfl⟩ (by unfold FU; decide)
  rintro rec z l1 l2 l3 ⟨hf, rfl, hb, e2⟩ hr
  have k0 : (0 : Int32).toNatClampNeg = 0 := rfl
  rw [o61, z0, k0, hf.2 76 (by decide), hf.2 77 (by decide)]
  refine T_vp (by decide) (by decide) (T_le (fun _ => T_some.mpr hf) (fun g => T_vp hb.1 (by show l3.toInt < 122; omega) ?_))
  have L := hl l3.toInt.toNat (by omega)
  rw [← e2] at L
  obtain ⟨s0, st, te, e130, o1, o2⟩ := L
  have eN : l3.toNatClampNeg = l3.toInt.toNat := rfl
  rw [eN]
  generalize gt : q.1 77 l3.toInt.toNat = t at *
  have w2 : ∀ y : SS, F80 q y → T (b_X12_gives_47 y 0 l3) (fun r => F80 q r.2) := by
    intro y hy
    unfold b_X12_gives_47
    refine T_vp hb.1 (by show l3.toInt < 122; omega) (T_vp hb.1 (by show l3.toInt < 122; omega) ?_)
    rw [hy.2 77 (by decide), hy.2 78 (by decide), eN, gt]
    exact T_b (m_workedz hy (by omega) e130 o1) (fun r hr => T_some.mpr hr)
  refine T_eq (fun _ => w2 z hf) (fun ne => T_vp hb.1 (by show l3.toInt < 122; omega) (T_b (m_workedz hf (by omega) (by omega) (o2 ne)) (fun r hy => T_i (fun _ => T_vp hb.1 (by show l3.toInt < 122; omega) (T_nm ?_)) (fun _ => w2 _ hy))))
  have e3 := inc1 (a := l3) (by omega) (by omega)
  refine hr _ _ _ _ ⟨hy, rfl, by omega, ?_⟩ (by omega)
  rw [hy.2 78 (by decide), if_neg (by omega)]
  show (q.1 78 l3.toInt.toNat).toInt = _
  exact congrArg (fun i => (q.1 78 i).toInt) (by omega)
theorem INV_sM {q : SS} (h : INV q) {k i : Nat} {x : Int32} (hw : wM k i = true) (hk : k ≠ 81) : INV (sI q k i x) := by
  have h37 : (37 : Nat) ≠ k := by
    rintro rfl
    cases hw
  have j := INV_RJ h
  refine INV_wM (Fr_sI (Fr_refl q) hw) ⟨?_, ?_, ?_⟩ h
  · rw [sI_ro h37]; exact RJ_e0 j
  · rw [sI_ro h37]; exact RJ_e12 j
  · rw [sI_ro (Ne.symm hk)]; exact RJ_h1 j
theorem INV_s81 {q : SS} (h : INV q) {i : Nat} {x : Int32} (hi : 0 ≤ x.toInt ∧ x.toInt ≤ 5) : INV (sI q 81 i x) := by
  have j := INV_RJ h
  refine INV_wM (Fr_sI (Fr_refl q) (by unfold wM; simp)) ⟨by have a := RJ_e0 j; exact a, by have a := RJ_e12 j; exact a, ?_⟩ h
  intro t ht
  rw [sI_rd]
  by_cases c : t = i
  · rw [if_pos ⟨rfl, c⟩]; exact hi
  · rw [if_neg (fun y => c y.2)]; exact RJ_h1 j t ht
theorem INV_sLM {q : SS} (h : INV q) {k i : Nat} {x : Int64} (hk : vM k = true) : INV (sL q k i x) := INV_wM (Fr_sL (Fr_refl q) hk) (by have a := INV_RJ h; exact a) h
theorem INV_80 {q z : SS} (h : INV q) (f : F80 q z) : INV z := INV_wF ⟨fun k i e => by
    have : k ≠ 80 := by
      rintro rfl
      exact absurd e (by unfold wF; simp)
    rw [f.2 k this], fun k _ => by rw [f.1]⟩ h
/-- what the model's odds leave: all but 79 and 80 -/
def F79 (q z : SS) : Prop := z.2 = q.2 ∧ ∀ k, k ≠ 80 → k ≠ 79 → z.1 k = q.1 k
theorem F79_r (q : SS) : F79 q q := ⟨rfl, fun _ _ _ => rfl⟩
theorem F79_s {q z : SS} (h : F79 q z) (i : Nat) (x : Int32) : F79 q (sI z 79 i x) := ⟨h.1, fun k h0 hk => (sI_ro hk).trans (h.2 k h0 hk)⟩
theorem F79_80 {q z y : SS} (h : F79 q z) (f : F80 z y) : F79 q y := ⟨f.1.trans h.1, fun k h0 hk => (f.2 k h0).trans (h.2 k h0 hk)⟩
theorem F79_t {a b c : SS} (h : F79 a b) (g : F79 b c) : F79 a c := ⟨g.1.trans h.1, fun k h0 hk => (g.2 k h0 hk).trans (h.2 k h0 hk)⟩
theorem INV_79 {q z : SS} (h : INV q) (f : F79 q z) : INV z := INV_wF ⟨fun k i e => by
    have h80 : k ≠ 80 := by
      rintro rfl
      exact absurd e (by unfold wF; simp)
    have h79 : k ≠ 79 := by
      rintro rfl
      exact absurd e (by unfold wF; simp)
    rw [f.2 k h80 h79], fun k _ => by rw [f.1]⟩ h
theorem z1212 : 0 ≤ (12 : Int32).toInt ∧ (12 : Int32).toInt ≤ 12 := by decide
theorem m_cl (q : SS) (v : Int32) : T (b_X12_oddsOf_115 q v) (fun r => r.2 = q ∧ 0 ≤ r.1.toInt ∧ r.1.toInt ≤ 12) := by
  have l0 : (0 : Int32).toInt = 0 := rfl
  have l12 : (12 : Int32).toInt = 12 := rfl
  unfold b_X12_oddsOf_115
  exact T_le (fun g => T_le (fun g2 => T_some.mpr ⟨rfl, by show 0 ≤ v.toInt; omega, by show v.toInt ≤ 12; omega⟩) (fun _ => T_some.mpr ⟨rfl, z1212⟩)) (fun _ => T_some.mpr ⟨rfl, z012⟩)
theorem m_oddsOf {q : SS} (h : INV q) {a b : Int32} (ha : 0 ≤ a.toInt ∧ a.toInt < 12) (hb : 0 ≤ b.toInt ∧ b.toInt < 6) : T (f_X12_oddsOf q a b) (fun r => F79 q r.2 ∧ 0 ≤ r.1.toInt ∧ r.1.toInt ≤ 12) := by
  have hj := RJ_h1 (INV_RJ h) a.toNatClampNeg (by show a.toInt.toNat < 12; omega)
  have hW := INV_RW h
  have hk0 := RY_k0 (INV_RY h)
  have hk12 := RY_k12 (INV_RY h)
  unfold f_X12_oddsOf
  refine T_rw (m_maySlip ha hb) (T_bi (fun _ => T_some.mpr ⟨F79_r q, z012⟩) (fun _ => T_vp hb.1 hb.2 (T_vp (by decide) (by decide) (T_nm (T_i (fun _ => T_mono (m_cl q _) (fun r hr => ⟨by rw [hr.1]; exact F79_r q, hr.2⟩)) (fun n30 => T_vp hb.1 hb.2 (T_vp (by decide) (by decide) (T_nm (T_vp ha.1 ha.2 ?_)))))))))
  have t30 : q.1 60 30 = 1 := (RW_told hW).resolve_left n30
  refine T_vp hj.1 (by have := hj.2; show (q.1 81 a.toNatClampNeg).toInt < 6; omega) (T_vp (by decide) (by decide) (T_nm (T_rw (m_manyOf hk0 hk12 b) (T_vp (by decide) (by decide) (T_nm (T_vp ha.1 ha.2 (T_vp (by decide) (by decide) (T_nm (T_vp (by decide) (by decide) (T_nm (T_vp (by decide) (by decide) (T_vp (by decide) (by decide) (T_nm ?_)))))))))))))
  generalize gx : sI _ 79 (Int32.toNatClampNeg 5) _ = x
  have fx : F79 q x := by
    rw [← gx]
    exact F79_s (F79_s (F79_s (F79_s (F79_s (F79_s (F79_r q) _ _) _ _) _ _) _ _) _ _) _ _
  have hx := INV_79 h fx
  have x30 : x.1 60 30 = 1 := by rw [fx.2 60 (by decide) (by decide)]; exact t30
  exact T_b (m_gives (INV_RW hx) x30) (fun r hr => T_mono (m_cl r.2 r.1) (fun y hy => ⟨by rw [hy.1]; exact F79_80 fx hr, hy.2⟩))

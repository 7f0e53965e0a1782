/-! ===== the model's odds: it answers, and writes no more than its own ===== -/
theorem m_twoOf (q : SS) (a b c : Int32) : T (f_X12_twoOf q a b c) (fun _ => True) := by
  unfold f_X12_twoOf b_X12_twoOf_226 b_X12_twoOf_163
  by_cases z : c = 0
  · simp only [if_pos z]
    repeat (refine T_sw (fun _ => by repeat' (first | exact T_some.mpr trivial | refine T_i (fun _ => ?_) (fun _ => ?_))) (fun _ => ?_))
    refine T_sw0 ?_
    repeat' (first | exact T_some.mpr trivial | refine T_i (fun _ => ?_) (fun _ => ?_))
  · simp only [if_neg z]
    repeat (refine T_sw (fun _ => by repeat' (first | exact T_some.mpr trivial | refine T_i (fun _ => ?_) (fun _ => ?_))) (fun _ => ?_))
    refine T_sw0 ?_
    repeat' (first | exact T_some.mpr trivial | refine T_i (fun _ => ?_) (fun _ => ?_))
theorem stepd_1 (w : Int32) (d : Nat) : stepd 1 w d = some (d + 1) := rfl
theorem stepd_2 {w : Int32} {d e : Nat} (h : stepd 2 w d = some e) : (0 ≤ w.toInt ∧ w.toInt < 6) ∧ e = d + 1 := by
  have h' : (if 0 ≤ w.toInt ∧ w.toInt < 6 then some (d + 1) else none) = some e := h
  by_cases c : 0 ≤ w.toInt ∧ w.toInt < 6
  · rw [if_pos c] at h'
    exact ⟨c, (Option.some.inj h').symm⟩
  · rw [if_neg c] at h'
    cases h'
theorem stepd_34 {a w : Int32} {d e : Nat} (ha : a = 3 ∨ a = 4) (h : stepd a w d = some e) : 1 ≤ d ∧ e = d := by
  have h' : (if 1 ≤ d then some d else none) = some e := by
    rcases ha with rfl | rfl
    · exact h
    · exact h
  by_cases c : 1 ≤ d
  · rw [if_pos c] at h'
    exact ⟨c, (Option.some.inj h').symm⟩
  · rw [if_neg c] at h'
    cases h'
theorem stepd_5 {a w : Int32} {d e : Nat} (h1 : a ≠ 1) (h2 : a ≠ 2) (h3 : a ≠ 3) (h4 : a ≠ 4) (h : stepd a w d = some e) : 2 ≤ d ∧ e = d - 1 := by
  unfold stepd at h
  rw [if_neg h1, if_neg h2, if_neg (fun x => x.elim h3 h4)] at h
  by_cases c : 2 ≤ d
  · rw [if_pos c] at h
    exact ⟨c, (Option.some.inj h).symm⟩
  · rw [if_neg c] at h
    cases h
def F80 (q z : SS) : Prop := z.2 = q.2 ∧ ∀ k, k ≠ 80 → z.1 k = q.1 k
theorem F80_s {q z : SS} (h : F80 q z) (i : Nat) (x : Int32) : F80 q (sI z 80 i x) := ⟨h.1, fun k hk => (sI_ro hk).trans (h.2 k hk)⟩
theorem dp_step {A W : Nat → Int32} {n i d : Nat} (h : dp A W (n + 1) i d = some 1) : ∃ e, stepd (A i) (W i) d = some e ∧ dp A W n (i + 1) e = some 1 := by
  have h' : (stepd (A i) (W i) d).bind (fun d' => dp A W n (i + 1) d') = some 1 := h
  cases g : stepd (A i) (W i) d with
  | none => rw [g] at h'; cases h'
  | some e => rw [g] at h'; exact ⟨e, rfl, h'⟩
theorem m_worked {q : SS} {s e : Int32} (hs : 0 ≤ s.toInt) (he : e.toInt ≤ 130) (ok : okSeg (q.1 74) (q.1 75) s.toInt e.toInt) : T (f_X12_worked q 0 s e) (fun r => F80 q r.2) := by
  have o130 : (130 : Int32) * 0 = 0 := by decide
  have z0 : ∀ x : Int32, (0 : Int32) + x = x := fun x => Int32.zero_add x
  unfold f_X12_worked
  rw [o130, z0]
  refine T_nm ?_
  unfold b_X12_worked_12
  refine T_fx5 (fun z l1 l3 l4 l5 => F80 q z ∧ l1 = 0 ∧ l3 = e ∧ (s.toInt ≤ l5.toInt ∧ (l5.toInt ≤ e.toInt ∨ s = l5)) ∧ ∃ n : Nat, (l4.toInt = (n : Int) ∧ (n : Int) ≤ l5.toInt - s.toInt) ∧ dp (q.1 74) (q.1 75) (e.toInt - l5.toInt).toNat l5.toInt.toNat n = some 1) (fun _ _ _ _ l5 => (e.toInt - l5.toInt).toNat) ?_ _ _ _ _ _ _ ⟨⟨rfl, fun _ _ => rfl⟩, rfl, rfl, ⟨by omega, Or.inr rfl⟩, 0, ⟨rfl, by omega⟩, ok⟩ (by unfold FU; omega)
  rintro rec z l1 l3 l4 l5 ⟨hf, rfl, rfl, ⟨b1, _⟩, n, ⟨n4, nb⟩, hd⟩ hr
  rw [o130, z0]
  refine T_le (fun _ => T_vp (by decide) (by decide) (T_some.mpr hf)) (fun g => T_vp (by omega) (by show l5.toInt < 260; omega) (T_nm ?_))
  have e5 := inc1 (a := l5) (by omega) (by omega)
  obtain ⟨m, hm⟩ : ∃ m : Nat, (l3.toInt - l5.toInt).toNat = m + 1 := ⟨(l3.toInt - l5.toInt).toNat - 1, by omega⟩
  rw [hm] at hd
  obtain ⟨d, sd, hd2⟩ := dp_step hd
  have i5 : (l5 + 1).toInt.toNat = l5.toInt.toNat + 1 := by omega
  have m5 : (l3.toInt - (l5 + 1).toInt).toNat = m := by omega
  have go : ∀ (y : SS) (v : Int32), F80 q y → v.toInt = (d : Int) → (d : Int) ≤ n + 1 → T (rec y 0 l3 v (l5 + 1)) (fun r => F80 q r.2) := by
    intro y v hy hv hdn
    refine hr _ _ _ _ _ ⟨hy, rfl, rfl, ⟨by omega, Or.inl (by omega)⟩, d, ⟨hv, by omega⟩, ?_⟩ (by omega)
    rw [m5, i5]
    exact hd2
  have e4 := inc1 (a := l4) (by omega) (by omega)
  have d4 : 1 ≤ n → (l4 - 1).toInt = l4.toInt - 1 := fun _ => dec1 (by omega)
  have a74 : z.1 74 l5.toNatClampNeg = q.1 74 l5.toInt.toNat := by rw [hf.2 74 (by decide)]; rfl
  have a75 : z.1 75 l5.toNatClampNeg = q.1 75 l5.toInt.toNat := by rw [hf.2 75 (by decide)]; rfl
  rw [a74]
  generalize ga : q.1 74 l5.toInt.toNat = A at sd ⊢
  generalize gw : q.1 75 l5.toInt.toNat = W at sd a75
  unfold b_X12_worked_45 b_X12_worked_79 b_X12_worked_117 b_X12_worked_182
  have v130 : ((130 : Nat) : Int) = 130 := rfl
  by_cases c1 : A = 1
  · subst c1
    have sd' : some (n + 1) = some d := sd
    have := Option.some.inj sd'
    refine T_p rfl (T_p rfl (T_vp (by omega) (by show l5.toInt < 260; omega) (T_vp (by omega) (by rw [v130]; omega) (T_nm (go _ _ (F80_s hf _ _) (by omega) (by omega))))))
  by_cases c2 : A = 2
  · subst c2
    have s2 := stepd_2 sd
    refine T_q c1 (T_p rfl (T_q c1 (T_vp (by omega) (by show l5.toInt < 260; omega) (T_vp ?_ ?_ (T_vp (by omega) (by rw [v130]; omega) (T_nm (go _ _ (F80_s hf _ _) (by omega) (by omega))))))))
    · rw [a75]; exact s2.1.1
    · rw [a75]; exact s2.1.2
  by_cases c3 : A = 3
  · subst c3
    have s3 := stepd_34 (Or.inl rfl) sd
    have := d4 s3.1
    refine T_q c1 (T_q c2 (T_p rfl (T_vp (by omega) (by rw [v130]; omega) (T_i (fun _ => ?_) (fun _ => ?_)))))
    · exact T_vp (by omega) (by rw [v130]; omega) (T_nm (go _ _ (F80_s hf _ _) (by omega) (by omega)))
    · exact T_vp (by omega) (by rw [v130]; omega) (T_nm (go _ _ (F80_s hf _ _) (by omega) (by omega)))
  by_cases c4 : A = 4
  · subst c4
    have s3 := stepd_34 (Or.inr rfl) sd
    have := d4 s3.1
    refine T_q c1 (T_q c2 (T_q c3 (T_p rfl (T_vp (by omega) (by rw [v130]; omega) (T_vp (by omega) (by rw [v130]; omega) (T_nm (go _ _ (F80_s hf _ _) (by omega) (by omega))))))))
  have s5 := stepd_5 c1 c2 c3 c4 sd
  have em : l4 + (-1) = l4 - 1 := by rw [Int32.sub_eq_add_neg]
  rw [em]
  have d1 := d4 (by omega)
  have d2 : (l4 - 1 - 1).toInt = (l4 - 1).toInt - 1 := dec1 (by omega)
  refine T_q c1 (T_q c2 (T_q c3 (T_q c4 (T_vp (by omega) (by rw [v130]; omega) (T_vp (by omega) (by rw [v130]; omega) (T_b (m_twoOf z _ _ _) (fun r _ => T_vp (by omega) (by rw [v130]; omega) (T_nm (go _ _ (F80_s hf _ _) (by omega) (by omega)))))))))) 
/-! ===== the model's lines, in their order ===== -/
theorem F80_t {a b c : SS} (h : F80 a b) (g : F80 b c) : F80 a c := ⟨g.1.trans h.1, fun k hk => (g.2 k hk).trans (h.2 k hk)⟩
theorem m_workedz {q z : SS} (hf : F80 q z) {s e : Int32} (hs : 0 ≤ s.toInt) (he : e.toInt ≤ 130) (ok : okSeg (q.1 74) (q.1 75) s.toInt e.toInt) : T (f_X12_worked z 0 s e) (fun r => F80 q r.2) := by
  refine T_mono (m_worked (q := z) hs he (by rw [hf.2 74 (by decide), hf.2 75 (by decide)]; exact ok)) (fun r hr => F80_t hf hr)
theorem m_gives {q : SS} (h : RW q) (ht : q.1 60 30 = 1) : T (f_X12_gives q 0) (fun r => F80 q r.2) := by
  have o61 : (61 : Int32) * 0 = 0 := by decide
  have z0 : ∀ x : Int32, (0 : Int32) + x = x := fun x => Int32.zero_add x
  have hm := RW_m h ht
  have hl := RW_line h ht
  have l0 : (0 : Int32).toInt = 0 := rfl
  unfold f_X12_gives
  rw [o61]
  refine T_nm ?_
  unfold b_X12_gives_7
  refine T_fx4 (fun z l1 l2 l3 => F80 q z ∧ l1 = 0 ∧ (0 ≤ l3.toInt ∧ l3.toInt ≤ 61) ∧ l2.toInt = (if l3.toInt.toNat = 0 then 0 else (q.1 78 (l3.toInt.toNat - 1)).toInt)) (fun _ _ _ l3 => (61 - l3.toInt).toNat) ?_ _ _ _ _ _ ⟨⟨rfl, fun _ _ => rfl⟩, rfl, by decide, rfl⟩ (by unfold FU; decide)
  rintro rec z l1 l2 l3 ⟨hf, rfl, hb, e2⟩ hr
  have k0 : (0 : Int32).toNatClampNeg = 0 := rfl
  rw [o61, z0, k0, hf.2 76 (by decide), hf.2 77 (by decide)]
  refine T_vp (by decide) (by decide) (T_le (fun _ => T_some.mpr hf) (fun g => T_vp hb.1 (by show l3.toInt < 122; omega) ?_))
  have L := hl l3.toInt.toNat (by omega)
  rw [← e2] at L
  obtain ⟨s0, st, te, e130, o1, o2⟩ := L
  have eN : l3.toNatClampNeg = l3.toInt.toNat := rfl
  rw [eN]
  generalize gt : q.1 77 l3.toInt.toNat = t at *
  have w2 : ∀ y : SS, F80 q y → T (b_X12_gives_47 y 0 l3) (fun r => F80 q r.2) := by
    intro y hy
    unfold b_X12_gives_47
    refine T_vp hb.1 (by show l3.toInt < 122; omega) (T_vp hb.1 (by show l3.toInt < 122; omega) ?_)
    rw [hy.2 77 (by decide), hy.2 78 (by decide), eN, gt]
    exact T_b (m_workedz hy (by omega) e130 o1) (fun r hr => T_some.mpr hr)
  refine T_eq (fun _ => w2 z hf) (fun ne => T_vp hb.1 (by show l3.toInt < 122; omega) (T_b (m_workedz hf (by omega) (by omega) (o2 ne)) (fun r hy => T_i (fun _ => T_vp hb.1 (by show l3.toInt < 122; omega) (T_nm ?_)) (fun _ => w2 _ hy))))
  have e3 := inc1 (a := l3) (by omega) (by omega)
  refine hr _ _ _ _ ⟨hy, rfl, by omega, ?_⟩ (by omega)
  rw [hy.2 78 (by decide), if_neg (by omega)]
  show (q.1 78 l3.toInt.toNat).toInt = _
  exact congrArg (fun i => (q.1 78 i).toInt) (by omega)
theorem INV_sM {q : SS} (h : INV q) {k i : Nat} {x : Int32} (hw : wM k i = true) (hk : k ≠ 81) : INV (sI q k i x) := by
  have h37 : (37 : Nat) ≠ k := by
    rintro rfl
    cases hw
  have j := INV_RJ h
  refine INV_wM (Fr_sI (Fr_refl q) hw) ⟨?_, ?_, ?_⟩ h
  · rw [sI_ro h37]; exact RJ_e0 j
  · rw [sI_ro h37]; exact RJ_e12 j
  · rw [sI_ro (Ne.symm hk)]; exact RJ_h1 j
theorem INV_s81 {q : SS} (h : INV q) {i : Nat} {x : Int32} (hi : 0 ≤ x.toInt ∧ x.toInt ≤ 5) : INV (sI q 81 i x) := by
  have j := INV_RJ h
  refine INV_wM (Fr_sI (Fr_refl q) (by unfold wM; simp)) ⟨by have a := RJ_e0 j; exact a, by have a := RJ_e12 j; exact a, ?_⟩ h
  intro t ht
  rw [sI_rd]
  by_cases c : t = i
  · rw [if_pos ⟨rfl, c⟩]; exact hi
  · rw [if_neg (fun y => c y.2)]; exact RJ_h1 j t ht
theorem INV_sLM {q : SS} (h : INV q) {k i : Nat} {x : Int64} (hk : vM k = true) : INV (sL q k i x) := INV_wM (Fr_sL (Fr_refl q) hk) (by have a := INV_RJ h; exact a) h
theorem INV_80 {q z : SS} (h : INV q) (f : F80 q z) : INV z := INV_wF ⟨fun k i e => by
    have : k ≠ 80 := by
      rintro rfl
      exact absurd e (by unfold wF; simp)
    rw [f.2 k this], fun k _ => by rw [f.1]⟩ h
/-- what the model's odds leave: all but 79 and 80 -/
def F79 (q z : SS) : Prop := z.2 = q.2 ∧ ∀ k, k ≠ 80 → k ≠ 79 → z.1 k = q.1 k
theorem F79_r (q : SS) : F79 q q := ⟨rfl, fun _ _ _ => rfl⟩
theorem F79_s {q z : SS} (h : F79 q z) (i : Nat) (x : Int32) : F79 q (sI z 79 i x) := ⟨h.1, fun k h0 hk => (sI_ro hk).trans (h.2 k h0 hk)⟩
theorem F79_80 {q z y : SS} (h : F79 q z) (f : F80 z y) : F79 q y := ⟨f.1.trans h.1, fun k h0 hk => (f.2 k h0).trans (h.2 k h0 hk)⟩
theorem F79_t {a b c : SS} (h : F79 a b) (g : F79 b c) : F79 a c := ⟨g.1.trans h.1, fun k h0 hk => (g.2 k h0 hk).trans (h.2 k h0 hk)⟩
theorem INV_79 {q z : SS} (h : INV q) (f : F79 q z) : INV z := INV_wF ⟨fun k i e => by
    have h80 : k ≠ 80 := by
      rintro rfl
      exact absurd e (by unfold wF; simp)
    have h79 : k ≠ 79 := by
      rintro rfl
      exact absurd e (by unfold wF; simp)
    rw [f.2 k h80 h79], fun k _ => by rw [f.1]⟩ h
theorem z1212 : 0 ≤ (12 : Int32).toInt ∧ (12 : Int32).toInt ≤ 12 := by decide
theorem m_cl (q : SS) (v : Int32) : T (b_X12_oddsOf_115 q v) (fun r => r.2 = q ∧ 0 ≤ r.1.toInt ∧ r.1.toInt ≤ 12) := by
  have l0 : (0 : Int32).toInt = 0 := rfl
  have l12 : (12 : Int32).toInt = 12 := rfl
  unfold b_X12_oddsOf_115
  exact T_le (fun g => T_le (fun g2 => T_some.mpr ⟨rfl, by show 0 ≤ v.toInt; omega, by show v.toInt ≤ 12; omega⟩) (fun _ => T_some.mpr ⟨rfl, z1212⟩)) (fun _ => T_some.mpr ⟨rfl, z012⟩)
theorem m_oddsOf {q : SS} (h : INV q) {a b : Int32} (ha : 0 ≤ a.toInt ∧ a.toInt < 12) (hb : 0 ≤ b.toInt ∧ b.toInt < 6) : T (f_X12_oddsOf q a b) (fun r => F79 q r.2 ∧ 0 ≤ r.1.toInt ∧ r.1.toInt ≤ 12) := by
  have hj := RJ_h1 (INV_RJ h) a.toNatClampNeg (by show a.toInt.toNat < 12; omega)
  have hW := INV_RW h
  have hk0 := RY_k0 (INV_RY h)
  have hk12 := RY_k12 (INV_RY h)
  unfold f_X12_oddsOf
  refine T_rw (m_maySlip ha hb) (T_bi (fun _ => T_some.mpr ⟨F79_r q, z012⟩) (fun _ => T_vp hb.1 hb.2 (T_vp (by decide) (by decide) (T_nm (T_i (fun _ => T_mono (m_cl q _) (fun r hr => ⟨by rw [hr.1]; exact F79_r q, hr.2⟩)) (fun n30 => T_vp hb.1 hb.2 (T_vp (by decide) (by decide) (T_nm (T_vp ha.1 ha.2 ?_)))))))))
  have t30 : q.1 60 30 = 1 := (RW_told hW).resolve_left n30
  refine T_vp hj.1 (by have := hj.2; show (q.1 81 a.toNatClampNeg).toInt < 6; omega) (T_vp (by decide) (by decide) (T_nm (T_rw (m_manyOf hk0 hk12 b) (T_vp (by decide) (by decide) (T_nm (T_vp ha.1 ha.2 (T_vp (by decide) (by decide) (T_nm (T_vp (by decide) (by decide) (T_nm (T_vp (by decide) (by decide) (T_vp (by decide) (by decide) (T_nm ?_)))))))))))))
  generalize gx : sI _ 79 (Int32.toNatClampNeg 5) _ = x
  have fx : F79 q x := by
    rw [← gx]
    exact F79_s (F79_s (F79_s (F79_s (F79_s (F79_s (F79_r q) _ _) _ _) _ _) _ _) _ _) _ _
  have hx := INV_79 h fx
  have x30 : x.1 60 30 = 1 := by rw [fx.2 60 (by decide) (by decide)]; exact t30
  exact T_b (m_gives (INV_RW hx) x30) (fun r hr => T_mono (m_cl r.2 r.1) (fun y hy => ⟨by rw [hy.1]; exact F79_80 fx hr, hy.2⟩))
/-! ===== the model's queries answer, and leave what holds ===== -/
/-- what a walk of the model's odds leaves, beside what holds always -/
def GM (q z : SS) : Prop := INV z ∧ z.2 91 = q.2 91 ∧ z.1 90 = q.1 90 ∧ z.1 60 1 = q.1 60 1 ∧ z.1 60 6 = q.1 60 6
theorem GM_r {q : SS} (h : INV q) : GM q q := ⟨h, rfl, rfl, rfl, rfl⟩
theorem GM_I {q z : SS} (g : GM q z) : INV z := g.1
theorem GM_79 {q z y : SS} (g : GM q z) (f : F79 z y) : GM q y := ⟨INV_79 g.1 f, (congrFun f.1 91).trans g.2.1, (f.2 90 (by decide) (by decide)).trans g.2.2.1, (congrFun (f.2 60 (by decide) (by decide)) 1).trans g.2.2.2.1, (congrFun (f.2 60 (by decide) (by decide)) 6).trans g.2.2.2.2⟩
theorem GM_81 {q z : SS} (g : GM q z) {i : Nat} {x : Int32} (hi : 0 ≤ x.toInt ∧ x.toInt ≤ 5) : GM q (sI z 81 i x) := by
  have a := INV_s81 g.1 (i := i) hi
  have b := g.2
  exact ⟨a, b⟩
theorem GM_60 {q z : SS} (g : GM q z) {i : Nat} {x : Int32} (h1 : 32 ≤ i) (h2 : i ≤ 44) : GM q (sI z 60 i x) := by
  have w : wM 60 i = true := by
    unfold wM
    have a : Nat.ble 32 i = true := Nat.ble_eq.mpr h1
    have b : Nat.ble i 44 = true := Nat.ble_eq.mpr h2
    rw [a, b]
    simp
  refine ⟨INV_sM g.1 w (by decide), g.2.1, g.2.2.1, ?_, ?_⟩
  · rw [sI_rd, if_neg (fun y => by omega)]; exact g.2.2.2.1
  · rw [sI_rd, if_neg (fun y => by omega)]; exact g.2.2.2.2
theorem GM_now {q r : SS} (h : INV q) (n : NWM q r) : GM q r := ⟨NWM_I h n, congrFun n.1 91, n.2.1 90 (by decide) (by decide), nm_P n, nm_K n⟩
theorem GM_P {q z : SS} (g : GM q z) : 0 ≤ (z.1 60 1).toInt ∧ (z.1 60 1).toInt ≤ 6 := ⟨RY_p0 (INV_RY g.1), RY_p6 (INV_RY g.1)⟩
theorem GM_K {q z : SS} (g : GM q z) : 0 ≤ (z.1 60 6).toInt ∧ (z.1 60 6).toInt ≤ 12 := ⟨RY_k0 (INV_RY g.1), RY_k12 (INV_RY g.1)⟩
theorem GM_odds {q z : SS} (g : GM q z) {a b : Int32} (ha : 0 ≤ a.toInt ∧ a.toInt < 12) (hb : 0 ≤ b.toInt ∧ b.toInt < 6) : T (f_X12_oddsOf z a b) (fun r => GM q r.2 ∧ 0 ≤ r.1.toInt ∧ r.1.toInt ≤ 12) := T_mono (m_oddsOf g.1 ha hb) (fun _ hr => ⟨GM_79 g hr.1, hr.2⟩)
theorem m_slipT (z : SS) {a b : Int32} (ha : 0 ≤ a.toInt ∧ a.toInt < 12) (hb : 0 ≤ b.toInt ∧ b.toInt < 6) : T (f_X12_maySlip z a b) (fun _ => True) := T_of (m_maySlip ha hb) trivial
/-- the k-th of a's row is a slipping -/
def ISl (z : SS) (a : Int32) (k : Nat) : Prop := 0 ≤ ((z.2 91 (60 * a.toNatClampNeg + k)).toInt32).toInt ∧ ((z.2 91 (60 * a.toNatClampNeg + k)).toInt32).toInt / 8 < (z.1 60 6).toInt ∧ ((z.2 91 (60 * a.toNatClampNeg + k)).toInt32).toInt % 8 < (z.1 60 1).toInt
theorem ISl_G {q z : SS} (g : GM q z) {a : Int32} {k : Nat} (h : ISl q a k) : ISl z a k := by
  unfold ISl at *
  rw [g.2.1, g.2.2.2.1, g.2.2.2.2]
  exact h
theorem m_longOf {q z : SS} (g : GM q z) {a m : Int32} (ha : 0 ≤ a.toInt ∧ a.toInt < 6) (hm : 0 ≤ m.toInt ∧ m.toInt ≤ 12) : T (f_X12_longOf z a m) (fun r => (0 ≤ r.toInt ∧ r.toInt ≤ m.toInt) ∧ ∀ k : Nat, (k : Int) < r.toInt → ISl z a k) := by
  have hp := GM_P g
  have hk := GM_K g
  unfold f_X12_longOf b_X12_longOf_2
  refine T_fx3 (fun l1 l2 l3 => l1 = a ∧ l2 = m ∧ (0 ≤ l3.toInt ∧ l3.toInt ≤ m.toInt) ∧ ∀ k : Nat, (k : Int) < l3.toInt → ISl z a k) (fun _ _ l3 => (12 - l3.toInt).toNat) ?_ _ _ _ _ ⟨rfl, rfl, ⟨by decide, by show (0 : Int) ≤ m.toInt; omega⟩, fun k hk => absurd hk (by show ¬ ((k : Int) < 0); omega)⟩ (by unfold FU; decide)
  rintro rec l1 l2 l3 ⟨rfl, rfl, hb, hs⟩ hr
  refine T_le (fun _ => T_some.mpr ⟨hb, hs⟩) (fun c => T_vp ha.1 ha.2 (T_le (fun _ => T_some.mpr ⟨hb, hs⟩) (fun _ => T_rw (m_at ha ⟨hb.1, by omega⟩) (T_rw (m_areSlip hp.1 hk.1 _) (T_bi (fun _ => T_some.mpr ⟨hb, hs⟩) (fun ok => ?_))))))
  have e3 := inc1 (a := l3) (by omega) (by omega)
  refine hr _ _ _ ⟨rfl, rfl, by omega, ?_⟩ (by omega)
  intro k hk
  by_cases e : (k : Int) < l3.toInt
  · exact hs k e
  · have ek : k = l3.toNatClampNeg := by
      show k = l3.toInt.toNat
      omega
    subst ek
    exact ok
/-- the k-th of the row read where it is a slipping -/
theorem T_el {ρ : Type} {P : ρ → Prop} {q z : SS} (g : GM q z) {a l : Int32} {f : Int32 → Option ρ} (ha : 0 ≤ a.toInt ∧ a.toInt < 6) (hl : 0 ≤ l.toInt ∧ l.toInt < 60) (hs : ISl q a l.toInt.toNat) (k : ∀ v : Int32, (0 ≤ (v / 8).toInt ∧ (v / 8).toInt < 12) → (0 ≤ (jrem v 8).toInt ∧ (jrem v 8).toInt < 6) → (v / 8).toInt < (z.1 60 6).toInt → f_X12_at z a l = some v → T (f v) P) : T ((f_X12_at z a l).bind f) P := by
  have e := m_at (q := z) ha hl
  have hs' := ISl_G g hs
  have hp := GM_P g
  have hk := GM_K g
  have o0 : 0 ≤ ((z.2 91 (60 * a.toNatClampNeg + l.toNatClampNeg)).toInt32).toInt := hs'.1
  have o1 : ((z.2 91 (60 * a.toNatClampNeg + l.toNatClampNeg)).toInt32).toInt / 8 < (z.1 60 6).toInt := hs'.2.1
  have o2 : ((z.2 91 (60 * a.toNatClampNeg + l.toNatClampNeg)).toInt32).toInt % 8 < (z.1 60 1).toInt := hs'.2.2
  generalize gv : (z.2 91 (60 * a.toNatClampNeg + l.toNatClampNeg)).toInt32 = v at e o0 o1 o2
  have d := div8 o0
  have r := rem8 o0
  refine T_rw e (k v ⟨by rw [d]; omega, by rw [d]; omega⟩ ⟨by rw [r]; omega, by rw [r]; omega⟩ (by rw [d]; exact o1) e)
theorem mo_odds {q : SS} (h : INV q) (a : Int32) : T (f_X12_odds q a) (fun r => INV r.2) := by
  have hY := INV_RY h
  have p6 := RY_p6 hY
  have k12 := RY_k12 hY
  unfold f_X12_odds
  refine T_rw (m_areSlip (RY_p0 hY) (RY_k0 hY) a) (T_bi (fun _ => T_some.mpr h) (fun ok => T_b (m_now hY) (fun r hr => T_b (GM_odds (GM_now h hr) ⟨?_, ?_⟩ ⟨?_, ?_⟩) (fun s hs => T_some.mpr (GM_I hs.1)))))
  · rw [div8 ok.1]; omega
  · rw [div8 ok.1]; omega
  · rw [rem8 ok.1]; omega
  · rw [rem8 ok.1]; omega
theorem mo_watch {q : SS} (h : INV q) (a : Int32) : T (f_X12_watch q a) (fun r => INV r.2) := by
  have hY := INV_RY h
  have p6 := RY_p6 hY
  unfold f_X12_watch
  refine T_rw (m_isOne (RY_p0 hY) a) (T_bi (fun _ => T_some.mpr h) (fun ok => T_b (m_now hY) (fun r hr => ?_)))
  unfold b_X12_watch_22
  refine T_fx5 (fun z l1 _ _ l4 => GM q z ∧ l1 = a ∧ 0 ≤ l4.toInt ∧ l4.toInt ≤ 12) (fun _ _ _ _ l4 => (12 - l4.toInt).toNat) ?_ _ _ _ _ _ _ ⟨GM_now h hr, rfl, by decide, by decide⟩ (by unfold FU; decide)
  rintro rec z l1 l2 l3 l4 ⟨g, rfl, b0, b1⟩ hr
  have hk := GM_K g
  refine T_le (fun _ => T_i (fun _ => T_some.mpr (GM_I g)) (fun _ => T_some.mpr (GM_I g))) (fun c => T_b (m_slipT z ⟨b0, by omega⟩ ⟨ok.1, by omega⟩) (fun r4 _ => ?_))
  have e4 := inc1 (a := l4) (by omega) (by omega)
  have go : ∀ (y : SS) (u v : Int32), GM q y → T (rec y l1 u v (l4 + 1)) (fun r => INV r.2) := fun y u v gy => hr _ _ _ _ _ ⟨gy, rfl, by omega, by omega⟩ (by omega)
  unfold b_X12_watch_87 b_X12_watch_93
  refine T_i (fun _ => go _ _ _ g) (fun _ => T_b (GM_odds g ⟨b0, by omega⟩ ⟨ok.1, by omega⟩) (fun r5 hr5 => T_vp b0 (by show l4.toInt < 12; omega) (T_nm (T_i (fun _ => go _ _ _ hr5.1) (fun _ => T_i (fun _ => go _ _ _ hr5.1) (fun _ => T_i (fun _ => T_i (fun _ => go _ _ _ hr5.1) (fun _ => go _ _ _ hr5.1)) (fun _ => go _ _ _ hr5.1)))))))
theorem m_goEve {q : SS} (h : INV q) {a m : Int32} (ha : 0 ≤ a.toInt ∧ a.toInt < 6) (hm : 0 ≤ m.toInt ∧ m.toInt ≤ 12) : T (f_X12_goEve q a m) (fun r => GM q r) := by
  have hY := INV_RY h
  unfold f_X12_goEve
  refine T_b (m_now hY) (fun r hr => T_nm (T_nm ?_))
  have g0 := GM_60 (GM_60 (GM_now h hr) (i := 33) (x := 0) (by decide) (by decide)) (i := 34) (x := 0) (by decide) (by decide)
  refine T_b (m_longOf g0 ha hm) (fun n hn => ?_)
  generalize gx : sI (sI r 60 33 0) 60 34 0 = x at g0 hn
  unfold b_X12_goEve_24 b_X12_goEve_113
  refine T_fx4 (fun z l1 l3 l4 => (GM q z ∧ GM x z) ∧ l1 = a ∧ l3 = n ∧ 0 ≤ l4.toInt ∧ l4.toInt ≤ 12) (fun _ _ _ l4 => (12 - l4.toInt).toNat) ?_ _ _ _ _ _ ⟨⟨g0, GM_r (GM_I g0)⟩, rfl, rfl, by decide, by decide⟩ (by unfold FU; decide)
  rintro rec z l1 l3 l4 ⟨⟨g, gx2⟩, rfl, rfl, b0, b1⟩ hr
  refine T_le (fun _ => T_some.mpr g) (fun c => T_el gx2 ha ⟨b0, by omega⟩ (hn.2 _ (by omega)) (fun v v8 vr _ ev => T_nm (T_rw ev (T_nm (T_b (m_slipT z v8 vr) (fun r9 _ => ?_))))))
  have e4 := inc1 (a := l4) (by omega) (by omega)
  have go : ∀ (y : SS), GM q y ∧ GM x y → T (rec y l1 l3 (l4 + 1)) (fun r => GM q r) := fun y gy => hr _ _ _ _ ⟨gy, rfl, rfl, by omega, by omega⟩ (by omega)
  refine T_i (fun _ => T_nm (go _ ⟨GM_60 g (by decide) (by decide), GM_60 gx2 (by decide) (by decide)⟩)) (fun _ => T_b (m_oddsOf g.1 v8 vr) (fun s hs => T_i (fun _ => go _ ⟨GM_79 g hs.1, GM_79 gx2 hs.1⟩) (fun _ => T_vp v8.1 v8.2 (T_nm (T_nm (go _ ⟨GM_60 (GM_81 (GM_79 g hs.1) ⟨vr.1, by omega⟩) (by decide) (by decide), GM_60 (GM_81 (GM_79 gx2 hs.1) ⟨vr.1, by omega⟩) (by decide) (by decide)⟩))))))
theorem mo_later {q : SS} (h : INV q) (a b c : Int32) : T (f_X12_later q a b c) (fun r => INV r.2) := by
  have hY := INV_RY h
  have k12 := RY_k12 hY
  unfold f_X12_later
  refine T_rw (m_isShelf q a) (T_bi (fun _ => T_some.mpr h) (fun ha => T_rw (m_areMany q b) (T_bi (fun _ => T_some.mpr h) (fun hb => T_rw (m_isTicket (RY_k0 hY) c) (T_bi (fun _ => T_some.mpr h) (fun hc => T_rw (m_rowFault ha) (T_i (fun _ => T_b (m_goEve h ha hb) (fun r hr => T_vp hc.1 (by show c.toInt < 12; omega) (T_some.mpr (GM_I hr)))) (fun _ => T_rw (m_rowFault ha) (T_some.mpr h)))))))))
theorem mo_eve {q : SS} (h : INV q) (a b c : Int32) : T (f_X12_eve q a b c) (fun r => INV r.2) := by
  have hY := INV_RY h
  unfold f_X12_eve
  refine T_rw (m_isShelf q a) (T_bi (fun _ => T_some.mpr h) (fun ha => T_rw (m_areMany q b) (T_bi (fun _ => T_some.mpr h) (fun hb => T_rw (m_in q c _ _) (T_bi (fun _ => T_some.mpr h) (fun hc => T_rw (m_rowFault ha) (T_i (fun _ => T_b (m_goEve h ha hb) (fun r hr => T_i (fun _ => T_some.mpr (GM_I hr)) (fun _ => T_i (fun _ => T_some.mpr (GM_I hr)) (fun _ => T_rw (m_realOf (GM_K hr).1 (GM_K hr).2 c) (T_some.mpr (GM_I hr)))))) (fun _ => T_rw (m_rowFault ha) (T_some.mpr h)))))))))
/-! ===== the model's lowest terms answer; likely, all, hire ===== -/
theorem lremA {x y : Int64} (hy : y ≠ 0) : (jlrem x y).toInt.natAbs = x.toInt.natAbs % y.toInt.natAbs := by
  have hy0 : y.toInt ≠ 0 := fun e => hy (eq64.mpr e)
  have y1 := Int64.toInt_lt y
  have y2 := Int64.le_toInt y
  have hm : (x.toInt.tmod y.toInt).natAbs = x.toInt.natAbs % y.toInt.natAbs := Int.natAbs_tmod _ _
  have hlt : x.toInt.natAbs % y.toInt.natAbs < y.toInt.natAbs := Nat.mod_lt _ (by omega)
  have e : (jlrem x y).toInt = x.toInt.tmod y.toInt := by
    show (x - x / y * y).toInt = _
    rw [Int64.toInt_sub, Int64.toInt_mul, Int64.toInt_div, Int.bmod_mul_bmod, Int.sub_bmod_bmod, Int.mul_comm, ← Int.tmod_def]
    exact Int.bmod_eq_of_le (by omega) (by omega)
  rw [e, hm]
def mA (x y : Int64) : Nat := mu x.toInt.natAbs y.toInt.natAbs
theorem mA_b (x y : Int64) : mA x y ≤ 130 := by
  have l : ∀ n : Nat, n < 2 ^ 64 → Nat.log2 n ≤ 63 := fun n hn => by
    by_cases h : n = 0
    · subst h; decide
    · have := (Nat.log2_lt h).mpr hn
      omega
  have x1 := Int64.toInt_lt x
  have x2 := Int64.le_toInt x
  have y1 := Int64.toInt_lt y
  have y2 := Int64.le_toInt y
  have a := l x.toInt.natAbs (by omega)
  have b := l y.toInt.natAbs (by omega)
  unfold mA mu
  split
  · omega
  · split <;> omega
theorem mA_s {x y : Int64} (hy : y ≠ 0) : mA y (jlrem x y) < mA x y := by
  have hy0 : y.toInt ≠ 0 := fun e => hy (eq64.mpr e)
  unfold mA
  rw [lremA hy]
  exact mu_s (by omega)
theorem m_lowT (q : SS) (a b : Int64) (p : Int32) : T (f_X12_lowest q a b p) (fun _ => True) := by
  unfold f_X12_lowest
  by_cases z : a = 0
  · exact T_p (lgc_z.mpr z) (T_some.mpr trivial)
  refine T_q (fun y => z (lgc_z.mp y)) ?_
  unfold b_X12_lowest_16
  refine T_fx5 (fun _ _ _ l5 l7 => ¬ (l5 = 0 ∧ l7 = 0)) (fun _ _ _ l5 l7 => mA l5 l7) ?_ _ _ _ _ _ _ (fun y => z y.1) (by have := mA_b a b; unfold FU; omega)
  intro rec l0 l2 l4 l5 l7 h hr
  by_cases c : l7 = 0
  · have n5 : ¬ l5 = 0 := fun y => h ⟨y, c⟩
    exact T_p (lgc_z.mpr c) (T_i (fun _ => T_n n5 (T_some.mpr trivial)) (fun _ => T_n n5 (T_some.mpr trivial)))
  · exact T_q (fun y => c (lgc_z.mp y)) (T_n c (T_nm (hr _ _ _ _ _ (fun y => c y.1) (mA_s c))))
theorem mo_all {q : SS} (h : INV q) (a b : Int32) : T (f_X12_all q a b) (fun r => INV r.2) := by
  have hY := INV_RY h
  unfold f_X12_all
  refine T_rw (m_isShelf q a) (T_bi (fun _ => T_some.mpr h) (fun ha => T_rw (m_in q b _ _) (T_bi (fun _ => T_some.mpr h) (fun _ => T_rw (m_rowFault ha) (T_i (fun _ => T_b (m_now hY) (fun r hr => ?_)) (fun _ => T_some.mpr h))))))
  have g0 := GM_now h hr
  refine T_b (m_longOf g0 ha (m := 12) z1212) (fun n hn => ?_)
  have n12 : n.toInt ≤ 12 := hn.1.2
  unfold b_X12_all_49 b_X12_all_124
  refine T_fx7 (fun z l1 _ l3 _ _ l8 => GM r z ∧ l1 = a ∧ l3 = n ∧ 0 ≤ l8.toInt ∧ l8.toInt ≤ 12) (fun _ _ _ _ _ _ l8 => (12 - l8.toInt).toNat) ?_ _ _ _ _ _ _ _ _ ⟨GM_r (GM_I g0), rfl, rfl, by decide, by decide⟩ (by unfold FU; decide)
  rintro rec z l1 l2 l3 l4 l6 l8 ⟨g, rfl, rfl, b0, b1⟩ hrec
  refine T_le (fun _ => T_b (m_lowT z _ _ _) (fun v _ => T_some.mpr (GM_I g))) (fun c => T_el g ha ⟨b0, by omega⟩ (hn.2 _ (by omega)) (fun v v8 vr _ ev => T_nm (T_rw ev (T_nm (T_b (m_slipT z v8 vr) (fun r9 _ => ?_))))))
  have e8 := inc1 (a := l8) (by omega) (by omega)
  have go : ∀ (y : SS) (u v : Int64), GM r y → T (rec y l1 l2 l3 u v (l8 + 1)) (fun r => INV r.2) := fun y u v gy => hrec _ _ _ _ _ _ _ ⟨gy, rfl, rfl, by omega, by omega⟩ (by omega)
  refine T_i (fun _ => go _ _ _ g) (fun _ => T_b (GM_odds g v8 vr) (fun s hs => T_nm (T_nm (T_vp v8.1 v8.2 (T_nm (go _ _ _ (GM_81 hs.1 ⟨vr.1, by omega⟩)))))))
theorem mo_likely {q : SS} (h : INV q) (a b c : Int32) : T (f_X12_likely q a b c) (fun r => INV r.2) := by
  have hY := INV_RY h
  unfold f_X12_likely
  refine T_rw (m_isShelf q a) (T_bi (fun _ => T_some.mpr h) (fun ha => T_rw (m_in q b _ _) (T_bi (fun _ => T_some.mpr h) (fun _ => T_rw (m_in q c _ _) (T_bi (fun _ => T_some.mpr h) (fun _ => T_rw (m_rowFault ha) (T_i (fun _ => T_b (m_now hY) (fun r hr => ?_)) (fun _ => T_some.mpr h))))))))
  have g0 := GM_now h hr
  refine T_b (m_longOf g0 ha (m := 12) z1212) (fun n hn => ?_)
  have n12 : n.toInt ≤ 12 := hn.1.2
  have main : ∀ s0 : Int64, T (b_X12_likely_64 r a b c n s0) (fun r => INV r.2) := by
    intro s0
    unfold b_X12_likely_64 b_X12_likely_72 b_X12_likely_118 b_X12_likely_171 b_X12_likely_196
    refine T_fx8 (fun z l1 _ _ l4 _ _ l9 => GM r z ∧ l1 = a ∧ l4 = n ∧ 0 ≤ l9.toInt ∧ l9.toInt ≤ 12) (fun _ _ _ _ _ _ _ l9 => (12 - l9.toInt).toNat) ?_ _ _ _ _ _ _ _ _ _ ⟨GM_r (GM_I g0), rfl, rfl, by decide, by decide⟩ (by unfold FU; decide)
    rintro rec z l1 l2 l3 l4 l5 l7 l9 ⟨g, rfl, rfl, b0, b1⟩ hrec
    refine T_le (fun _ => T_b (m_lowT z _ _ _) (fun v _ => T_some.mpr (GM_I g))) (fun cc => T_el g ha ⟨b0, by omega⟩ (hn.2 _ (by omega)) (fun v v8 vr _ ev => T_nm (T_rw ev (T_nm ?_))))
    have e9 := inc1 (a := l9) (by omega) (by omega)
    have go : ∀ (y : SS) (u v : Int64), GM r y → T (rec y l1 l2 l3 l4 u v (l9 + 1)) (fun r => INV r.2) := fun y u v gy => hrec _ _ _ _ _ _ _ _ ⟨gy, rfl, rfl, by omega, by omega⟩ (by omega)
    refine T_i (fun _ => T_b (m_slipT z v8 vr) (fun r9 _ => ?_)) (fun _ => T_b (m_slipT z v8 vr) (fun r9 _ => ?_))
    · refine T_i (fun _ => T_i (fun _ => go _ _ _ g) (fun _ => go _ _ _ g)) (fun _ => T_b (GM_odds g v8 vr) (fun s hs => ?_))
      exact T_i (fun _ => T_nm (T_nm (T_i (fun _ => go _ _ _ hs.1) (fun _ => T_vp v8.1 v8.2 (T_nm (go _ _ _ (GM_81 hs.1 ⟨vr.1, by omega⟩))))))) (fun _ => T_nm (T_nm (T_i (fun _ => go _ _ _ hs.1) (fun _ => T_vp v8.1 v8.2 (T_nm (go _ _ _ (GM_81 hs.1 ⟨vr.1, by omega⟩)))))))
    · refine T_i (fun _ => T_i (fun _ => go _ _ _ g) (fun _ => go _ _ _ g)) (fun _ => T_b (GM_odds g v8 vr) (fun s hs => ?_))
      exact T_i (fun _ => T_nm (T_nm (T_i (fun _ => go _ _ _ hs.1) (fun _ => T_vp v8.1 v8.2 (T_nm (go _ _ _ (GM_81 hs.1 ⟨vr.1, by omega⟩))))))) (fun _ => T_nm (T_nm (T_i (fun _ => go _ _ _ hs.1) (fun _ => T_vp v8.1 v8.2 (T_nm (go _ _ _ (GM_81 hs.1 ⟨vr.1, by omega⟩)))))))
  exact T_i (fun _ => main _) (fun _ => main _)
/-! ===== the model's rid, first, hire answer ===== -/
theorem m_onHour (q : SS) (a : Int32) : T (f_X12_onHour q a) (fun _ => True) := by
  unfold f_X12_onHour
  exact T_vp (by decide) (by decide) (T_i (fun _ => T_vp (by decide) (by decide) (T_some.mpr trivial)) (fun _ => T_some.mpr trivial))
def LB (n : Nat) : Prop := ∀ (q z : SS) (a1 a2 a3 : Int32), GM q z → (0 ≤ a1.toInt ∧ a1.toInt < 6) → 
  ((1 ≤ a2.toInt → 3 * a2.toInt ≤ (n : Int) → ∀ a4 : Int64, T ((g_X12_leftBy n).1 z a1 a2 a3 a4) (fun r => GM q r.2))
  ∧ (1 ≤ a2.toInt → 3 * a2.toInt - 1 ≤ (n : Int) → ∀ (a4 : Int64) (a6 a7 : Int32), (0 ≤ a6.toInt ∧ a6.toInt < 12) → (0 ≤ a7.toInt ∧ a7.toInt < 6) → T ((g_X12_leftBy n).2.1 z a1 a2 a3 a4 a6 a7) (fun r => GM q r.2))
  ∧ (0 ≤ a2.toInt → 3 * a2.toInt + 1 ≤ (n : Int) → T ((g_X12_leftBy n).2.2 z a1 a2 a3) (fun r => GM q r.2)))
theorem LB_0 : LB 0 := by
  intro q z a1 a2 a3 _ _
  exact ⟨fun h1 h2 => absurd h2 (by omega), fun h1 h2 => absurd h2 (by omega), fun h1 h2 => absurd h2 (by omega)⟩
theorem LB_by {n : Nat} (ih : LB n) {q z : SS} {a1 a2 a3 : Int32} (g0 : GM q z) (h1 : 0 ≤ a1.toInt ∧ a1.toInt < 6) (t1 : 1 ≤ a2.toInt) (tn : 3 * a2.toInt ≤ ((n + 1 : Nat) : Int)) (a4 : Int64) : T (fb_X12_leftBy (g_X12_leftBy n) z a1 a2 a3 a4) (fun r => GM q r.2) := by
  unfold fb_X12_leftBy b_X12_leftBy_7
  refine T_fx7 (fun z l1 l2 _ _ _ l8 => GM q z ∧ l1 = a1 ∧ l2 = a2 ∧ 0 ≤ l8.toInt ∧ l8.toInt ≤ 12) (fun _ _ _ _ _ _ l8 => (12 - l8.toInt).toNat) ?_ _ _ _ _ _ _ _ _ ⟨g0, rfl, rfl, by decide, by decide⟩ (by unfold FU; decide)
  rintro rec z l1 l2 l3 l4 l6 l8 ⟨g, rfl, rfl, b0, b1⟩ hrec
  have hk := GM_K g
  refine T_le (fun _ => T_some.mpr g) (fun c => ?_)
  have e8 := inc1 (a := l8) (by omega) (by omega)
  have go : ∀ (y : SS) (l3 : Int32) (u v : Int64), GM q y → T (rec y l1 l2 l3 u v (l8 + 1)) (fun r => GM q r.2) := fun y l3 u v gy => hrec _ _ _ _ _ _ _ ⟨gy, rfl, rfl, by omega, by omega⟩ (by omega)
  unfold b_X12_leftBy_100 b_X12_leftBy_44 b_X12_leftBy_94 b_X12_leftBy_100
  refine T_vp b0 (by show l8.toInt < 12; omega) (T_i (fun _ => T_vp b0 (by show l8.toInt < 12; omega) (T_i (fun _ => go _ _ _ _ g) (fun _ => ?_))) (fun _ => go _ _ _ _ g))
  have k8 : l8.toInt < 12 := by omega
  refine T_fx8 (fun z m1 m2 _ _ _ m8 m9 => GM q z ∧ m1 = l1 ∧ m2 = l2 ∧ m8 = l8 ∧ 0 ≤ m9.toInt ∧ m9.toInt ≤ 6) (fun _ _ _ _ _ _ _ m9 => (6 - m9.toInt).toNat) ?_ _ _ _ _ _ _ _ _ _ ⟨g, rfl, rfl, rfl, by decide, by decide⟩ (by unfold FU; decide)
  rintro rec2 z2 m1 m2 m3 m4 m6 m8 m9 ⟨g2, rfl, rfl, rfl, c0, c1⟩ hrec2
  have hp := GM_P g2
  refine T_le (fun _ => go _ _ _ _ g2) (fun c => T_b (m_slipT z2 ⟨b0, k8⟩ ⟨c0, by omega⟩) (fun r1 _ => ?_))
  have e9 := inc1 (a := m9) (by omega) (by omega)
  have go2 : ∀ (y : SS) (l3 : Int32) (u v : Int64), GM q y → T (rec2 y m1 m2 l3 u v m8 (m9 + 1)) (fun r => GM q r.2) := fun y l3 u v gy => hrec2 _ _ _ _ _ _ _ _ ⟨gy, rfl, rfl, rfl, by omega, by omega⟩ (by omega)
  refine T_i (fun _ => go2 _ _ _ _ g2) (fun _ => T_b ((ih q z2 m1 m2 m3 g2 h1).2.1 t1 (by omega) _ _ _ ⟨b0, k8⟩ ⟨c0, by omega⟩) (fun r2 h2 => T_i (fun _ => go2 _ _ _ _ h2) (fun _ => go2 _ _ _ _ h2)))
theorem LB_slip {n : Nat} (ih : LB n) {q z : SS} {a1 a2 a3 : Int32} (g : GM q z) (h1 : 0 ≤ a1.toInt ∧ a1.toInt < 6) (t1 : 1 ≤ a2.toInt) (tn : 3 * a2.toInt - 1 ≤ ((n + 1 : Nat) : Int)) (a4 : Int64) {a6 a7 : Int32} (h6 : 0 ≤ a6.toInt ∧ a6.toInt < 12) (h7 : 0 ≤ a7.toInt ∧ a7.toInt < 6) : T (fb_X12_slipBy (g_X12_leftBy n) z a1 a2 a3 a4 a6 a7) (fun r => GM q r.2) := by
  have e2 := dec1 (a := a2) (by omega)
  unfold fb_X12_slipBy
  refine T_b (m_onHour z a3) (fun r1 _ => T_nm (T_b (GM_odds (GM_60 g (by decide) (by decide)) h6 h7) (fun r3 h3 => T_i (fun _ => T_some.mpr h3.1) (fun _ => T_vp h6.1 h6.2 (T_nm (T_b ((ih q _ a1 (a2 - 1) (a3 + 1) (GM_81 h3.1 ⟨h7.1, by omega⟩) h1).2.2 (by omega) (by omega)) (fun r5 h5 => T_nm (T_vp h6.1 h6.2 (T_nm (T_some.mpr (GM_81 h5 ⟨h1.1, by omega⟩)))))))))))
theorem LB_of {n : Nat} (ih : LB n) {q z : SS} {a1 a2 a3 : Int32} (g : GM q z) (h1 : 0 ≤ a1.toInt ∧ a1.toInt < 6) (t0 : 0 ≤ a2.toInt) (tn : 3 * a2.toInt + 1 ≤ ((n + 1 : Nat) : Int)) : T (fb_X12_leftOf (g_X12_leftBy n) z a1 a2 a3) (fun r => GM q r.2) := by
  unfold fb_X12_leftOf
  refine T_eq (fun _ => T_rw (m_realOf (GM_K g).1 (GM_K g).2 a1) (T_some.mpr g)) (fun ne => ?_)
  have l0 : (0 : Int32).toInt = 0 := rfl
  have e2 := dec1 (a := a2) (by omega)
  exact T_b ((ih q z a1 (a2 - 1) (a3 + 1) g h1).2.2 (by omega) (by omega)) (fun r2 h2 => T_b ((ih q _ a1 a2 a3 h2 h1).1 (by omega) (by omega) _) (fun r3 h3 => T_some.mpr h3))
theorem LB_all : ∀ n, LB n
  | 0 => LB_0
  | n + 1 => fun q z a1 a2 a3 g h1 => ⟨fun t1 tn a4 => LB_by (LB_all n) g h1 t1 tn a4, fun t1 tn a4 a6 a7 h6 h7 => LB_slip (LB_all n) g h1 t1 tn a4 h6 h7, fun t0 tn => LB_of (LB_all n) g h1 t0 tn⟩
theorem m_leftOf {q z : SS} (g : GM q z) {a1 a2 : Int32} (a3 : Int32) (h1 : 0 ≤ a1.toInt ∧ a1.toInt < 6) (h2 : 0 ≤ a2.toInt ∧ a2.toInt ≤ 3) : T (f_X12_leftOf z a1 a2 a3) (fun r => GM q r.2) := (LB_all 60 q z a1 a2 a3 g h1).2.2 h2.1 (by omega)
theorem m_leftBy {q z : SS} (g : GM q z) {a1 a2 : Int32} (a3 : Int32) (a4 : Int64) (h1 : 0 ≤ a1.toInt ∧ a1.toInt < 6) (h2 : 1 ≤ a2.toInt ∧ a2.toInt ≤ 3) : T (f_X12_leftBy z a1 a2 a3 a4) (fun r => GM q r.2) := (LB_all 60 q z a1 a2 a3 g h1).1 h2.1 (by omega) a4
theorem m_slipBy {q z : SS} (g : GM q z) {a1 a2 : Int32} (a3 : Int32) (a4 : Int64) {a6 a7 : Int32} (h1 : 0 ≤ a1.toInt ∧ a1.toInt < 6) (h2 : 1 ≤ a2.toInt ∧ a2.toInt ≤ 3) (h6 : 0 ≤ a6.toInt ∧ a6.toInt < 12) (h7 : 0 ≤ a7.toInt ∧ a7.toInt < 6) : T (f_X12_slipBy z a1 a2 a3 a4 a6 a7) (fun r => GM q r.2) := (LB_all 60 q z a1 a2 a3 g h1).2.1 h2.1 (by omega) a4 a6 a7 h6 h7
theorem mo_rid {q : SS} (h : INV q) (a b c : Int32) : T (f_X12_rid q a b c) (fun r => INV r.2) := by
  have hY := INV_RY h
  have p6 := RY_p6 hY
  unfold f_X12_rid
  refine T_rw (m_isOne (RY_p0 hY) a) (T_bi (fun _ => T_some.mpr h) (fun ha => T_rw (m_in q b _ _) (T_bi (fun _ => T_some.mpr h) (fun hb => T_rw (m_in q c _ _) (T_bi (fun _ => T_some.mpr h) (fun _ => T_b (m_now hY) (fun r hr => T_rw (nm_allReal hY hr) (T_nm (T_i (fun _ => T_some.mpr (NWM_I h hr)) (fun _ => ?_))))))))))
  have g0 := GM_now h hr
  have b3 : b.toInt ≤ 3 := hb.2
  have b0' : 0 ≤ b.toInt := hb.1
  unfold b_X12_rid_53
  refine T_fx6 (fun z l1 l2 _ _ l6 => GM q z ∧ l1 = a ∧ l2 = b ∧ 0 ≤ l6.toInt ∧ l6.toInt ≤ 3) (fun _ _ _ _ _ l6 => (3 - l6.toInt).toNat) ?_ _ _ _ _ _ _ _ ⟨g0, rfl, rfl, by decide, by decide⟩ (by unfold FU; decide)
  rintro rec z l1 l2 l3 l4 l6 ⟨g, rfl, rfl, c0, c1⟩ hrec
  refine T_le (fun _ => T_b (m_leftOf g 0 ⟨ha.1, by omega⟩ ⟨b0', b3⟩) (fun r7 h7 => T_b (m_lowT r7.2 _ _ _) (fun v _ => T_some.mpr (GM_I h7)))) (fun cc => T_nm ?_)
  have e6 := inc1 (a := l6) (by omega) (by omega)
  exact hrec _ _ _ _ _ _ ⟨g, rfl, rfl, by omega, by omega⟩ (by omega)
theorem mo_first {q : SS} (h : INV q) (a b : Int32) : T (f_X12_first q a b) (fun r => INV r.2) := by
  have hY := INV_RY h
  have p6 := RY_p6 hY
  have l0 : (0 : Int32).toInt = 0 := rfl
  have l3 : (3 : Int32).toInt = 3 := rfl
  unfold f_X12_first
  refine T_rw (m_isOne (RY_p0 hY) a) (T_bi (fun _ => T_some.mpr h) (fun ha => T_rw (m_in q b _ _) (T_bi (fun _ => T_some.mpr h) (fun hb => T_b (m_now hY) (fun r hr => T_eq (fun _ => T_some.mpr (NWM_I h hr)) (fun ne => ?_))))))
  have g0 := GM_now h hr
  have b3 : b.toInt ≤ 3 := by have := hb.2; omega
  have b1 : 1 ≤ b.toInt := by have := hb.1; omega
  have ha6 : 0 ≤ a.toInt ∧ a.toInt < 6 := ⟨ha.1, by omega⟩
  have eb := dec1 (a := b) (by omega)
  refine T_b (m_leftOf g0 1 ha6 ⟨by omega, by omega⟩) (fun r4 h4 => T_nm (T_b (m_leftBy h4 0 _ ha6 ⟨b1, b3⟩) (fun r6 h6 => T_i (fun _ => T_some.mpr (GM_I h6)) (fun _ => ?_))))
  unfold b_X12_first_67
  refine T_fx6 (fun z l1 l2 _ _ l7 => GM q z ∧ l1 = a ∧ l2 = b ∧ 0 ≤ l7.toInt ∧ l7.toInt ≤ 12) (fun _ _ _ _ _ l7 => (12 - l7.toInt).toNat) ?_ _ _ _ _ _ _ _ ⟨h6, rfl, rfl, by decide, by decide⟩ (by unfold FU; decide)
  rintro rec z l1 l2 l3 l5 l7 ⟨g, rfl, rfl, c0, c1⟩ hrec
  have hk := GM_K g
  refine T_le (fun _ => T_some.mpr (GM_I g)) (fun cc => ?_)
  have e7 := inc1 (a := l7) (by omega) (by omega)
  have go : ∀ (y : SS) (u v : Int64), GM q y → T (rec y l1 l2 u v (l7 + 1)) (fun r => INV r.2) := fun y u v gy => hrec _ _ _ _ _ _ ⟨gy, rfl, rfl, by omega, by omega⟩ (by omega)
  unfold b_X12_first_157 b_X12_first_104 b_X12_first_151 b_X12_first_157
  have k7 : l7.toInt < 12 := by omega
  refine T_vp c0 k7 (T_i (fun _ => T_vp c0 k7 (T_i (fun _ => go _ _ _ g) (fun _ => ?_))) (fun _ => go _ _ _ g))
  refine T_fx7 (fun z m1 m2 _ _ m7 m8 => GM q z ∧ m1 = l1 ∧ m2 = l2 ∧ m7 = l7 ∧ 0 ≤ m8.toInt ∧ m8.toInt ≤ 6) (fun _ _ _ _ _ _ m8 => (6 - m8.toInt).toNat) ?_ _ _ _ _ _ _ _ _ ⟨g, rfl, rfl, rfl, by decide, by decide⟩ (by unfold FU; decide)
  rintro rec2 z2 m1 m2 m3 m5 m7 m8 ⟨g2, rfl, rfl, rfl, d0, d1⟩ hrec2
  have hp := GM_P g2
  refine T_le (fun _ => go _ _ _ g2) (fun c => T_b (m_slipT z2 ⟨c0, k7⟩ ⟨d0, by omega⟩) (fun r1 _ => ?_))
  have e8 := inc1 (a := m8) (by omega) (by omega)
  have go2 : ∀ (y : SS) (u v : Int64), GM q y → T (rec2 y m1 m2 u v m7 (m8 + 1)) (fun r => INV r.2) := fun y u v gy => hrec2 _ _ _ _ _ _ _ ⟨gy, rfl, rfl, rfl, by omega, by omega⟩ (by omega)
  exact T_i (fun _ => go2 _ _ _ g2) (fun _ => T_b (m_slipBy g2 0 _ ha6 ⟨b1, b3⟩ ⟨c0, k7⟩ ⟨d0, by omega⟩) (fun r2 h2 => T_i (fun _ => T_some.mpr (GM_I h2)) (fun _ => go2 _ _ _ h2)))
/-! ===== the model's hire answers ===== -/
theorem GM_82 {q z : SS} (g : GM q z) {i : Nat} {x : Int32} : GM q (sI z 82 i x) := by
  have a := INV_sM (q := z) g.1 (k := 82) (i := i) (x := x) (by unfold wM; simp) (by decide)
  have b := g.2
  exact ⟨a, b⟩
theorem m_hire147 {q z : SS} (g0 : GM q z) {l2 l3 l5 l6 l7 : Int32} (hl : l2.toInt ≤ 12) (h7 : 0 ≤ l7.toInt ∧ l7.toInt ≤ 12) : T (b_X12_hire_147 z l2 l3 l5 l6 l7) (fun r => GM q r.2) := by
  have l0 : (0 : Int32).toInt = 0 := rfl
  unfold b_X12_hire_147
  refine T_fx6 (fun z m2 _ _ _ m7 => GM q z ∧ m2 = l2 ∧ 0 ≤ m7.toInt ∧ m7.toInt ≤ 12) (fun _ _ _ _ _ m7 => (12 - m7.toInt).toNat) ?_ _ _ _ _ _ _ _ ⟨g0, rfl, h7.1, h7.2⟩ (by unfold FU; omega)
  rintro rec z m2 m3 m5 m6 m7 ⟨g, rfl, b0, b1⟩ hrec
  refine T_le (fun _ => T_i (fun _ => T_some.mpr g) (fun _ => T_some.mpr g)) (fun c => ?_)
  have e7 := inc1 (a := m7) (by omega) (by omega)
  have go : ∀ (y : SS) (m3 u v : Int32), GM q y → T (rec y m2 m3 u v (m7 + 1)) (fun r => GM q r.2) := fun y m3 u v gy => hrec _ _ _ _ _ _ ⟨gy, rfl, by omega, by omega⟩ (by omega)
  unfold b_X12_hire_160 b_X12_hire_201 b_X12_hire_205
  refine T_fx7 (fun z n2 _ _ n7 n8 n9 => GM q z ∧ n2 = m2 ∧ n7 = m7 ∧ (n8.toInt < 6) ∧ 0 ≤ n9.toInt ∧ n9.toInt ≤ 6) (fun _ _ _ _ _ _ n9 => (6 - n9.toInt).toNat) ?_ _ _ _ _ _ _ _ _ ⟨g, rfl, rfl, by decide, by decide, by decide⟩ (by unfold FU; decide)
  rintro rec2 y n2 n3 n5 n7 n8 n9 ⟨gy, rfl, rfl, k8, c0, c1⟩ hrec2
  have hp := GM_P gy
  refine T_le (fun _ => T_le (fun p8 => T_vp (by omega) k8 (T_vp (by omega) k8 (T_nm (T_vp (by omega) k8 (T_nm (go _ _ _ _ (GM_82 gy))))))) (fun _ => T_some.mpr gy)) (fun cc => ?_)
  have e9 := inc1 (a := n9) (by omega) (by omega)
  have go2 : ∀ (u v w : Int32), w.toInt < 6 → T (rec2 y n2 u v n7 w (n9 + 1)) (fun r => GM q r.2) := fun u v w hw => hrec2 _ _ _ _ _ _ _ ⟨gy, rfl, rfl, hw, by omega, by omega⟩ (by omega)
  have k9 : n9.toInt < 6 := by omega
  refine T_vp c0 k9 (T_i (fun _ => go2 _ _ _ k8) (fun _ => T_lt (fun _ => go2 _ _ _ k9) (fun p8 => T_vp c0 k9 (T_vp (by omega) k8 (T_i (fun _ => go2 _ _ _ k8) (fun _ => go2 _ _ _ k9))))))
theorem mo_hire {q : SS} (h : INV q) (a b c : Int32) : T (f_X12_hire q a b c) (fun r => INV r.2) := by
  have hY := INV_RY h
  have k0 := RY_k0 hY
  have k12 := RY_k12 hY
  unfold f_X12_hire
  refine T_rw (m_isOne (RY_p0 hY) a) (T_bi (fun _ => T_some.mpr h) (fun ha => T_rw (m_in q b _ _) (T_bi (fun _ => T_some.mpr h) (fun hb => T_rw (m_in q c _ _) (T_bi (fun _ => T_some.mpr h) (fun _ => ?_))))))
  have b12 : b.toInt ≤ 12 := hb.2
  unfold b_X12_hire_35 b_X12_hire_69
  refine T_fx6 (fun z l1 l2 _ _ l5 => z = q ∧ l1 = a ∧ l2 = b ∧ 0 ≤ l5.toInt ∧ l5.toInt ≤ 12) (fun _ _ _ _ _ l5 => (12 - l5.toInt).toNat) ?_ _ _ _ _ _ _ _ ⟨rfl, rfl, rfl, by decide, by decide⟩ (by unfold FU; decide)
  rintro rec z l1 l2 l3 l4 l5 ⟨rfl, rfl, rfl, c0, c1⟩ hrec
  refine T_le (fun _ => T_i (fun _ => ?_) (fun _ => T_some.mpr h)) (fun cc => ?_)
  · unfold b_X12_hire_87 b_X12_hire_119 b_X12_hire_130
    refine T_fx5 (fun y m1 m2 _ m5 => GM z y ∧ m1 = l1 ∧ m2 = l2 ∧ 0 ≤ m5.toInt ∧ m5.toInt ≤ 6) (fun _ _ _ _ m5 => (6 - m5.toInt).toNat) ?_ _ _ _ _ _ _ ⟨GM_r h, rfl, rfl, by decide, by decide⟩ (by unfold FU; decide)
    rintro rec2 y m1 m2 m3 m5 ⟨gy, rfl, rfl, d0, d1⟩ hrec2
    have hp := GM_P gy
    refine T_le (fun _ => T_mono (m_hire147 gy b12 ⟨by decide, by decide⟩) (fun r hr => GM_I hr)) (fun cc => ?_)
    have e5 := inc1 (a := m5) (by omega) (by omega)
    have k5 : m5.toInt < 6 := by omega
    have go2 : ∀ (x : SS) (u : Int32), GM z x → T (rec2 x m1 m2 u (m5 + 1)) (fun r => INV r.2) := fun x u gx => hrec2 _ _ _ _ _ ⟨gx, rfl, rfl, by omega, by omega⟩ (by omega)
    exact T_i (fun _ => T_vp d0 k5 (T_nm (go2 _ _ (GM_82 gy)))) (fun _ => T_vp d0 k5 (T_i (fun _ => T_vp d0 k5 (T_nm (go2 _ _ (GM_82 gy)))) (fun _ => T_vp d0 k5 (T_vp d0 k5 (T_nm (go2 _ _ (GM_82 gy)))))))
  · have e5 := inc1 (a := l5) (by omega) (by omega)
    have k5 : l5.toInt < 12 := by omega
    have go : ∀ u v : Int32, T (rec z l1 l2 u v (l5 + 1)) (fun r => INV r.2) := fun u v => hrec _ _ _ _ _ _ ⟨rfl, rfl, rfl, by omega, by omega⟩ (by omega)
    exact T_vp c0 k5 (T_i (fun _ => T_vp c0 k5 (T_i (fun _ => go _ _) (fun _ => go _ _))) (fun _ => go _ _))
/-! ===== the model's drawn answers ===== -/
theorem jushr_nn {x y : Int32} {k : Nat} (hk : (y.toUInt32 &&& Int32.toUInt32 31).toNat % 32 = k + 1) : 0 ≤ (jushr x y).toInt := by
  have e : (jushr x y).toBitVec.toNat = x.toUInt32.toNat >>> (k + 1) := by
    show (x.toUInt32 >>> (y.toUInt32 &&& Int32.toUInt32 31)).toNat = _
    rw [UInt32.toNat_shiftRight, hk]
  rw [← Int32.toInt_toBitVec, BitVec.toInt_eq_toNat_cond, e, Nat.shiftRight_eq_div_pow]
  have h1 : x.toUInt32.toNat < 4294967296 := x.toUInt32.toNat_lt
  have h3 : 2 ≤ 2 ^ (k + 1) := by
    have := Nat.one_le_two_pow (n := k)
    rw [Nat.pow_succ]
    omega
  have h2 : x.toUInt32.toNat / 2 ^ (k + 1) ≤ x.toUInt32.toNat / 2 := Nat.div_le_div_left h3 (by decide)
  generalize x.toUInt32.toNat / 2 ^ (k + 1) = w at h2 ⊢
  rw [if_pos (by omega)]
  omega
theorem jremB {x y : Int32} (hx : 0 ≤ x.toInt) (hy : 0 < y.toInt) : 0 ≤ (jrem x y).toInt ∧ (jrem x y).toInt < y.toInt := by
  have e : (x / y).toInt = x.toInt / y.toInt := by
    rw [Int32.toInt_div_of_ne_right _ _ (by rintro rfl; exact absurd hy (by decide))]
    exact Int.tdiv_eq_ediv_of_nonneg hx
  have hb : x.toInt < 2147483648 := Int32.toInt_lt x
  have h1 : x.toInt / y.toInt * y.toInt ≤ x.toInt := Int.ediv_mul_le _ (by omega)
  have h0 : 0 ≤ x.toInt / y.toInt * y.toInt := Int.mul_nonneg (Int.ediv_nonneg hx (by omega)) (by omega)
  have e1 : (x / y * y).toInt = x.toInt / y.toInt * y.toInt := by rw [tmul (by rw [e]; omega) (by rw [e]; omega), e]
  have e2 : (jrem x y).toInt = x.toInt % y.toInt := by
    show (x - x / y * y).toInt = _
    rw [tsub (by rw [e1]; omega) (by rw [e1]; omega), e1]
    have := Int.emod_add_ediv_mul x.toInt y.toInt
    omega
  rw [e2]
  exact ⟨Int.emod_nonneg _ (by omega), Int.emod_lt_of_pos _ hy⟩
theorem m_realAt {z : SS} (h : RY z) {a : Int32} (a0 : 0 ≤ a.toInt) (ac : a.toInt < (cntN (fun t => decide (z.1 66 t = 0)) (z.1 60 6).toInt.toNat : Int)) : T (f_X12_realAt z a) (fun r => 0 ≤ r.toInt ∧ r.toInt < 12) := by
  have k0 := RY_k0 h
  have k12 := RY_k12 h
  unfold f_X12_realAt b_X12_realAt_4 b_X12_realAt_35
  refine T_fx3 (fun l1 l2 l3 => l1 = a ∧ ∃ i : Nat, l3 = Int32.ofNat i ∧ (i : Int) ≤ (z.1 60 6).toInt ∧ l2.toInt = (cntN (fun t => decide (z.1 66 t = 0)) i : Int) ∧ (cntN (fun t => decide (z.1 66 t = 0)) i : Int) ≤ a.toInt) (fun _ _ l3 => (12 - l3.toInt).toNat) ?_ _ _ _ _ ⟨rfl, 0, rfl, by omega, rfl, a0⟩ (by unfold FU; decide)
  rintro rec l1 l2 l3 ⟨rfl, i, rfl, hi, e2, hc⟩ hr
  have ei : (Int32.ofNat i).toInt = (i : Int) := onI (by omega)
  have ci : (Int32.ofNat i).toNatClampNeg = i := onC (by omega)
  refine T_le (fun g => ?_) (fun g => T_vp (by omega) (by show (Int32.ofNat i).toInt < 12; omega) ?_)
  · have : i = (z.1 60 6).toInt.toNat := by omega
    rw [this] at hc
    omega
  · have cl := cntN_le (fun t => decide (z.1 66 t = 0)) i
    have e3 : Int32.ofNat i + 1 = Int32.ofNat (i + 1) := by rw [Int32.ofNat_add]; rfl
    have e31 : (Int32.ofNat (i + 1)).toInt = ((i + 1 : Nat) : Int) := onI (by omega)
    have rf := RY_rforged h i (by omega)
    rw [ci, e3]
    have up : ∀ b : Bool, decide (z.1 66 i = 0) = b → cntN (fun t => decide (z.1 66 t = 0)) (i + 1) = cntN (fun t => decide (z.1 66 t = 0)) i + (if b then 1 else 0) := by
      intro b hb
      show cntN (fun t => decide (z.1 66 t = 0)) i + (if decide (z.1 66 i = 0) = true then 1 else 0) = _
      rw [hb]
    refine T_i (fun c1 => ?_) (fun c1 => T_eq (fun _ => T_some.mpr ⟨by omega, by omega⟩) (fun ne => ?_))
    · have u := up false (by rw [c1]; decide)
      exact hr _ _ _ ⟨rfl, i + 1, rfl, by omega, by rw [u]; exact e2, by rw [u]; exact hc⟩ (by omega)
    · have z0 : z.1 66 i = 0 := by
        rw [← Int32.toInt_inj] at c1 ⊢
        have l1' : (1 : Int32).toInt = 1 := rfl
        have l0' : (0 : Int32).toInt = 0 := rfl
        omega
      have u := up true (by rw [z0]; decide)
      have i2 := inc1 (a := l2) (by omega) (by omega)
      have u' : (cntN (fun t => decide (z.1 66 t = 0)) (i + 1) : Int) = cntN (fun t => decide (z.1 66 t = 0)) i + 1 := by rw [u]; rfl
      exact hr _ _ _ ⟨rfl, i + 1, rfl, by omega, by omega, by omega⟩ (by omega)
theorem mo_drawn {q : SS} (h : INV q) (a b c : Int32) : T (f_X12_drawn q a b c) (fun r => INV r.2) := by
  have l30 : (30 : Int32).toInt = 30 := rfl
  have l0 : (0 : Int32).toInt = 0 := rfl
  unfold f_X12_drawn
  refine T_i (fun _ => T_some.mpr h) (fun _ => T_rw (m_in q _ _ _) (T_bi (fun _ => T_some.mpr h) (fun hn => T_rw (m_in q _ _ _) (T_bi (fun _ => T_some.mpr h) (fun hm => T_rw (m_in q c _ _) (T_bi (fun _ => T_some.mpr h) (fun hc => ?_)))))))
  have n30 : (b / 100).toInt ≤ 30 := by have := hn.2; omega
  have m30 : (jrem b 100).toInt ≤ 30 := by have := hm.2; omega
  have fin : ∀ z : SS, INV z → ∀ u v w : Int32, T (b_X12_drawn_232 z u v w) (fun r => INV r.2) := fun z hz u v w => T_i (fun _ => T_some.mpr hz) (fun _ => T_some.mpr hz)
  unfold b_X12_drawn_58
  refine T_fx7 (fun z l2 _ _ _ _ l7 => INV z ∧ l2 = b ∧ 0 ≤ l7.toInt ∧ l7.toInt ≤ 30) (fun _ _ _ _ _ _ l7 => (30 - l7.toInt).toNat) ?_ _ _ _ _ _ _ _ _ ⟨h, rfl, by decide, by decide⟩ (by unfold FU; decide)
  rintro rec z l2 l3 l4 l5 l6 l7 ⟨hz, rfl, b0, b1⟩ hrec
  refine T_le (fun _ => fin z hz _ _ _) (fun g => T_le (fun _ => fin z hz _ _ _) (fun g2 => T_b (m_now (INV_RY hz)) (fun y hy => ?_)))
  have e7 := inc1 (a := l7) (by omega) (by omega)
  have gy := GM_now hz hy
  have go1 : ∀ (x : SS) (s t u v : Int32), GM z x → T (rec x l2 s t u v (l7 + 1)) (fun r => INV r.2) := fun x s t u v gx => hrec _ _ _ _ _ _ _ ⟨gx.1, rfl, by omega, by omega⟩ (by omega)
  have hP : 0 < (z.1 60 1).toInt := by
    have := RY_rholder (INV_RY hz) 0 (by show (0 : Int) < _; omega)
    omega
  unfold b_X12_drawn_81 b_X12_drawn_171 b_X12_drawn_226
  refine T_fx8 (fun x m2 _ _ _ _ m7 m8 => GM z x ∧ m2 = l2 ∧ m7 = l7 ∧ 0 ≤ m8.toInt ∧ m8.toInt ≤ 30) (fun _ _ _ _ _ _ _ m8 => (30 - m8.toInt).toNat) ?_ _ _ _ _ _ _ _ _ _ ⟨gy, rfl, rfl, by decide, by decide⟩ (by unfold FU; decide)
  rintro rec2 x m2 m3 m4 m5 m6 m7 m8 ⟨gx, rfl, rfl, c0, c1⟩ hrec2
  have hk := GM_K gx
  have hp := GM_P gx
  have hp1 : 0 < (x.1 60 1).toInt := by rw [gx.2.2.2.1]; exact hP
  have hk1 : 0 < (x.1 60 6).toInt := by rw [gx.2.2.2.2]; omega
  refine T_le (fun _ => T_nm ?_) (fun f => T_nm ?_)
  · generalize (m4 * 1103515245 + 12345 : Int32) = v6
    refine T_i (fun _ => go1 _ _ _ _ _ gx) (fun _ => T_rw (m_allReal hk.1 hk.2) ?_)
    have cl := cntN_le (fun t => decide (x.1 66 t = 0)) (x.1 60 6).toInt.toNat
    have ec : (Int32.ofNat (cntN (fun t => decide (x.1 66 t = 0)) (x.1 60 6).toInt.toNat)).toInt = (cntN (fun t => decide (x.1 66 t = 0)) (x.1 60 6).toInt.toNat : Int) := onI (by omega)
    have ea := m_allReal hk.1 hk.2 (z := x)
    have er := fun (v : Int32) => m_realAt (INV_RY gx.1) (a := v)
    generalize cntN (fun t => decide (x.1 66 t = 0)) (x.1 60 6).toInt.toNat = n at ec ea er ⊢
    generalize Int32.ofNat n = w at ec ea ⊢
    refine T_le (fun _ => go1 _ _ _ _ _ gx) (fun gr => T_rw ea (T_n ?_ ?_))
    · rintro rfl
      omega
    · have jb := jremB (x := jushr v6 8) (jushr_nn (k := 7) rfl) (y := w) (by omega)
      generalize jrem (jushr v6 8) w = v at jb ⊢
      exact T_b (er v jb.1 (by omega)) (fun r9 h9 => T_vp h9.1 h9.2 (T_i (fun _ => go1 _ _ _ _ _ gx) (fun _ => go1 _ _ _ _ _ gx)))
  · generalize (m4 * 1103515245 + 12345 : Int32) = v13
    refine T_n ?_ (T_nm (T_n ?_ (T_nm ?_)))
    · rintro e
      rw [e] at hk1
      omega
    · rintro e
      rw [e] at hp1
      omega
    have j6 := jremB (x := jushr v13 8) (jushr_nn (k := 7) rfl) hk1
    have j1 := jremB (x := jushr v13 12) (jushr_nn (k := 11) rfl) hp1
    generalize jrem (jushr v13 8) (x.1 60 6) = v14 at j6 ⊢
    generalize jrem (jushr v13 12) (x.1 60 1) = v15 at j1 ⊢
    have e8 := inc1 (a := m8) (by omega) (by omega)
    have go2 : ∀ (y : SS) (s t u v : Int32), GM z y → T (rec2 y m2 s t u v m7 (m8 + 1)) (fun r => INV r.2) := fun y s t u v gy => hrec2 _ _ _ _ _ _ _ _ ⟨gy, rfl, rfl, by omega, by omega⟩ (by omega)
    have r6 : 0 ≤ v14.toInt ∧ v14.toInt < 12 := ⟨j6.1, by omega⟩
    have r1 : 0 ≤ v15.toInt ∧ v15.toInt < 6 := ⟨j1.1, by omega⟩
    exact T_b (m_slipT x r6 r1) (fun r16 _ => T_i (fun _ => go2 _ _ _ _ _ gx) (fun _ => T_b (GM_odds gx r6 r1) (fun s hs => T_i (fun _ => T_vp r6.1 r6.2 (T_nm (go2 _ _ _ _ _ (GM_81 hs.1 ⟨r1.1, by omega⟩)))) (fun _ => go2 _ _ _ _ _ hs.1))))
/-! ===== the model's behind answers ===== -/
theorem nnN {a : Int32} (h : 0 ≤ a.toInt) : (a.toBitVec.toNat : Int) = a.toInt := by
  have e := BitVec.toInt_eq_toNat_cond a.toBitVec
  rw [Int32.toInt_toBitVec] at e
  have := a.toBitVec.isLt
  split at e <;> omega
theorem ofBN {a : Int32} (h : a.toBitVec.toNat < 2147483648) : a.toInt = (a.toBitVec.toNat : Int) := by
  rw [← Int32.toInt_toBitVec, BitVec.toInt_eq_toNat_cond, if_pos (by omega)]
theorem and_nn {a b : Int32} (hb : 0 ≤ b.toInt) : 0 ≤ (a &&& b).toInt ∧ (a &&& b).toInt ≤ b.toInt := by
  have e : (a &&& b).toBitVec.toNat = a.toBitVec.toNat &&& b.toBitVec.toNat := by
    rw [Int32.toBitVec_and, BitVec.toNat_and]
  have hl : a.toBitVec.toNat &&& b.toBitVec.toNat ≤ b.toBitVec.toNat := Nat.and_le_right
  have nb := nnN hb
  have hb2 : b.toInt < 2147483648 := Int32.toInt_lt b
  have := ofBN (a := a &&& b) (by rw [e]; omega)
  rw [e] at this
  omega
theorem or_12 {a b : Int32} (ha : 0 ≤ a.toInt ∧ a.toInt < 4096) (hb : 0 ≤ b.toInt ∧ b.toInt < 4096) : 0 ≤ (a ||| b).toInt ∧ (a ||| b).toInt < 4096 := by
  have e : (a ||| b).toBitVec.toNat = a.toBitVec.toNat ||| b.toBitVec.toNat := by
    rw [Int32.toBitVec_or, BitVec.toNat_or]
  have na := nnN ha.1
  have nb := nnN hb.1
  have hl : a.toBitVec.toNat ||| b.toBitVec.toNat < 2 ^ 12 := Nat.or_lt_two_pow (by omega) (by omega)
  have := ofBN (a := a ||| b) (by rw [e]; omega)
  rw [e] at this
  omega
theorem shl_12t : ∀ n, n < 12 → 0 ≤ (jshl 1 (Int32.ofNat n)).toInt ∧ (jshl 1 (Int32.ofNat n)).toInt < 4096 := by decide +kernel
theorem shl_12 {p : Int32} (h0 : 0 ≤ p.toInt) (h : p.toInt < 12) : 0 ≤ (jshl 1 p).toInt ∧ (jshl 1 p).toInt < 4096 := by
  obtain ⟨m, hm, rfl⟩ := ofN (n := 12) h0 (by omega)
  exact shl_12t m hm
theorem m_bitsT (q : SS) {a : Int32} (h : 0 ≤ a.toInt ∧ a.toInt < 4096) : T (f_X12_bitsOf q a) (fun _ => True) := by
  unfold f_X12_bitsOf b_X12_bitsOf_4
  refine T_fx2 (fun _ l2 => 0 ≤ l2.toInt ∧ l2.toInt < 4096) (fun _ l2 => l2.toInt.toNat) ?_ _ _ _ h (by unfold FU; omega)
  rintro rec l1 l2 ⟨h0, h1⟩ hr
  have l0 : (0 : Int32).toInt = 0 := rfl
  refine T_eq (fun _ => T_some.mpr trivial) (fun ne => T_nm ?_)
  have d := dec1 (a := l2) h0
  have n := and_nn (a := l2) (b := l2 - 1) (by omega)
  exact hr _ _ ⟨n.1, by omega⟩ (by omega)
def GB (q : SS) (a b s : Int32) (z : SS) : Prop := GM q z ∧ z.1 60 36 = a ∧ z.1 60 37 = b ∧ z.1 60 38 = s
theorem GB_79 {q z y : SS} {a b s : Int32} (g : GB q a b s z) (f : F79 z y) : GB q a b s y := by
  have e := f.2 60 (by decide) (by decide)
  exact ⟨GM_79 g.1 f, (congrFun e 36).trans g.2.1, (congrFun e 37).trans g.2.2.1, (congrFun e 38).trans g.2.2.2⟩
theorem GB_81 {q z : SS} {a b s : Int32} (g : GB q a b s z) {i : Nat} {x : Int32} (hi : 0 ≤ x.toInt ∧ x.toInt ≤ 5) : GB q a b s (sI z 81 i x) := ⟨GM_81 g.1 hi, g.2.1, g.2.2.1, g.2.2.2⟩
theorem GB_60 {q z : SS} {a b s : Int32} (g : GB q a b s z) {i : Nat} {x : Int32} (h1 : 39 ≤ i) (h2 : i ≤ 44) : GB q a b s (sI z 60 i x) := by
  refine ⟨GM_60 g.1 (by omega) h2, ?_, ?_, ?_⟩
  · rw [sI_rd, if_neg (fun y => by omega)]; exact g.2.1
  · rw [sI_rd, if_neg (fun y => by omega)]; exact g.2.2.1
  · rw [sI_rd, if_neg (fun y => by omega)]; exact g.2.2.2
theorem GB_L {q z : SS} {a b s : Int32} (g : GB q a b s z) {i : Nat} {x : Int64} : GB q a b s (sL z 60 i x) := by
  have h1 := INV_sLM (q := z) g.1.1 (k := 60) (i := i) (x := x) rfl
  have h2 := g.1.2
  exact ⟨⟨h1, h2⟩, g.2.1, g.2.2.1, g.2.2.2⟩
theorem m_asTold {q z : SS} {a b s : Int32} (g : GB q a b s z) (hb : 0 ≤ b.toInt ∧ b.toInt < 6) : T (f_X12_isAsTold z) (fun _ => True) := by
  have hk := GM_K g.1
  have e37 : z.1 60 37 = b := g.2.2.1
  unfold f_X12_isAsTold b_X12_isAsTold_2 b_X12_isAsTold_56
  rw [e37]
  refine T_fx1 (fun l1 => 0 ≤ l1.toInt ∧ l1.toInt ≤ 12) (fun l1 => (12 - l1.toInt).toNat) ?_ _ _ ⟨by decide, by decide⟩ (by unfold FU; decide)
  rintro rec l1 ⟨g0, g1⟩ hrec
  refine T_le (fun _ => T_some.mpr trivial) (fun c => T_vp hb.1 hb.2 (T_le (fun _ => T_some.mpr trivial) (fun _ => ?_)))
  have e1 := inc1 (a := l1) (by omega) (by omega)
  have go : T (rec (l1 + 1)) (fun _ => True) := hrec _ ⟨by omega, by omega⟩ (by omega)
  have ea := m_at (q := z) hb (b := l1) ⟨g0, by omega⟩
  exact T_rw ea (T_i (fun _ => go) (fun _ => T_rw ea (T_vp g0 (by show l1.toInt < 12; omega) (T_i (fun _ => go) (fun _ => T_some.mpr trivial)))))
theorem m_meet {q z : SS} {a b s : Int32} (g : GB q a b s z) {m : Int32} (w : Int64) (hm : 0 ≤ m.toInt ∧ m.toInt < 4096) : T (f_X12_meetWay z m w) (fun r => GB q a b s r) := by
  have t102 : ∀ y, GB q a b s y → T (b_X12_meetWay_102 y m w) (fun r => GB q a b s r) := fun y gy => T_nm (T_nm (T_some.mpr (GB_60 (GB_L gy) (by decide) (by decide))))
  have t70 : ∀ y, GB q a b s y → T (b_X12_meetWay_70 y m w) (fun r => GB q a b s r) := fun y gy => by
    unfold b_X12_meetWay_70
    exact T_i (fun _ => t102 y gy) (fun _ => T_i (fun _ => T_i (fun _ => T_some.mpr gy) (fun _ => T_i (fun _ => T_some.mpr gy) (fun _ => t102 y gy))) (fun _ => T_some.mpr gy))
  have t59 : ∀ y v, GB q a b s y → T (b_X12_meetWay_59 y m w v) (fun r => GB q a b s r) := fun y v gy => by
    unfold b_X12_meetWay_59
    exact T_nm (T_nm (t70 _ (GB_60 (GB_60 gy (by decide) (by decide)) (by decide) (by decide))))
  unfold f_X12_meetWay
  refine T_nm (T_nm ?_)
  have g2 := GB_60 (GB_60 g (i := 39) (x := z.1 60 39 + 1) (by decide) (by decide)) (i := 42) (x := (sI z 60 39 (z.1 60 39 + 1)).1 60 42 &&& m) (by decide) (by decide)
  generalize sI (sI z 60 39 (z.1 60 39 + 1)) 60 42 ((sI z 60 39 (z.1 60 39 + 1)).1 60 42 &&& m) = y at g2 ⊢
  exact T_b (m_bitsT y hm) (fun r3 _ => T_i (fun _ => t59 _ _ g2) (fun _ => T_i (fun _ => t59 _ _ g2) (fun _ => T_i (fun _ => T_i (fun _ => t70 _ g2) (fun _ => t59 _ _ g2)) (fun _ => t70 _ g2))))
theorem m_goBehind {q : SS} {a b s : Int32} (ha : 0 ≤ a.toInt ∧ a.toInt < 6) (hb : 0 ≤ b.toInt ∧ b.toInt < 6) (hs : s.toInt ≤ 12) (hi : ∀ k : Nat, (k : Int) < s.toInt → ISl q a k) : ∀ (n : Nat) (z : SS) (l m : Int32) (w : Int64), GB q a b s z → 0 ≤ l.toInt → l.toInt ≤ s.toInt → s.toInt - l.toInt + 1 ≤ (n : Int) → (0 ≤ m.toInt ∧ m.toInt < 4096) → T (g_X12_goBehind n z l m w) (fun r => GB q a b s r)
  | 0, _, _, _, _, _, _, _, h, _ => absurd h (by omega)
  | n + 1, z, l, m, w, g, l0, ls, hn, hm => by
    show T (fb_X12_goBehind (g_X12_goBehind n) z l m w) _
    have ih := m_goBehind ha hb hs hi n
    have e36 : z.1 60 36 = a := g.2.1
    have e38 : z.1 60 38 = s := g.2.2.2
    unfold fb_X12_goBehind
    rw [e36, e38]
    refine T_eq (fun _ => T_b (m_asTold g hb) (fun r1 _ => T_i (fun _ => T_some.mpr g) (fun _ => T_b (m_meet g w hm) (fun r2 h2 => T_some.mpr h2)))) (fun ne => ?_)
    have e1 := inc1 (a := l) (by omega) (by omega)
    refine T_el g.1 ha ⟨l0, by omega⟩ (hi _ (by omega)) (fun v v8 vr _ ev => T_nm (T_rw ev (T_nm (T_b (m_slipT z v8 vr) (fun r8 _ => ?_)))))
    refine T_i (fun _ => T_b (ih z (l + 1) m _ g (by omega) (by omega) (by omega) hm) (fun r9 h9 => T_some.mpr h9)) (fun _ => T_b (m_oddsOf g.1.1 v8 vr) (fun r10 h10 => T_vp v8.1 v8.2 (T_nm ?_)))
    have g10 := GB_79 g h10.1
    have hj := RJ_h1 (INV_RJ g10.1.1) (v / 8).toNatClampNeg (by have := v8.2; show (v / 8).toInt.toNat < 12; omega)
    have hm2 := or_12 hm (shl_12 l0 (by omega))
    exact T_b (ih _ (l + 1) m _ g10 (by omega) (by omega) (by omega) hm) (fun r12 h12 => T_vp v8.1 v8.2 (T_nm (T_b (ih _ (l + 1) _ _ (GB_81 h12 ⟨vr.1, by have := vr.2; omega⟩) (by omega) (by omega) (by omega) hm2) (fun r14 h14 => T_vp v8.1 v8.2 (T_nm (T_some.mpr (GB_81 h14 hj)))))))
theorem mo_behind {q : SS} (h : INV q) (a b c : Int32) : T (f_X12_behind q a b c) (fun r => INV r.2) := by
  have hY := INV_RY h
  unfold f_X12_behind
  refine T_rw (m_isShelf q a) (T_bi (fun _ => T_some.mpr h) (fun ha => T_rw (m_isShelf q b) (T_bi (fun _ => T_some.mpr h) (fun hb => T_rw (m_in q c _ _) (T_bi (fun _ => T_some.mpr h) (fun _ => T_rw (m_rowFault ha) (T_i (fun _ => T_rw (m_rowFault hb) (T_i (fun _ => ?_) (fun _ => T_rw (m_rowFault hb) (T_some.mpr h)))) (fun _ => T_rw (m_rowFault ha) (T_some.mpr h)))))))))
  refine T_nm (T_nm ?_)
  have g7 := GM_60 (GM_60 (GM_r h) (i := 36) (x := a) (by decide) (by decide)) (i := 37) (x := b) (by decide) (by decide)
  have a7 : (sI (sI q 60 36 a) 60 37 b).1 60 36 = a := by simp [sI_rd]
  have b7 : (sI (sI q 60 36 a) 60 37 b).1 60 37 = b := by simp [sI_rd]
  generalize sI (sI q 60 36 a) 60 37 b = y at g7 a7 b7 ⊢
  refine T_b (m_longOf (GM_r g7.1) ha (m := 12) z1212) (fun s hs => ?_)
  have s12 : s.toInt ≤ 12 := hs.1.2
  have g8 : GB y a b s (sI y 60 38 s) := ⟨GM_60 (GM_r g7.1) (by decide) (by decide), by rw [rdn rfl]; exact a7, by rw [rdn rfl]; exact b7, by simp [sI_rd]⟩
  refine T_nm ?_
  generalize sI y 60 38 s = x at g8 ⊢
  refine T_nm (T_nm (T_nm (T_nm (T_nm (T_nm ?_)))))
  have g14 := GB_60 (GB_L (GB_60 (GB_60 (GB_60 (GB_60 g8 (i := 39) (x := 0) (by decide) (by decide)) (i := 40) (x := -2) (by decide) (by decide)) (i := 41) (x := -2) (by decide) (by decide)) (i := 42) (x := -1) (by decide) (by decide)) (i := 43) (x := 0)) (i := 44) (x := -2) (by decide) (by decide)
  generalize sI (sL (sI (sI (sI (sI x 60 39 0) 60 40 (-2)) 60 41 (-2)) 60 42 (-1)) 60 43 0) 60 44 (-2) = u at g14 ⊢
  refine T_b (m_now (INV_RY g14.1.1)) (fun v hv => ?_)
  have gv := GM_now g14.1.1 hv
  have gb : GB y a b s v := ⟨⟨gv.1, gv.2.1.trans g14.1.2.1, gv.2.2.1.trans g14.1.2.2.1, gv.2.2.2.1.trans g14.1.2.2.2.1, gv.2.2.2.2.trans g14.1.2.2.2.2⟩, (hv.2.2.1 36 (by decide)).trans g14.2.1, (hv.2.2.1 37 (by decide)).trans g14.2.2.1, (hv.2.2.1 38 (by decide)).trans g14.2.2.2⟩
  refine T_b (m_goBehind ha hb s12 hs.2 60 v 0 0 1 gb (by decide) (by have := hs.1.1; exact this) (by have l0 : (0 : Int32).toInt = 0 := rfl; rw [l0]; omega) ⟨by decide, by decide⟩) (fun t ht => ?_)
  have hI := ht.1.1
  exact T_sw (fun _ => T_some.mpr hI) (fun _ => T_sw (fun _ => T_some.mpr hI) (fun _ => T_sw (fun _ => T_some.mpr hI) (fun _ => T_sw (fun _ => T_i (fun _ => T_some.mpr hI) (fun _ => T_some.mpr hI)) (fun _ => T_sw0 (T_some.mpr hI)))))
/-! ===== rows read zero behind their length, in every state that a run reaches ===== -/
def ZL (σ : PSt) : Prop := ∀ k, k < pnc σ → 1 ≤ (ply σ k).1 → ∀ i, (ply σ k).2 ≤ i → piv σ k i = 0
theorem ZL_mkc {σ : PSt} (h : ZL σ) (t a n : Nat) : ZL (mkc σ t a n) := by
  intro k hk ht i hi
  by_cases e : k = σ.1
  · show up1 (piv σ) σ.1 (fun _ => 0) k i = 0
    unfold up1
    rw [if_pos e]
  · have hk' : k < σ.1 := by
      have : k < σ.1 + 1 := hk
      omega
    have e2 : ply (mkc σ t a n) k = ply σ k := if_neg e
    rw [e2] at ht hi
    show up1 (piv σ) σ.1 (fun _ => 0) k i = 0
    unfold up1
    rw [if_neg e]
    exact h k hk' ht i hi
theorem ZL_rows {t n : Nat} : ∀ (j : Nat) {σ : PSt}, ZL σ → ZL (mkrows t n j σ)
  | 0, _, h => h
  | j + 1, _, h => ZL_rows j (ZL_mkc h t n n)
theorem ZL_wiv0 {σ : PSt} (h : ZL σ) {o f : Nat} {x : Int32} (ho : (ply σ o).1 = 0) : ZL (wiv σ o f x) := by
  intro k hk ht i hi
  have ht' : 1 ≤ (ply σ k).1 := ht
  show up2 (piv σ) o f x k i = 0
  unfold up2
  rw [if_neg (fun y => by rw [y.1, ho] at ht'; omega)]
  exact h k hk ht i hi
theorem ZL_wivA {σ : PSt} (h : ZL σ) {o f : Nat} {x : Int32} (hf : f < (ply σ o).2) : ZL (wiv σ o f x) := by
  intro k hk ht i hi
  have hi' : (ply σ k).2 ≤ i := hi
  show up2 (piv σ) o f x k i = 0
  unfold up2
  rw [if_neg (fun y => by rw [y.1, y.2] at hi'; omega)]
  exact h k hk ht i hi
def KS (σ : PSt) (o : PO) : Prop := ∀ r, o = some r → ZL r.2.2
theorem KS_n {σ : PSt} : KS σ none := fun _ h => by cases h
theorem KS_s {σ : PSt} (h : ZL σ) (p : Nat) (st : List Value) : KS σ (some (p, st, σ)) := fun _ e => by cases e; exact h
theorem KS_m {σ : PSt} {α : Type} (h : ZL σ) (o : Option α) (p : α → Nat) (g : α → List Value) : KS σ (o.map fun x => (p x, g x, σ)) := fun _ e => by
  cases o with
  | none => cases e
  | some a => cases e; exact h
theorem KS_I1 {σ : PSt} (h : ZL σ) (st f p) : KS σ (oI1 st f p σ) := fun r e => by unfold oI1 at e; split at e <;> cases e; exact h
theorem KS_I2 {σ : PSt} (h : ZL σ) (st f p) : KS σ (oI2 st f p σ) := fun r e => by unfold oI2 at e; split at e <;> cases e; exact h
theorem KS_D2 {σ : PSt} (h : ZL σ) (st f p) : KS σ (oD2 st f p σ) := fun r e => by
  unfold oD2 at e
  split at e
  · split at e <;> cases e
    exact h
  · cases e
theorem KS_L2 {σ : PSt} (h : ZL σ) (st f p) : KS σ (oL2 st f p σ) := fun r e => by unfold oL2 at e; split at e <;> cases e; exact h
theorem KS_E2 {σ : PSt} (h : ZL σ) (st f p) : KS σ (oE2 st f p σ) := fun r e => by
  unfold oE2 at e
  split at e
  · split at e <;> cases e
    exact h
  · cases e
theorem KS_get {σ : PSt} (h : ZL σ) (c k st p) : KS σ (oGet c k st p σ) := fun r e => by
  unfold oGet at e
  split at e
  · split at e
    · split at e <;> cases e
      exact h
    · cases e
  · cases e
theorem KS_put {σ : PSt} (h : ZL σ) (b c k st p) : KS σ (oPut b c k st p σ) := fun r e => by
  unfold oPut at e
  split at e
  · split at e
    · split at e
      next hc =>
        unfold pval at e
        split at e
        · split at e <;> cases e
          exact ZL_wiv0 h (by rw [hc.2.1])
        · split at e <;> cases e
          exact h
        · split at e <;> cases e
          exact h
        · cases e
      next => cases e
    · cases e
  · cases e
theorem KS_ldI {σ : PSt} (h : ZL σ) (Λ t st p) : KS σ (oLdI Λ t st p σ) := fun r e => by
  unfold oLdI at e
  split at e
  · split at e <;> cases e
    exact h
  · split at e <;> cases e
    exact h
  · cases e
theorem KS_ldL {σ : PSt} (h : ZL σ) (st p) : KS σ (oLdL st p σ) := fun r e => by
  unfold oLdL at e
  split at e
  · split at e <;> cases e
    exact h
  · cases e
theorem KS_ldA {σ : PSt} (h : ZL σ) (st p) : KS σ (oLdA st p σ) := fun r e => by
  unfold oLdA at e
  split at e
  · split at e
    · exact KS_m h _ (fun _ => p) _ r e
    · cases e
  · cases e
theorem KS_stI {σ : PSt} (h : ZL σ) (t g st p) : KS σ (oStI t g st p σ) := fun r e => by
  unfold oStI at e
  split at e
  · split at e
    next hc =>
      cases e
      have v := hc.2.2
      exact ZL_wivA h (by have a := v.1; have b := v.2; show Int.toNat _ < _; omega)
    next => cases e
  · cases e
theorem KS_stL {σ : PSt} (h : ZL σ) (st p) : KS σ (oStL st p σ) := fun r e => by
  unfold oStL at e
  split at e
  · split at e <;> cases e
    exact h
  · cases e
theorem KS_len {σ : PSt} (h : ZL σ) (Λ st p) : KS σ (oLen Λ st p σ) := fun r e => by
  unfold oLen at e
  split at e
  · split at e <;> cases e
    exact h
  · split at e <;> cases e
    exact h
  · cases e
theorem KS_new {σ : PSt} (h : ZL σ) (t st p) : KS σ (oNewA t st p σ) := fun r e => by
  unfold oNewA at e
  split at e
  · split at e <;> cases e
    exact ZL_mkc h _ _ _
  · cases e
theorem KS_mna {σ : PSt} (h : ZL σ) (t st p) : KS σ (oMna t st p σ) := fun r e => by
  unfold oMna at e
  split at e
  next k n rest =>
    split at e
    next hc =>
      cases e
      refine ZL_rows _ ?_
      have a := ZL_mkc h t n.toNatClampNeg n.toNatClampNeg
      exact a
    next => cases e
  next => cases e
theorem KS_b {σ : PSt} {α : Type} {o : Option α} {f : α → PO} (h : ∀ a, KS σ (f a)) : KS σ (o.bind f) := by
  cases o with
  | none => exact KS_n
  | some a => exact h a
theorem KS_if {σ : PSt} {c : Prop} [Decidable c] {a b : PO} (h1 : KS σ a) (h2 : KS σ b) : KS σ (if c then a else b) := by
  split
  · exact h1
  · exact h2
theorem KS_nw {σ : PSt} (h : ZL σ) (o : Option Nat) (p : Nat) (st : List Value) (f : Nat → Nat) : KS σ (o.map fun ci => (p, .ref (pnc σ) :: st, mkc σ 0 ci (f ci))) := fun _ e => by
  cases o with
  | none => cases e
  | some a => cases e; exact ZL_mkc h _ _ _
theorem KS_S {σ : PSt} (h : ZL σ) (Λ : PRo) (b : Bool) (c p p2 : Nat) (i : Instr) (st : List Value) : KS σ (pS Λ b c p p2 σ i st) := by
  unfold pS
  split
  all_goals first
    | exact KS_n
    | exact KS_s h _ _
    | exact KS_I1 h _ _ _
    | exact KS_I2 h _ _ _
    | exact KS_D2 h _ _ _
    | exact KS_L2 h _ _ _
    | exact KS_E2 h _ _ _
    | exact KS_get h _ _ _ _
    | exact KS_put h _ _ _ _ _
    | exact KS_ldI h _ _ _ _
    | exact KS_ldL h _ _
    | exact KS_ldA h _ _
    | exact KS_stI h _ _ _ _
    | exact KS_stL h _ _
    | exact KS_len h _ _ _
    | exact KS_new h _ _ _
    | exact KS_nw h _ _ _ _
    | exact KS_m h _ _ _
    | exact KS_if (KS_b fun _ => KS_mna h _ _ _) KS_n
    | (split <;> first
        | exact KS_n
        | exact KS_s h _ _
        | exact KS_m h _ _ _
        | exact KS_if (KS_s h _ _) KS_n
        | exact KS_if (KS_m h _ _ _) KS_n
        | exact KS_if (KS_m h _ _ _) (KS_b fun _ => KS_m h _ _ _))
theorem ZL_cpy {σ : PSt} (h : ZL σ) {st : List Value} {r : List Value × PSt} (e : oCpy st σ = some r) : ZL r.2 := by
  unfold oCpy at e
  split at e
  next n dp b sp a rest =>
    split at e
    next hc =>
      split at e
      · cases e
        intro k hk ht i hi
        show up1 (piv σ) b _ k i = 0
        unfold up1
        by_cases c : k = b
        · subst c
          rw [if_pos rfl]
          have hi' : (ply σ k).2 ≤ i := hi
          have hcc := hc.2.2.2.2.2.2.2.1
          unfold va_cpy
          rw [if_neg (fun y => by omega)]
          exact h k hk ht i hi
        · rw [if_neg c]
          exact h k hk ht i hi
      · split at e
        · cases e
          exact h
        · cases e
    next => cases e
  next => cases e
/-! ===== the same along a run ===== -/
theorem prun_ZL (Λ : PRo) : ∀ (n d m pc : Nat) (L : PL) (st : List Value) (σ : PSt) (r : Option Value × PSt), prun Λ n d m pc L st σ = some r → ZL σ → ZL r.2 := by
  intro n
  induction n with
  | zero => intro d m pc L st σ r h; cases h
  | succ n ih =>
    intro d m pc L st σ r h hz
    unfold prun at h
    split at h
    next => cases h
    next i len hd =>
    split at h
    next hlen =>
      split at h
      next v' hret =>
        split at h
        next hok =>
          cases h
          exact hz
        next => cases h
      next hret =>
        split at h
        next k idx hcall =>
          split at h
          next => cases h
          next d1 =>
          split at h
          next y hca =>
            split at h
            next hkd =>
              split at h
              next as rest hpop =>
                split at h
                next hc =>
                  split at h
                  next v2 σ2 hcal => exact ih _ _ _ _ _ _ _ h (ih _ _ _ _ _ _ _ hcal hz)
                  next => cases h
                next => cases h
              next => cases h
            next => cases h
          next hca =>
            split at h
            next hoi =>
              split at h
              next o rest =>
                split at h
                next hcr => exact ih _ _ _ _ _ _ _ h hz
                next => cases h
              next => cases h
            next hoi =>
              split at h
              next hac =>
                split at h
                next rest τ hcp => exact ih _ _ _ _ _ _ _ h (ZL_cpy hz hcp)
                next => cases h
              next hac =>
                split at h
                next hk2 =>
                  split at h
                  next j hmm =>
                    split at h
                    next st1 hst => exact ih _ _ _ _ _ _ _ h hz
                    next => cases h
                  next => cases h
                next => cases h
        next hcall =>
          split at h
          next pc2 st2 σ2 hps => exact ih _ _ _ _ _ _ _ h (KS_S hz _ _ _ _ _ _ _ _ hps)
          next =>
            split at h
            next L2 st2 hpl => exact ih _ _ _ _ _ _ _ h hz
            next => cases h
    next => cases h
/-! ===== what holds of the first state ===== -/
theorem ZL_0 : ZL σ00 := fun k hk => absurd hk (by show ¬ k < 0; omega)
theorem ZL_rX {σ' : PSt} (h : prun LAM0 1500 12 138 0 [(0, .ref 0)] [] (mkc σ00 0 11 11) = some (none, σ')) : ZL σ' := prun_ZL _ _ _ _ _ _ _ _ _ h (ZL_mkc ZL_0 0 11 11)
theorem ZL_rM {τ σ' : PSt} (hz : ZL τ) (h : prun LAM0 1500 12 188 0 [(0, .ref (pnc τ))] [] (mkc τ 0 12 60) = some (none, σ')) : ZL σ' := prun_ZL _ _ _ _ _ _ _ _ _ h (ZL_mkc hz 0 12 60)
theorem ZL_X : ZL σX := ZL_rX runX_ok
theorem ZL_M : ZL σM := ZL_rM ZL_X runM_ok
theorem eqE {τ : PSt} (z : ZL τ) {a b : Nat} (h : ckE τ a b = true) : piv τ a = piv τ b := by
  unfold ckE at h
  simp only [Bool.and_eq_true, decide_eq_true_eq] at h
  obtain ⟨h1, h2, h3, h4, h5⟩ := h
  funext i
  by_cases c : i < (ply τ a).2 + (ply τ b).2
  · have := allB_i h5 i c
    exact of_decide_eq_true this
  · rw [z a h1 h2 i (by omega), z b h3 h4 i (by omega)]
theorem eqZ {τ : PSt} (z : ZL τ) {a : Nat} (h : ckZ τ a = true) (i : Nat) : piv τ a i = 0 := by
  unfold ckZ at h
  simp only [Bool.and_eq_true, decide_eq_true_eq] at h
  obtain ⟨h1, h2, h5⟩ := h
  by_cases c : i < (ply τ a).2
  · exact of_decide_eq_true (allB_i h5 i c)
  · exact z a h1 h2 i (by omega)
def CKM (τ : PSt) : Prop := ckMb τ = true
theorem ckM : CKM σM := ck_M
theorem lst {α : Type} {f : α → Bool} {l : List α} (h : l.all f = true) {a : α} (ha : a ∈ l) : f a = true := List.all_eq_true.mp h a ha
theorem INV_of {τ : PSt} (z : ZL τ) (h : CKM τ) : INV (qof τ) := by
  unfold CKM ckMb at h
  simp only [Bool.and_eq_true] at h
  obtain ⟨hE, hZ, h0, h5, h27, h89, h90⟩ := h
  have E : ∀ a b, (a, b) ∈ rowsE → (qof τ).1 a = (qof τ).1 b := fun a b m => eqE z (lst hE m)
  have Z : ∀ a, a ∈ rows0 → ∀ i, (qof τ).1 a i = 0 := fun a m => eqZ z (lst hZ m)
  have C : ∀ a i, (a, i) ∈ cells0 → (qof τ).1 a i = 0 := fun a i m => of_decide_eq_true (lst h0 m)
  have p5 : ∀ i, i < 6 → (qof τ).1 5 i = 10 := fun i hi => of_decide_eq_true (allB_i h5 i hi)
  have p27 : ∀ i, i < 6 → (qof τ).1 27 i = -2 := fun i hi => of_decide_eq_true (allB_i h27 i hi)
  have p89 : ∀ i, i < 6 → (qof τ).1 89 i = -1 := fun i hi => of_decide_eq_true (allB_i h89 i hi)
  have p90 : ∀ i, i < 6 → (qof τ).1 90 i = 0 := fun i hi => of_decide_eq_true (allB_i h90 i hi)
  generalize qof τ = q at *
  have c0 : ∀ a i, (a, i) ∈ cells0 → (q.1 a i).toInt = 0 := fun a i m => by rw [C a i m]; rfl
  have P := c0 60 1 (by decide)
  have K := c0 60 6 (by decide)
  have no : ∀ i : Nat, ¬ ((i : Int) < 0) := fun i => by omega
  refine ⟨?_, ?_, ?_, ?_, ?_, ?_, ?_, ?_⟩
  · refine ⟨by omega, by omega, by omega, by omega, (C 1 1 (by decide)).trans (C 60 1 (by decide)).symm, (C 1 2 (by decide)).trans (C 60 6 (by decide)).symm, E 3 61 (by decide), E 4 62 (by decide), E 6 64 (by decide), E 7 65 (by decide), E 8 66 (by decide), E 9 67 (by decide), (C 10 0 (by decide)).trans (C 68 0 (by decide)).symm, (C 11 0 (by decide)).trans (C 68 1 (by decide)).symm, fun i hi => absurd hi (by rw [P]; exact no i), fun i _ hi => p5 i hi, fun i _ => Z 62 (by decide) i, fun i _ => Z 64 (by decide) i, fun i hi => absurd hi (by rw [P]; exact no i), fun i hi => absurd hi (by rw [P]; exact no i), fun i hi => absurd hi (by rw [P]; exact no i), fun i hi => absurd hi (by rw [P]; exact no i), fun i hi => absurd hi (by rw [K]; exact no i), fun i hi => absurd hi (by rw [K]; exact no i), fun i hi => absurd hi (by rw [K]; exact no i), ?_, ?_, ?_, ?_⟩
    · rw [c0 68 0 (by decide)]; omega
    · rw [c0 68 0 (by decide)]; omega
    · rw [c0 68 1 (by decide)]; omega
    · rw [c0 68 1 (by decide)]; omega
  · have d := c0 60 11 (by decide)
    have u := c0 60 12 (by decide)
    exact ⟨(C 52 5 (by decide)).trans (C 60 11 (by decide)).symm, (C 52 6 (by decide)).trans (C 60 12 (by decide)).symm, by omega, by omega, by omega, E 53 69 (by decide), E 54 70 (by decide), E 55 71 (by decide), E 56 72 (by decide), fun j hj => absurd hj (by rw [d, u]; exact no j)⟩
  · have a := c0 60 47 (by decide)
    have b := c0 60 48 (by decide)
    exact ⟨E 48 83 (by decide), E 49 86 (by decide), E 50 84 (by decide), E 51 85 (by decide), (C 47 5 (by decide)).trans (C 60 47 (by decide)).symm, (C 47 6 (by decide)).trans (C 60 48 (by decide)).symm, (C 47 7 (by decide)).trans (C 60 46 (by decide)).symm, Or.inl (C 60 46 (by decide)), by omega, by omega, by omega, by omega, fun t ht => absurd ht (by rw [a]; exact no t), fun t ht => absurd ht (by rw [a]; exact no t)⟩
  · have a := c0 60 18 (by decide)
    exact ⟨(C 17 2 (by decide)).trans (C 60 18 (by decide)).symm, by omega, by omega, fun i hi => absurd hi (by rw [a]; exact no i), fun i hi => absurd hi (by rw [a]; exact no i)⟩
  · have a := c0 60 52 (by decide)
    have b := c0 60 54 (by decide)
    exact ⟨(C 57 2 (by decide)).trans (C 60 52 (by decide)).symm, by omega, by omega, E 58 87 (by decide), fun i hi => absurd hi (by rw [a]; exact no i), (C 57 3 (by decide)).trans (C 60 54 (by decide)).symm, by omega, E 59 88 (by decide)⟩
  · refine ⟨E 28 90 (by decide), fun s hs => by rw [p90 s hs]; decide, fun s hs => Or.inl ⟨p27 s hs, p89 s hs⟩, fun s hs h0 => ?_⟩
    rw [p27 s hs] at h0
    exact absurd h0 (by decide)
  · have a := C 60 30 (by decide)
    exact ⟨Or.inl a, fun h => absurd (a.symm.trans h) (by decide), fun h => absurd (a.symm.trans h) (by decide)⟩
  · have a := c0 37 3 (by decide)
    exact ⟨by omega, by omega, fun t _ => by rw [Z 81 (by decide) t]; decide⟩
theorem INV_M : INV (qof σM) := INV_of ZL_M ckM

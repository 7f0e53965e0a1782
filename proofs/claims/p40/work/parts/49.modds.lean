/-! ===== the model's odds: it answers, and writes no more than its own ===== -/
theorem m_twoOf (q : SS) (a b c : Int32) : T (f_X12_twoOf q a b c) (fun _ => True) := by
  unfold f_X12_twoOf b_X12_twoOf_226 b_X12_twoOf_163
  by_cases z : c = 0
  · simp only [if_pos z]
    repeat (refine T_sw (fun _ => by repeat' (first | exact T_some.mpr trivial | refine T_i (fun _ => ?_) (fun _ => ?_))) (fun _ => ?_))
    refine T_sw0 ?_
    repeat' (first | exact T_some.mpr trivial | refine T_i (fun _ => ?_) (fun _ => ?_))
  · simp only [if_neg z]
    repeat (refine T_sw (fun _ => by repeat' (first | exact T_some.mpr trivial | refine T_i (fun _ => ?_) (fun _ => ?_))) (fun _ => ?_))
    refine T_sw0 ?_
    repeat' (first | exact T_some.mpr trivial | refine T_i (fun _ => ?_) (fun _ => ?_))
theorem stepd_1 (w : Int32) (d : Nat) : stepd 1 w d = some (d + 1) := rfl
theorem stepd_2 {w : Int32} {d e : Nat} (h : stepd 2 w d = some e) : (0 ≤ w.toInt ∧ w.toInt < 6) ∧ e = d + 1 := by
  have h' : (if 0 ≤ w.toInt ∧ w.toInt < 6 then some (d + 1) else none) = some e := h
  by_cases c : 0 ≤ w.toInt ∧ w.toInt < 6
  · rw [if_pos c] at h'
    exact ⟨c, (Option.some.inj h').symm⟩
  · rw [if_neg c] at h'
    cases h'
theorem stepd_34 {a w : Int32} {d e : Nat} (ha : a = 3 ∨ a = 4) (h : stepd a w d = some e) : 1 ≤ d ∧ e = d := by
  have h' : (if 1 ≤ d then some d else none) = some e := by
    rcases ha with rfl | rfl
    · exact h
    · exact h
  by_cases c : 1 ≤ d
  · rw [if_pos c] at h'
    exact ⟨c, (Option.some.inj h').symm⟩
  · rw [if_neg c] at h'
    cases h'
theorem stepd_5 {a w : Int32} {d e : Nat} (h1 : a ≠ 1) (h2 : a ≠ 2) (h3 : a ≠ 3) (h4 : a ≠ 4) (h : stepd a w d = some e) : 2 ≤ d ∧ e = d - 1 := by
  unfold stepd at h
  rw [if_neg h1, if_neg h2, if_neg (fun x => x.elim h3 h4)] at h
  by_cases c : 2 ≤ d
  · rw [if_pos c] at h
    exact ⟨c, (Option.some.inj h).symm⟩
  · rw [if_neg c] at h
    cases h
def F80 (q z : SS) : Prop := z.2 = q.2 ∧ ∀ k, k ≠ 80 → z.1 k = q.1 k
theorem F80_s {q z : SS} (h : F80 q z) (i : Nat) (x : Int32) : F80 q (sI z 80 i x) := ⟨h.1, fun k hk => (sI_ro hk).trans (h.2 k hk)⟩
theorem dp_step {A W : Nat → Int32} {n i d : Nat} (h : dp A W (n + 1) i d = some 1) : ∃ e, stepd (A i) (W i) d = some e ∧ dp A W n (i + 1) e = some 1 := by
  have h' : (stepd (A i) (W i) d).bind (fun d' => dp A W n (i + 1) d') = some 1 := h
  cases g : stepd (A i) (W i) d with
  | none => rw [g] at h'; cases h'
  | some e => rw [g] at h'; exact ⟨e, rfl, h'⟩
theorem m_worked {q : SS} {s e : Int32} (hs : 0 ≤ s.toInt) (he : e.toInt ≤ 130) (ok : okSeg (q.1 74) (q.1 75) s.toInt e.toInt) : T (f_X12_worked q 0 s e) (fun r => F80 q r.2) := by
  have o130 : (130 : Int32) * 0 = 0 := by decide
  have z0 : ∀ x : Int32, (0 : Int32) + x = x := fun x => Int32.zero_add x
  unfold f_X12_worked
  rw [o130, z0]
  refine T_nm ?_
  unfold b_X12_worked_12
  refine T_fx5 (fun z l1 l3 l4 l5 => F80 q z ∧ l1 = 0 ∧ l3 = e ∧ (s.toInt ≤ l5.toInt ∧ (l5.toInt ≤ e.toInt ∨ s = l5)) ∧ ∃ n : Nat, (l4.toInt = (n : Int) ∧ (n : Int) ≤ l5.toInt - s.toInt) ∧ dp (q.1 74) (q.1 75) (e.toInt - l5.toInt).toNat l5.toInt.toNat n = some 1) (fun _ _ _ _ l5 => (e.toInt - l5.toInt).toNat) ?_ _ _ _ _ _ _ ⟨⟨rfl, fun _ _ => rfl⟩, rfl, rfl, ⟨by omega, Or.inr rfl⟩, 0, ⟨rfl, by omega⟩, ok⟩ (by unfold FU; omega)
  rintro rec z l1 l3 l4 l5 ⟨hf, rfl, rfl, ⟨b1, _⟩, n, ⟨n4, nb⟩, hd⟩ hr
  rw [o130, z0]
  refine T_le (fun _ => T_vp (by decide) (by decide) (T_some.mpr hf)) (fun g => T_vp (by omega) (by show l5.toInt < 260; omega) (T_nm ?_))
  have e5 := inc1 (a := l5) (by omega) (by omega)
  obtain ⟨m, hm⟩ : ∃ m : Nat, (l3.toInt - l5.toInt).toNat = m + 1 := ⟨(l3.toInt - l5.toInt).toNat - 1, by omega⟩
  rw [hm] at hd
  obtain ⟨d, sd, hd2⟩ := dp_step hd
  have i5 : (l5 + 1).toInt.toNat = l5.toInt.toNat + 1 := by omega
  have m5 : (l3.toInt - (l5 + 1).toInt).toNat = m := by omega
  have go : ∀ (y : SS) (v : Int32), F80 q y → v.toInt = (d : Int) → (d : Int) ≤ n + 1 → T (rec y 0 l3 v (l5 + 1)) (fun r => F80 q r.2) := by
    intro y v hy hv hdn
    refine hr _ _ _ _ _ ⟨hy, rfl, rfl, ⟨by omega, Or.inl (by omega)⟩, d, ⟨hv, by omega⟩, ?_⟩ (by omega)
    rw [m5, i5]
    exact hd2
  have e4 := inc1 (a := l4) (by omega) (by omega)
  have d4 : 1 ≤ n → (l4 - 1).toInt = l4.toInt - 1 := fun _ => dec1 (by omega)
  have a74 : z.1 74 l5.toNatClampNeg = q.1 74 l5.toInt.toNat := by rw [hf.2 74 (by decide)]; rfl
  have a75 : z.1 75 l5.toNatClampNeg = q.1 75 l5.toInt.toNat := by rw [hf.2 75 (by decide)]; rfl
  rw [a74]
  generalize ga : q.1 74 l5.toInt.toNat = A at sd ⊢
  generalize gw : q.1 75 l5.toInt.toNat = W at sd a75
  unfold b_X12_worked_45 b_X12_worked_79 b_X12_worked_117 b_X12_worked_182
  have v130 : ((130 : Nat) : Int) = 130 := rfl
  by_cases c1 : A = 1
  · subst c1
    have sd' : some (n + 1) = some d := sd
    have := Option.some.inj sd'
    refine T_p rfl (T_p rfl (T_vp (by omega) (by show l5.toInt < 260; omega) (T_vp (by omega) (by rw [v130]; omega) (T_nm (go _ _ (F80_s hf _ _) (by omega) (by omega))))))
  by_cases c2 : A = 2
  · subst c2
    have s2 := stepd_2 sd
    refine T_q c1 (T_p rfl (T_q c1 (T_vp (by omega) (by show l5.toInt < 260; omega) (T_vp ?_ ?_ (T_vp (by omega) (by rw [v130]; omega) (T_nm (go _ _ (F80_s hf _ _) (by omega) (by omega))))))))
    · rw [a75]; exact s2.1.1
    · rw [a75]; exact s2.1.2
  by_cases c3 : A = 3
  · subst c3
    have s3 := stepd_34 (Or.inl rfl) sd
    have := d4 s3.1
    refine T_q c1 (T_q c2 (T_p rfl (T_vp (by omega) (by rw [v130]; omega) (T_i (fun _ => ?_) (fun _ => ?_)))))
    · exact T_vp (by omega) (by rw [v130]; omega) (T_nm (go _ _ (F80_s hf _ _) (by omega) (by omega)))
    · exact T_vp (by omega) (by rw [v130]; omega) (T_nm (go _ _ (F80_s hf _ _) (by omega) (by omega)))
  by_cases c4 : A = 4
  · subst c4
    have s3 := stepd_34 (Or.inr rfl) sd
    have := d4 s3.1
    refine T_q c1 (T_q c2 (T_q c3 (T_p rfl (T_vp (by omega) (by rw [v130]; omega) (T_vp (by omega) (by rw [v130]; omega) (T_nm (go _ _ (F80_s hf _ _) (by omega) (by omega))))))))
  have s5 := stepd_5 c1 c2 c3 c4 sd
  have em : l4 + (-1) = l4 - 1 := by rw [Int32.sub_eq_add_neg]
  rw [em]
  have d1 := d4 (by omega)
  have d2 : (l4 - 1 - 1).toInt = (l4 - 1).toInt - 1 := dec1 (by omega)
  refine T_q c1 (T_q c2 (T_q c3 (T_q c4 (T_vp (by omega) (by rw [v130]; omega) (T_vp (by omega) (by rw [v130]; omega) (T_b (m_twoOf z _ _ _) (fun r _ => T_vp (by omega) (by rw [v130]; omega) (T_nm (go _ _ (F80_s hf _ _) (by omega) (by omega)))))))))) 

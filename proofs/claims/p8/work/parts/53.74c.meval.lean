/-! ===== the model's segment, exactly ===== -/
def MPl (z : SS) (st : List Int32) : Prop := ∀ j : Nat, j < st.length → z.1 80 (st.length - 1 - j) = st.getD j 0
theorem MPl_push {z : SS} {st : List Int32} (v : Int32) (h : MPl z st) : MPl (sI z 80 st.length v) (v :: st) := fun j hj => by
  rw [List.length_cons] at hj ⊢
  rw [sI_rd]
  cases j with
  | zero => rw [if_pos ⟨rfl, by omega⟩]; rfl
  | succ j =>
    rw [if_neg (fun c => by have := c.2; omega), show st.length + 1 - 1 - (j + 1) = st.length - 1 - j by omega, h j (by omega)]
    rfl
theorem MPl_drop {z : SS} {st : List Int32} {v : Int32} (h : MPl z (v :: st)) : MPl z st := fun j hj => by
  have := h (j + 1) (by rw [List.length_cons]; omega)
  rw [List.length_cons, show st.length + 1 - 1 - (j + 1) = st.length - 1 - j by omega] at this
  exact this
theorem MPl_top {z : SS} {st : List Int32} {v : Int32} (h : MPl z (v :: st)) : z.1 80 st.length = v := by
  have := h 0 (by rw [List.length_cons]; omega)
  rw [List.length_cons, show st.length + 1 - 1 - 0 = st.length by omega] at this
  exact this
/-- a model's step is of a known kind -/
def kn (a : Int32) : Prop := a = 1 ∨ a = 2 ∨ a = 3 ∨ a = 4 ∨ 1 ≤ (lvc a).toInt
theorem m_workedE {q : SS} {s e : Int32} (hs : 0 ≤ s.toInt) (he : e.toInt ≤ 130) (ok : okSeg (q.1 74) (q.1 75) s.toInt e.toInt) (hk : ∀ k : Nat, s.toInt ≤ (k : Int) → (k : Int) < e.toInt → kn (q.1 74 k)) : T (f_X12_worked q 0 s e) (fun r => F80 q r.2 ∧ evl (q.1 79) (q.1 74) (q.1 75) (e.toInt - s.toInt).toNat s.toInt.toNat [] = [r.1]) := by
  have o130 : (130 : Int32) * 0 = 0 := by decide
  have z0 : ∀ x : Int32, (0 : Int32) + x = x := fun x => Int32.zero_add x
  unfold f_X12_worked
  rw [o130, z0]
  refine T_nm ?_
  unfold b_X12_worked_12
  refine T_fx5 (fun z l1 l3 l4 l5 => F80 q z ∧ l1 = 0 ∧ l3 = e ∧ (s.toInt ≤ l5.toInt ∧ (l5.toInt ≤ e.toInt ∨ s = l5)) ∧ ∃ st : List Int32, MPl z st ∧ (l4.toInt = (st.length : Int) ∧ (st.length : Int) ≤ l5.toInt - s.toInt) ∧ dp (q.1 74) (q.1 75) (e.toInt - l5.toInt).toNat l5.toInt.toNat st.length = some 1 ∧ evl (q.1 79) (q.1 74) (q.1 75) (e.toInt - l5.toInt).toNat l5.toInt.toNat st = evl (q.1 79) (q.1 74) (q.1 75) (e.toInt - s.toInt).toNat s.toInt.toNat []) (fun _ _ _ _ l5 => (e.toInt - l5.toInt).toNat) ?_ _ _ _ _ _ _ ⟨⟨rfl, fun _ _ => rfl⟩, rfl, rfl, ⟨by omega, Or.inr rfl⟩, [], fun j hj => absurd hj (by show ¬ j < 0; omega), ⟨rfl, by show (0 : Int) ≤ _; omega⟩, ok, rfl⟩ (by unfold FU; omega)
  rintro rec z l1 l3 l4 l5 ⟨hf, rfl, rfl, ⟨b1, _⟩, st, hP, ⟨n4, nb⟩, hd, hE⟩ hr
  rw [o130, z0]
  refine T_le (fun le => T_vp (by decide) (by decide) (T_some.mpr ⟨hf, ?_⟩)) (fun g => T_vp (by omega) (by show l5.toInt < 260; omega) (T_nm ?_))
  · rw [← hE]
    rw [show (l3.toInt - l5.toInt).toNat = 0 by omega] at hd ⊢
    have hd' : some st.length = some 1 := hd
    have h1 := Option.some.inj hd'
    cases st with
    | nil => cases h1
    | cons v r =>
      cases r with
      | nil =>
        have := MPl_top hP
        show [v] = [z.1 80 (0 : Int32).toNatClampNeg]
        exact congrArg (fun x => [x]) this.symm
      | cons u r => rw [List.length_cons, List.length_cons] at h1; omega
  have e5 := inc1 (a := l5) (by omega) (by omega)
  obtain ⟨m, hm⟩ : ∃ m : Nat, (l3.toInt - l5.toInt).toNat = m + 1 := ⟨(l3.toInt - l5.toInt).toNat - 1, by omega⟩
  rw [hm] at hd hE
  obtain ⟨d, sd, hd2⟩ := dp_step hd
  have i5 : (l5 + 1).toInt.toNat = l5.toInt.toNat + 1 := by omega
  have m5 : (l3.toInt - (l5 + 1).toInt).toNat = m := by omega
  have hE2 : evl (q.1 79) (q.1 74) (q.1 75) m (l5.toInt.toNat + 1) (stp (q.1 79) (q.1 74 l5.toInt.toNat) (q.1 75 l5.toInt.toNat) st) = evl (q.1 79) (q.1 74) (q.1 75) (l3.toInt - s.toInt).toNat s.toInt.toNat [] := hE
  have hkn := hk l5.toInt.toNat (by omega) (by omega)
  have go : ∀ (y : SS) (v : Int32) (st' : List Int32), F80 q y → MPl y st' → stp (q.1 79) (q.1 74 l5.toInt.toNat) (q.1 75 l5.toInt.toNat) st = st' → v.toInt = (st'.length : Int) → st'.length = d → (d : Int) ≤ st.length + 1 → T (rec y 0 l3 v (l5 + 1)) (fun r => F80 q r.2 ∧ evl (q.1 79) (q.1 74) (q.1 75) (l3.toInt - s.toInt).toNat s.toInt.toNat [] = [r.1]) := by
    intro y v st' hy hp hst hv hdl hdn
    refine hr _ _ _ _ _ ⟨hy, rfl, rfl, ⟨by omega, Or.inl (by omega)⟩, st', hp, ⟨hv, by omega⟩, ?_, ?_⟩ (by omega)
    · rw [m5, i5, hdl]
      exact hd2
    · rw [m5, i5, ← hst]
      exact hE2
  have e4 := inc1 (a := l4) (by omega) (by omega)
  have d4 : 1 ≤ st.length → (l4 - 1).toInt = l4.toInt - 1 := fun _ => dec1 (by omega)
  have a74 : z.1 74 l5.toNatClampNeg = q.1 74 l5.toInt.toNat := by rw [hf.2 74 (by decide)]; rfl
  have a75 : z.1 75 l5.toNatClampNeg = q.1 75 l5.toInt.toNat := by rw [hf.2 75 (by decide)]; rfl
  have a79 : z.1 79 = q.1 79 := hf.2 79 (by decide)
  have ix4 : l4.toNatClampNeg = st.length := by
    show l4.toInt.toNat = _
    omega
  rw [a74]
  generalize ga : q.1 74 l5.toInt.toNat = A at sd hkn go ⊢
  generalize gw : q.1 75 l5.toInt.toNat = W at sd a75 go
  unfold b_X12_worked_45 b_X12_worked_79 b_X12_worked_117 b_X12_worked_182
  have v130 : ((130 : Nat) : Int) = 130 := rfl
  by_cases c1 : A = 1
  · subst c1
    have sd' : some (st.length + 1) = some d := sd
    have := Option.some.inj sd'
    refine T_p rfl (T_p rfl (T_vp (by omega) (by show l5.toInt < 260; omega) (T_vp (by omega) (by rw [v130]; omega) (T_nm ?_))))
    rw [a75, ix4]
    exact go _ _ _ (F80_s hf _ _) (MPl_push _ hP) rfl (by rw [List.length_cons]; omega) (by rw [List.length_cons]; omega) (by omega)
  by_cases c2 : A = 2
  · subst c2
    have s2 := stepd_2 sd
    refine T_q c1 (T_p rfl (T_q c1 (T_vp (by omega) (by show l5.toInt < 260; omega) (T_vp ?_ ?_ (T_vp (by omega) (by rw [v130]; omega) (T_nm ?_))))))
    · rw [a75]; exact s2.1.1
    · rw [a75]; exact s2.1.2
    rw [a75, ix4, a79]
    exact go _ _ _ (F80_s hf _ _) (MPl_push _ hP) rfl (by rw [List.length_cons]; omega) (by rw [List.length_cons]; omega) (by omega)
  by_cases c3 : A = 3
  · subst c3
    have s3 := stepd_34 (Or.inl rfl) sd
    have := d4 s3.1
    cases st with
    | nil => exact absurd s3.1 (by decide)
    | cons x r =>
      rw [List.length_cons] at n4 nb s3
      have ixm : (l4 - 1).toNatClampNeg = r.length := by
        show (l4 - 1).toInt.toNat = _
        omega
      have tp := MPl_top hP
      refine T_q c1 (T_q c2 (T_p rfl (T_vp (by omega) (by rw [v130]; omega) ?_)))
      rw [ixm, tp]
      refine T_i (fun c => T_vp (by omega) (by rw [v130]; omega) (T_nm ?_)) (fun c => T_vp (by omega) (by rw [v130]; omega) (T_nm ?_))
      · refine go _ _ _ (F80_s hf _ _) (MPl_push 1 (MPl_drop hP)) ?_ (by rw [List.length_cons]; omega) (by rw [List.length_cons]; omega) (by rw [List.length_cons]; omega)
        show (if x = 0 then (1 : Int32) else 0) :: r = 1 :: r
        rw [if_pos c]
      · refine go _ _ _ (F80_s hf _ _) (MPl_push 0 (MPl_drop hP)) ?_ (by rw [List.length_cons]; omega) (by rw [List.length_cons]; omega) (by rw [List.length_cons]; omega)
        show (if x = 0 then (1 : Int32) else 0) :: r = 0 :: r
        rw [if_neg c]
  by_cases c4 : A = 4
  · subst c4
    have s3 := stepd_34 (Or.inr rfl) sd
    have := d4 s3.1
    cases st with
    | nil => exact absurd s3.1 (by decide)
    | cons x r =>
      rw [List.length_cons] at n4 nb s3
      have ixm : (l4 - 1).toNatClampNeg = r.length := by
        show (l4 - 1).toInt.toNat = _
        omega
      have tp := MPl_top hP
      refine T_q c1 (T_q c2 (T_q c3 (T_p rfl (T_vp (by omega) (by rw [v130]; omega) (T_vp (by omega) (by rw [v130]; omega) (T_nm ?_))))))
      rw [ixm, tp]
      exact go _ _ _ (F80_s hf _ _) (MPl_push (-x) (MPl_drop hP)) rfl (by rw [List.length_cons]; omega) (by rw [List.length_cons]; omega) (by rw [List.length_cons]; omega)
  have s5 := stepd_5 c1 c2 c3 c4 sd
  have hv : 1 ≤ (lvc A).toInt := by
    rcases hkn with h | h | h | h | h
    · exact absurd h c1
    · exact absurd h c2
    · exact absurd h c3
    · exact absurd h c4
    · exact h
  cases st with
  | nil => exact absurd s5.1 (by decide)
  | cons b r =>
    cases r with
    | nil => exact absurd s5.1 (by show ¬ (2 ≤ 1); omega)
    | cons x r =>
      rw [List.length_cons, List.length_cons] at n4 nb s5
      have em : l4 + (-1) = l4 - 1 := by rw [Int32.sub_eq_add_neg]
      rw [em]
      have d1 := d4 (by rw [List.length_cons, List.length_cons]; omega)
      have d2 : (l4 - 1 - 1).toInt = (l4 - 1).toInt - 1 := dec1 (by omega)
      have ix1 : (l4 - 1).toNatClampNeg = r.length + 1 := by
        show (l4 - 1).toInt.toNat = _
        omega
      have ix2 : (l4 - 1 - 1).toNatClampNeg = r.length := by
        show (l4 - 1 - 1).toInt.toNat = _
        omega
      have t1 := MPl_top hP
      rw [List.length_cons] at t1
      have t2 := MPl_top (MPl_drop hP)
      refine T_q c1 (T_q c2 (T_q c3 (T_q c4 (T_vp (by omega) (by rw [v130]; omega) (T_vp (by omega) (by rw [v130]; omega) ?_)))))
      rw [ix1, ix2, t1, t2]
      refine T_rw (m_twoE z hv) (T_vp (by omega) (by rw [v130]; omega) (T_nm ?_))
      refine go _ _ _ (F80_s hf _ _) (MPl_push _ (MPl_drop (MPl_drop hP))) ?_ (by rw [List.length_cons]; omega) (by rw [List.length_cons]; omega) (by rw [List.length_cons, List.length_cons]; omega)
      unfold stp
      rw [if_neg c1, if_neg c2, if_neg c3, if_neg c4]
theorem al_kn {a w a' w' : Int32} (h : al a w a' w') : kn a' := by
  rcases h.2 with ⟨_, rfl⟩ | ⟨_, rfl⟩ | ⟨_, rfl⟩ | ⟨_, rfl⟩ | ⟨rfl, hv⟩
  · exact Or.inr (Or.inl rfl)
  · exact Or.inl rfl
  · exact Or.inr (Or.inr (Or.inl rfl))
  · exact Or.inr (Or.inr (Or.inr (Or.inl rfl)))
  · exact Or.inr (Or.inr (Or.inr (Or.inr hv)))

/-! ===== a line worked out: on lists ===== -/
def op2 (a x y : Int32) : Int32 :=
  if a = 37 then (if y = 0 then 0 else jrem x y)
  else if a = 38 then (if x = 0 then 0 else if y = 0 then 0 else 1)
  else if a = 42 then x * y
  else if a = 43 then x + y
  else if a = 45 then x - y
  else if a = 47 then (if y = 0 then 0 else x / y)
  else if a = 60 then (if y ≤ x then 0 else 1)
  else if a = 61 then (if x = y then 1 else 0)
  else if a = 62 then (if x ≤ y then 0 else 1)
  else (if x = 0 then (if y = 0 then 0 else 1) else 1)
def stp (N : Nat → Int32) (a w : Int32) (st : List Int32) : List Int32 :=
  if a = 1 then w :: st
  else if a = 2 then N w.toInt.toNat :: st
  else if a = 3 then (match st with | x :: r => (if x = 0 then 1 else 0) :: r | [] => [])
  else if a = 4 then (match st with | x :: r => (-x) :: r | [] => [])
  else (match st with | y :: x :: r => op2 a x y :: r | _ => [])
def evl (N A W : Nat → Int32) : Nat → Nat → List Int32 → List Int32
  | 0, _, st => st
  | n + 1, i, st => evl N A W n (i + 1) (stp N (A i) (W i) st)
theorem evl_c {N A W A' W' : Nat → Int32} (c : Nat) : ∀ (n i : Nat) (st : List Int32), (∀ k, i ≤ k → k < i + n → A' k = A (c + k) ∧ W' k = W (c + k)) → evl N A' W' n i st = evl N A W n (c + i) st
  | 0, _, _, _ => rfl
  | n + 1, i, st, h => by
    have e := h i (by omega) (by omega)
    show evl N A' W' n (i + 1) (stp N (A' i) (W' i) st) = evl N A W n (c + i + 1) (stp N (A (c + i)) (W (c + i)) st)
    rw [e.1, e.2]
    exact evl_c c n (i + 1) _ (fun k hk hl => h k (by omega) (by omega))
/-- a pile of the class's, top first -/
def CP (y : SS) (st : List Int32) : Prop := (y.1 12 5).toInt = (st.length : Int) ∧ ∀ j : Nat, j < st.length → y.1 15 (st.length - 1 - j) = st.getD j 0
theorem CP_push {y : SS} {st : List Int32} {v : Int32} (h : CP y st) (hl : st.length < 121) : T (f_X4_push y v) (fun r => CP r (v :: st) ∧ r = sI (sI y 15 st.length v) 12 5 (y.1 12 5 + 1)) := by
  have l121 : (121 : Int32).toInt = 121 := rfl
  have l0 : (0 : Int32).toInt = 0 := rfl
  have e5 := h.1
  have i := inc1 (a := y.1 12 5) (by omega) (by omega)
  have ix : (y.1 12 5).toNatClampNeg = st.length := by
    show (y.1 12 5).toInt.toNat = _
    omega
  unfold f_X4_push
  refine T_ltn (by omega) (T_len (by omega) (T_vp (by omega) (by show (y.1 12 5).toInt < 121; omega) (T_nm (T_nm (T_some.mpr ?_)))))
  rw [ix]
  refine ⟨⟨?_, fun j hj => ?_⟩, rfl⟩
  · show (y.1 12 5 + 1).toInt = ((v :: st).length : Int)
    rw [i, List.length_cons]
    omega
  · rw [List.length_cons] at hj
    rw [sI_ro (by decide), sI_rd, List.length_cons]
    cases j with
    | zero =>
      rw [if_pos ⟨rfl, by omega⟩]
      rfl
    | succ j =>
      rw [if_neg (fun c => by have := c.2; omega)]
      have := h.2 j (by omega)
      rw [show st.length + 1 - 1 - (j + 1) = st.length - 1 - j by omega, this]
      rfl
theorem CP_pop {y : SS} {st : List Int32} {v : Int32} (h : CP y (v :: st)) (hl : st.length < 121) : T (f_X4_pop y) (fun r => r.1 = v ∧ CP r.2 st ∧ r.2 = sI y 12 5 (y.1 12 5 - 1)) := by
  have l121 : (121 : Int32).toInt = 121 := rfl
  have l0 : (0 : Int32).toInt = 0 := rfl
  have e5 := h.1
  rw [List.length_cons] at e5
  have i := dec1 (a := y.1 12 5) (by omega)
  have ix : (y.1 12 5 - 1).toNatClampNeg = st.length := by
    show (y.1 12 5 - 1).toInt.toNat = _
    omega
  have top := h.2 0 (by rw [List.length_cons]; omega)
  rw [List.length_cons, show st.length + 1 - 1 - 0 = st.length by omega] at top
  unfold f_X4_pop
  refine T_len (by omega) (T_lep (by omega) (T_nm ?_))
  show T (if vin (y.1 12 5 - 1) 121 then some (y.1 15 (y.1 12 5 - 1).toNatClampNeg, sI y 12 5 (y.1 12 5 - 1)) else none) _
  refine T_vp (by omega) (by show (y.1 12 5 - 1).toInt < 121; omega) (T_some.mpr ?_)
  rw [ix]
  refine ⟨top, ⟨?_, fun j hj => ?_⟩, rfl⟩
  · show (y.1 12 5 - 1).toInt = _
    omega
  · have := h.2 (j + 1) (by rw [List.length_cons]; omega)
    rw [List.length_cons, show st.length + 1 - 1 - (j + 1) = st.length - 1 - j by omega] at this
    exact this
theorem x_joinE (q : SS) {a x y : Int32} (h : 1 ≤ (lvc a).toInt) : f_X4_join q a x y = some (op2 a x y) := by
  unfold f_X4_join b_X4_join_100
  rw [swI (k := 37) (n := 37) rfl, swI (k := 38) (n := 38) rfl, swI (k := 42) (n := 42) rfl, swI (k := 43) (n := 43) rfl, swI (k := 45) (n := 45) rfl, swI (k := 47) (n := 47) rfl, swI (k := 60) (n := 60) rfl, swI (k := 61) (n := 61) rfl, swI (k := 62) (n := 62) rfl, swI (k := 124) (n := 124) rfl]
  rcases lvc_in a with ⟨_, h3⟩ | ⟨_, h3⟩ | ⟨_, h3⟩ | ⟨_, h3⟩ | ⟨_, h3⟩ | h3
  · rcases h3 with rfl | rfl | rfl
    · rfl
    · show (if y = 0 then some 0 else if y = 0 then none else some (x / y)) = some (if y = 0 then 0 else x / y)
      by_cases c : y = 0
      · rw [if_pos c, if_pos c]
      · rw [if_neg c, if_neg c, if_neg c]
    · show (if y = 0 then some 0 else if y = 0 then none else some (jrem x y)) = some (if y = 0 then 0 else jrem x y)
      by_cases c : y = 0
      · rw [if_pos c, if_pos c]
      · rw [if_neg c, if_neg c, if_neg c]
  · rcases h3 with rfl | rfl <;> rfl
  · rcases h3 with rfl | rfl | rfl
    · show (if y ≤ x then some 0 else some 1) = some (if y ≤ x then 0 else 1)
      split <;> rfl
    · show (if x = y then some 1 else some 0) = some (if x = y then 1 else 0)
      split <;> rfl
    · show (if x ≤ y then some 0 else some 1) = some (if x ≤ y then 0 else 1)
      split <;> rfl
  · subst h3
    show (if x = 0 then some 0 else if y = 0 then some 0 else some 1) = some (if x = 0 then 0 else if y = 0 then 0 else 1)
    split
    · rfl
    · split <;> rfl
  · subst h3
    show (if x = 0 then (if y = 0 then some 0 else some 1) else some 1) = some (if x = 0 then (if y = 0 then 0 else 1) else 1)
    split
    · split <;> rfl
    · rfl
  · rw [h3] at h
    exact absurd h (by decide)
theorem div_m1 (x : Int32) : x / (-1) = -x := by
  apply Int32.toInt_inj.mp
  rw [Int32.toInt_div, show (-1 : Int32).toInt = -1 from rfl, Int.tdiv_neg, Int.tdiv_one, Int32.toInt_neg]
theorem jrem_m1 (x : Int32) : jrem x (-1) = 0 := by
  show x - x / (-1) * (-1) = 0
  rw [div_m1, Int32.neg_mul_neg, Int32.mul_one, Int32.sub_self]
theorem m_twoE (q : SS) {a x y : Int32} (h : 1 ≤ (lvc a).toInt) : f_X12_twoOf q a x y = some (op2 a x y) := by
  unfold f_X12_twoOf b_X12_twoOf_163 b_X12_twoOf_226
  rcases lvc_in a with ⟨_, h3⟩ | ⟨_, h3⟩ | ⟨_, h3⟩ | ⟨_, h3⟩ | ⟨_, h3⟩ | h3
  · rcases h3 with rfl | rfl | rfl
    · rfl
    · show (if y = 0 then some 0 else if y = -1 then some (-x) else if y = 0 then none else some (x / y)) = some (if y = 0 then 0 else x / y)
      by_cases c : y = 0
      · rw [if_pos c, if_pos c]
      · rw [if_neg c, if_neg c, if_neg c]
        by_cases e : y = -1
        · rw [if_pos e, e, div_m1]
        · rw [if_neg e]
    · show (if y = 0 then some 0 else if y = -1 then some 0 else if y = 0 then none else some (jrem x y)) = some (if y = 0 then 0 else jrem x y)
      by_cases c : y = 0
      · rw [if_pos c, if_pos c]
      · rw [if_neg c, if_neg c, if_neg c]
        by_cases e : y = -1
        · rw [if_pos e, e, jrem_m1]
        · rw [if_neg e]
  · rcases h3 with rfl | rfl <;> rfl
  · rcases h3 with rfl | rfl | rfl
    · show (if y ≤ x then some 0 else some 1) = some (if y ≤ x then 0 else 1)
      split <;> rfl
    · show (if x = y then some 1 else some 0) = some (if x = y then 1 else 0)
      split <;> rfl
    · show (if x ≤ y then some 0 else some 1) = some (if x ≤ y then 0 else 1)
      split <;> rfl
  · subst h3
    show (if x = 0 then some 0 else if y = 0 then some 0 else some 1) = some (if x = 0 then 0 else if y = 0 then 0 else 1)
    split
    · rfl
    · split <;> rfl
  · subst h3
    show (if x = 0 then (if y = 0 then some 0 else some 1) else some 1) = some (if x = 0 then (if y = 0 then 0 else 1) else 1)
    split
    · split <;> rfl
    · rfl
  · rw [h3] at h
    exact absurd h (by decide)
theorem lv_ne {a : Int32} (h : 1 ≤ (lvc a).toInt) : a ≠ 1 ∧ a ≠ 2 ∧ a ≠ 3 ∧ a ≠ 4 ∧ a ≠ 48 ∧ a ≠ 110 ∧ a ≠ 126 ∧ a ≠ 33 ∧ a ≠ 63 ∧ a ≠ 59 := by
  rcases lvc_in a with ⟨_, h3⟩ | ⟨_, h3⟩ | ⟨_, h3⟩ | ⟨_, h3⟩ | ⟨_, h3⟩ | h3
  · rcases h3 with rfl | rfl | rfl <;> decide
  · rcases h3 with rfl | rfl <;> decide
  · rcases h3 with rfl | rfl | rfl <;> decide
  · subst h3; decide
  · subst h3; decide
  · rw [h3] at h; exact absurd h (by decide)
/-- one step of the class's -/
theorem x_doE {y : SS} {st : List Int32} {a w a' w' : Int32} {d : Nat} (h : CP y st) (hl : st.length < 121) (e : al a w a' w') (s : stepd a' w' st.length = some d) : T (f_X4_doStep y a w) (fun r => CP r (stp (y.1 16) a' w' st) ∧ (stp (y.1 16) a' w' st).length = d ∧ Fr wE v0 y r ∧ r.1 16 = y.1 16) := by
  obtain ⟨rfl, e⟩ := e
  have fw : ∀ (z : SS) (i : Nat) (v u : Int32), Fr wE v0 y z → z.1 16 = y.1 16 → Fr wE v0 y (sI (sI z 15 i v) 12 5 u) ∧ (sI (sI z 15 i v) 12 5 u).1 16 = y.1 16 := fun z i v u f g => ⟨Fr_sI (Fr_sI f rfl) rfl, by rw [sI_ro (by decide), sI_ro (by decide)]; exact g⟩
  have fp : ∀ (z : SS) (u : Int32), Fr wE v0 y z → z.1 16 = y.1 16 → Fr wE v0 y (sI z 12 5 u) ∧ (sI z 12 5 u).1 16 = y.1 16 := fun z u f g => ⟨Fr_sI f rfl, by rw [sI_ro (by decide)]; exact g⟩
  have f0 : Fr wE v0 y y ∧ y.1 16 = y.1 16 := ⟨Fr_refl y, rfl⟩
  unfold f_X4_doStep b_X4_doStep_43 b_X4_doStep_44 b_X4_doStep_87
  rcases e with ⟨rfl, rfl⟩ | ⟨rfl, rfl⟩ | ⟨rfl, rfl⟩ | ⟨rfl, rfl⟩ | ⟨rfl, hv⟩
  · have s2 := stepd_2 s
    have l0 : (0 : Int32).toInt = 0 := rfl
    have l6 : (6 : Int32).toInt = 6 := rfl
    refine T_q (by decide) (T_p rfl (T_ltn (by omega) (T_len (by omega) (T_vp s2.1.1 s2.1.2 (T_b (CP_push h hl) (fun r hr => T_some.mpr ?_))))))
    refine ⟨hr.1, by rw [s2.2]; rfl, ?_⟩
    rw [hr.2]
    exact fw y _ _ _ f0.1 f0.2
  · have s1 : some (st.length + 1) = some d := s
    have := Option.some.inj s1
    refine T_p rfl (T_b (CP_push h hl) (fun r hr => T_some.mpr ⟨hr.1, by rw [← this]; rfl, ?_⟩))
    rw [hr.2]
    exact fw y _ _ _ f0.1 f0.2
  · have s3 := stepd_34 (Or.inl rfl) s
    cases st with
    | nil => exact absurd s3.1 (by decide)
    | cons x r =>
      rw [List.length_cons] at hl s3
      have hd : (stp (y.1 16) 3 w' (x :: r)) = (if x = 0 then 1 else 0) :: r := rfl
      rw [hd]
      refine T_q (by decide) (T_q (by decide) (T_q (by decide) (T_p rfl (T_b (CP_pop h (by omega)) (fun r1 h1 => ?_)))))
      have f1 := fp y (y.1 12 5 - 1) f0.1 f0.2
      rw [← h1.2.2] at f1
      rw [h1.1]
      refine T_i (fun c => ?_) (fun c => ?_)
      · rw [if_pos c]
        refine T_b (CP_push h1.2.1 (by omega)) (fun r2 h2 => T_some.mpr ⟨h2.1, by rw [List.length_cons]; omega, ?_⟩)
        rw [h2.2]
        exact fw _ _ _ _ f1.1 f1.2
      · rw [if_neg c]
        refine T_b (CP_push h1.2.1 (by omega)) (fun r2 h2 => T_some.mpr ⟨h2.1, by rw [List.length_cons]; omega, ?_⟩)
        rw [h2.2]
        exact fw _ _ _ _ f1.1 f1.2
  · have s3 := stepd_34 (Or.inr rfl) s
    cases st with
    | nil => exact absurd s3.1 (by decide)
    | cons x r =>
      rw [List.length_cons] at hl s3
      have hd : (stp (y.1 16) 4 w' (x :: r)) = (-x) :: r := rfl
      rw [hd]
      refine T_q (by decide) (T_q (by decide) (T_p rfl (T_b (CP_pop h (by omega)) (fun r1 h1 => ?_))))
      have f1 := fp y (y.1 12 5 - 1) f0.1 f0.2
      rw [← h1.2.2] at f1
      rw [h1.1]
      refine T_b (CP_push h1.2.1 (by omega)) (fun r2 h2 => T_some.mpr ⟨h2.1, by rw [List.length_cons]; omega, ?_⟩)
      rw [h2.2]
      exact fw _ _ _ _ f1.1 f1.2
  · obtain ⟨n1, n2, n3, n4, n5, n6, n7, n8, _⟩ := lv_ne hv
    have s5 := stepd_5 n1 n2 n3 n4 s
    cases st with
    | nil => exact absurd s5.1 (by decide)
    | cons b r =>
      cases r with
      | nil => exact absurd s5.1 (by show ¬ (2 ≤ 1); omega)
      | cons x r =>
        rw [List.length_cons, List.length_cons] at hl s5
        have hd : (stp (y.1 16) a' w' (b :: x :: r)) = op2 a' x b :: r := by
          unfold stp
          rw [if_neg n1, if_neg n2, if_neg n3, if_neg n4]
        rw [hd]
        refine T_q n5 (T_q n6 (T_q n7 (T_q n8 (T_b (CP_pop h (by rw [List.length_cons]; omega)) (fun r1 h1 => T_b (CP_pop h1.2.1 (by omega)) (fun r2 h2 => T_rw (x_joinE _ hv) ?_))))))
        have f1 := fp y (y.1 12 5 - 1) f0.1 f0.2
        rw [← h1.2.2] at f1
        have f2 := fp r1.2 (r1.2.1 12 5 - 1) f1.1 f1.2
        rw [← h2.2.2] at f2
        rw [h1.1, h2.1]
        refine T_b (CP_push h2.2.1 (by omega)) (fun r3 h3 => T_some.mpr ⟨h3.1, by rw [List.length_cons]; omega, ?_⟩)
        rw [h3.2]
        exact fw _ _ _ _ f2.1 f2.2
/-! ===== a segment on either side ===== -/
def FW (rec : SS → Int32 → Int32 → Option (Int32 × SS)) (q : SS) (l7 l8 : Int32) : Option (Int32 × SS) :=
  if (q.1 12 4) ≤ l8 then (some ((0 : Int32), q)) else (if (121 : Int32) ≤ l8 then (some ((0 : Int32), q)) else (if vin l8 121 then nm (q.1 13 l8.toNatClampNeg) fun v8 => if v8 = (63 : Int32) then ((f_X4_pop q).bind fun r9 => if r9.1 = 0 then (b_X4_workOut_100 rec r9.2 l8 (0 : Int32)) else (b_X4_workOut_100 rec r9.2 l8 (1 : Int32))) else (if v8 = (59 : Int32) then ((f_X4_pop q).bind fun r11 => if l7 = 0 then (b_X4_workOut_145 rec r11.2 (1 : Int32) l8) else (some (r11.1, r11.2))) else (if vin l8 121 then (f_X4_doStep q v8 (q.1 14 l8.toNatClampNeg)).bind fun r13 => b_X4_workOut_145 rec r13 l7 l8 else none)) else none))
theorem FW_e : b_X4_workOut_56 = fx3 FW FU := rfl
theorem al_ne {a w a' w' : Int32} (h : al a w a' w') : a ≠ 63 ∧ a ≠ 59 := by
  rcases h.2 with ⟨rfl, _⟩ | ⟨rfl, _⟩ | ⟨rfl, _⟩ | ⟨rfl, _⟩ | ⟨_, hv⟩
  · decide
  · decide
  · decide
  · decide
  · have := lv_ne hv
    exact ⟨this.2.2.2.2.2.2.2.2.1, this.2.2.2.2.2.2.2.2.2⟩
/-- the class's steps of a segment -/
theorem x_seg {A' W' : Nat → Int32} {q : SS} {l7 : Int32} {P : Int32 × SS → Prop} : ∀ (n c s k d : Nat) (y : SS) (c32 : Int32) (st : List Int32), Fr wE v0 q y → CP y st → c32.toInt = (c : Int) → st.length ≤ c → (c : Int) + n ≤ (q.1 12 4).toInt → (q.1 12 4).toInt ≤ 121 → (∀ j : Nat, j < n → al (q.1 13 (c + j)) (q.1 14 (c + j)) (A' (s + j)) (W' (s + j))) → dp A' W' n s st.length = some d → (∀ (y' : SS) (e32 : Int32), Fr wE v0 q y' → CP y' (evl (y.1 16) A' W' n s st) → (evl (y.1 16) A' W' n s st).length = d → e32.toInt = (c : Int) + n → y'.1 16 = y.1 16 → T (fx3 FW k y' l7 e32) P) → T (fx3 FW (k + n) y l7 c32) P
  | 0, c, s, k, d, y, c32, st, f, h, hc, _, _, _, _, hd, K => by
    have hd' : some st.length = some d := hd
    exact K y c32 f h (Option.some.inj hd') (by omega) rfl
  | n + 1, c, s, k, d, y, c32, st, f, h, hc, hl, hb, h121, ha, hd, K => by
    have l121 : (121 : Int32).toInt = 121 := rfl
    have hd' : (stepd (A' s) (W' s) st.length).bind (fun d' => dp A' W' n (s + 1) d') = some d := hd
    cases g : stepd (A' s) (W' s) st.length with
    | none => rw [g] at hd'; cases hd'
    | some d1 =>
      rw [g] at hd'
      have hd1 : dp A' W' n (s + 1) d1 = some d := hd'
      have e4 : y.1 12 4 = q.1 12 4 := f.1 12 4 rfl
      have ix : c32.toNatClampNeg = c := by
        show c32.toInt.toNat = _
        omega
      have e13 : y.1 13 = q.1 13 := Fr_r f (fun _ => rfl)
      have e14 : y.1 14 = q.1 14 := Fr_r f (fun _ => rfl)
      have a0 := ha 0 (by omega)
      rw [Nat.add_zero, Nat.add_zero] at a0
      have ne := al_ne a0
      have i := inc1 (a := c32) (by omega) (by omega)
      show T (FW (fx3 FW (k + n)) y l7 c32) P
      generalize hrec : fx3 FW (k + n) = rec
      unfold FW b_X4_workOut_145
      rw [e4, e13, e14, ix]
      refine T_len (by omega) (T_len (by omega) (T_vp (by omega) (by show c32.toInt < 121; omega) (T_nm (T_q ne.1 (T_q ne.2 (T_vp (by omega) (by show c32.toInt < 121; omega) (T_b (x_doE h (by omega) a0 g) (fun r hr => ?_))))))))
      rw [← hrec]
      refine x_seg n (c + 1) (s + 1) k d r (c32 + 1) _ (Fr_tr f hr.2.2.1) hr.1 (by omega) ?_ (by omega) h121 (fun j hj => ?_) (by rw [hr.2.1]; exact hd1) (fun y' e32 g1 g2 g3 g4 g5 => ?_)
      · have : d1 ≤ st.length + 1 := by
          have := hr.2.1
          unfold stepd at g
          split at g
          · have := Option.some.inj g; omega
          · split at g
            · split at g
              · have := Option.some.inj g; omega
              · cases g
            · split at g
              · split at g
                · have := Option.some.inj g; omega
                · cases g
              · split at g
                · have := Option.some.inj g; omega
                · cases g
        rw [hr.2.1]
        omega
      · have := ha (j + 1) (by omega)
        rw [show c + (j + 1) = c + 1 + j by omega, show s + (j + 1) = s + 1 + j by omega] at this
        exact this
      · rw [hr.2.2.2] at g2 g3 g5
        exact K y' e32 g1 g2 g3 (by omega) g5

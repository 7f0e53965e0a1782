/-! ===== the model reads its law: what calls itself ===== -/
theorem mk_look (z : SS) (h0 : 0 ≤ (z.1 60 19).toInt) (h1 : (z.1 60 18).toInt ≤ 120) : ∃ v, f_X12_look z = some v ∧ (v ≠ -1 → (z.1 60 19).toInt < (z.1 60 18).toInt) := by
  unfold f_X12_look
  by_cases g : z.1 60 18 ≤ z.1 60 19
  · rw [if_pos g]
    exact ⟨-1, rfl, fun h => absurd rfl h⟩
  · have l := Int32.lt_iff_toInt_lt.mp (Int32.not_le.mp g)
    rw [if_neg g, if_pos ⟨h0, by show (z.1 60 19).toInt < 120; omega⟩]
    exact ⟨_, rfl, fun _ => l⟩
theorem m_name (z : SS) (a : Int32) : T (f_X12_nameOf z a) (fun r => r = -1 ∨ (0 ≤ r.toInt ∧ r.toInt < 6 ∧ a ≠ -1)) := by
  unfold f_X12_nameOf
  repeat (refine T_sw (fun h => T_some.mpr (Or.inr ⟨by decide, by decide, fun e => by rw [e] at h; exact absurd h (by decide)⟩)) (fun _ => ?_))
  exact T_sw0 (T_some.mpr (Or.inl rfl))
theorem m_dig (z : SS) (a : Int32) : T (f_X12_in z a 48 57) (fun r => r ≠ 0 → a ≠ -1) := by
  have l48 : (48 : Int32).toInt = 48 := rfl
  unfold f_X12_in
  exact T_lt (fun _ => T_some.mpr (fun h => absurd rfl h)) (fun g => T_lt (fun _ => T_some.mpr (fun h => absurd rfl h)) (fun _ => T_some.mpr (fun _ e => by rw [e, l48, m1i] at g; exact absurd g (by omega))))
theorem m_opens {q z : SS} {o o' : Int32} {c : Int} {d d' : Nat} (e : EN q) (g : SG o c d q z) (n : z.1 60 20 = -1) (ho : 0 ≤ o.toInt ∧ o.toInt ≤ 6) (h : (z.1 60 19).toInt < (z.1 60 18).toInt) : T (f_X12_opens z) (fun r => (r.1 = 0 ∧ SG o' (c + 1) d' q r.2 ∧ 0 ≤ (r.2.1 60 20).toInt) ∨ (r.1 = 1 ∧ o.toInt < 6 ∧ SG (o + 1) (c + 1) d q r.2 ∧ r.2.1 60 20 = -1)) := by
  have l6 : (6 : Int32).toInt = 6 := rfl
  have n1 := (SG_nw g n).1
  unfold f_X12_opens
  refine T_eq (fun _ => T_b (SG_wr e g n) (fun r hr => T_some.mpr (Or.inl ⟨rfl, hr.1, hr.2⟩))) (fun ne => T_nm (T_nm (T_some.mpr (Or.inr ⟨rfl, ?_, ?_, n⟩))))
  · rw [n1] at ne
    omega
  · exact SG_hr e (SG_op g (fun _ => by rw [n1])) n h
theorem m_fig {q : SS} (e : EN q) : T (f_X12_figure q) (SG (q.1 60 21) 0 1 q) := by
  have l4 : (4 : Int32).toInt = 4 := rfl
  have l0 : (0 : Int32).toInt = 0 := rfl
  have b74 : ∀ (y : SS) (l1 : Int32), SG (q.1 60 21) 1 0 q y → T (b_X12_figure_74 y l1) (SG (q.1 60 21) 0 1 q) := fun y l1 g => by
    unfold b_X12_figure_74
    exact T_b (SG_add (c := 0) (e' := 1) e g (by decide) (fun _ => rfl)) (fun r hr => T_some.mpr hr.1)
  have b70 : ∀ (y : SS) (l1 : Int32), SG (q.1 60 21) 0 0 q y → y.1 60 20 = -1 → T (b_X12_figure_70 y l1) (SG (q.1 60 21) 0 1 q) := fun y l1 g n => by
    unfold b_X12_figure_70
    exact T_b (SG_wr (d' := 0) e g n) (fun r hr => b74 r l1 hr.1)
  have bd : ∀ y : SS, SG (q.1 60 21) 0 0 q y → 0 ≤ (y.1 60 19).toInt ∧ (y.1 60 18).toInt ≤ 120 := fun y g => by
    have t := SG_tp g
    have g1 := g.2.1.1
    obtain ⟨e1, e2, e3, _⟩ := e
    exact ⟨by omega, by rw [t]; omega⟩
  have b52 : ∀ (y : SS) (l1 l2 : Int32), SG (q.1 60 21) l2.toInt 0 q y → 0 ≤ l2.toInt → y.1 60 20 = -1 → T (b_X12_figure_52 y l1 l2) (SG (q.1 60 21) 0 1 q) := fun y l1 l2 g h n => by
    have g0 : SG (q.1 60 21) 0 0 q y := SG_le g h
    unfold b_X12_figure_52
    refine T_eq (fun _ => b70 y l1 g0 n) (fun ne => ?_)
    obtain ⟨v, hv, _⟩ := mk_look y (bd y g0).1 (bd y g0).2
    exact T_rw hv (T_b (m_dig y v) (fun r4 _ => T_i (fun _ => b74 y l1 (SG_le g (by omega))) (fun _ => b70 y l1 g0 n)))
  unfold f_X12_figure b_X12_figure_4
  refine T_fx3 (fun y _ l2 => SG (q.1 60 21) l2.toInt 0 q y ∧ y.1 60 20 = -1 ∧ 0 ≤ l2.toInt ∧ l2.toInt ≤ 4) (fun _ _ l2 => (4 - l2.toInt).toNat) ?_ _ _ _ _ ⟨SG_refl e, e.2.2.2.2.2.1, by decide, by decide⟩ (by unfold FU; decide)
  rintro rec y l1 l2 ⟨g, n, h0, h4⟩ hr
  have g0 : SG (q.1 60 21) 0 0 q y := SG_le g h0
  refine T_le (fun _ => b52 y l1 l2 g h0 n) (fun lt => ?_)
  obtain ⟨v, hv, hl⟩ := mk_look y (bd y g0).1 (bd y g0).2
  refine T_rw hv (T_b (m_dig y v) (fun r8 h8 => T_i (fun _ => b52 y l1 l2 g h0 n) (fun ne => T_rw hv (T_nm (T_nm ?_)))))
  have i := inc1 (a := l2) (by omega) (by omega)
  exact hr _ _ _ ⟨by rw [i]; exact SG_hr e g n (hl (h8 ne)), n, by omega, by omega⟩ (by omega)
def MO (k n : Nat) (f : SS → Option SS) : Prop := ∀ q : SS, EN q → 10 * (6 - (q.1 60 21).toInt) + k ≤ (n : Int) → T (f q) (SG (q.1 60 21) 0 1 q)
theorem SG_bin {f : SS → Option SS} {k n : Nat} (hf : MO k n f) {q y : SS} {v : Int32} {kk : SS → Option SS} {P : SS → Prop} (e : EN q) (hn : 10 * (6 - (q.1 60 21).toInt) + k ≤ (n : Int)) (g : SG (q.1 60 21) 0 1 q y) (w : y.1 60 20 = -1) (h : (y.1 60 19).toInt < (y.1 60 18).toInt) (hv : stepd (v.toInt8.toInt32) 0 2 = some 1) (hk : ∀ r, SG (q.1 60 21) 0 1 q r → (y.1 60 19).toInt < (r.1 60 19).toInt → T (kk r) P) : T (nm (sI y 60 19 (y.1 60 19 + 1)) fun q4 => (f q4).bind fun r5 => (f_X12_addStep r5 v 0).bind fun r6 => kk r6) P := by
  have g1 := SG_hr e g w h
  have n4 : (sI y 60 19 (y.1 60 19 + 1)).1 60 20 = -1 := w
  have e4 := SG_EN e g1 n4 (by decide) ⟨e.2.2.2.2.2.2.1, e.2.2.2.2.2.2.2⟩
  have o4 := (SG_nw g1 n4).1
  refine T_nm (T_b (hf _ e4 (by rw [o4]; exact hn)) (fun r5 h5 => T_b (SG_add (c := 0) e (SG_le (SG_tr e g1 n4 h5) (by decide)) (by decide) (fun _ => hv)) (fun r6 h6 => ?_)))
  have h6' := h6.1
  rw [o4] at h6'
  refine hk r6 h6' ?_
  rw [h6.2.1]
  have a := h5.2.1.1
  have t := SG_tp g
  have b := g.2.1
  obtain ⟨e1, e2, e3, _⟩ := e
  have i := inc1 (a := y.1 60 19) (by omega) (by omega)
  have r19 : (sI y 60 19 (y.1 60 19 + 1)).1 60 19 = y.1 60 19 + 1 := rfl
  rw [r19, i] at a
  omega
def MJ (n : Nat) : Prop := MO 1 n (g_X12_operand n).1 ∧ MO 2 n (g_X12_operand n).2.1 ∧ MO 3 n (g_X12_operand n).2.2.1 ∧ MO 4 n (g_X12_operand n).2.2.2.1 ∧ MO 5 n (g_X12_operand n).2.2.2.2.1 ∧ MO 6 n (g_X12_operand n).2.2.2.2.2
theorem MJ_0 : MJ 0 := by
  have h : ∀ k f, 1 ≤ k → MO k 0 f := fun k f hk q e hn => by
    have := e.2.2.2.2.2.2.2
    exact absurd hn (by omega)
  exact ⟨h _ _ (by decide), h _ _ (by decide), h _ _ (by decide), h _ _ (by decide), h _ _ (by decide), h _ _ (by decide)⟩
theorem SG_bd {o : Int32} {c : Int} {d : Nat} {q y : SS} (e : EN q) (g : SG o c d q y) : 0 ≤ (y.1 60 19).toInt ∧ (y.1 60 18).toInt ≤ 120 ∧ (q.1 60 18).toInt - (y.1 60 19).toInt ≤ 120 := by
  have t := SG_tp g
  have g1 := g.2.1
  obtain ⟨e1, e2, e3, _⟩ := e
  exact ⟨by omega, by rw [t]; omega, by omega⟩
theorem MJ_P {n : Nat} (ih : MJ n) : MO 2 (n + 1) (fb_X12_product (g_X12_operand n)) := by
  intro q e hn
  have l0 : (0 : Int32).toInt = 0 := rfl
  unfold fb_X12_product b_X12_product_4
  refine T_b (ih.1 q e (by omega)) (fun r1 g1 => ?_)
  refine T_fx1 (fun y => SG (q.1 60 21) 0 1 q y) (fun y => ((q.1 60 18).toInt - (y.1 60 19).toInt).toNat) ?_ _ _ g1 (by have := SG_bd e g1; unfold FU; omega)
  rintro rec y g hr
  refine T_le (fun _ => T_some.mpr g) (fun w' => ?_)
  have w := SG_no g (by omega)
  have bd := SG_bd e g
  obtain ⟨v, hv, hl⟩ := mk_look y bd.1 bd.2.1
  have go : v ≠ -1 → stepd (v.toInt8.toInt32) 0 2 = some 1 → T (b_X12_product_38 (g_X12_operand n) rec y) (SG (q.1 60 21) 0 1 q) := fun h1 h2 => by
    unfold b_X12_product_38
    exact T_rw hv (SG_bin ih.1 e (by omega) g w (hl h1) h2 (fun r a b => hr r a (by have := a.2.1.2; omega)))
  refine T_rw hv (T_eq (fun ev => ?_) (fun _ => T_rw hv (T_eq (fun ev => ?_) (fun _ => T_rw hv (T_eq (fun ev => ?_) (fun _ => T_some.mpr g))))))
  · exact go (by rw [ev]; decide) (by rw [ev]; rfl)
  · exact go (by rw [ev]; decide) (by rw [ev]; rfl)
  · exact go (by rw [ev]; decide) (by rw [ev]; rfl)
theorem MJ_S {n : Nat} (ih : MJ n) : MO 3 (n + 1) (fb_X12_sum (g_X12_operand n)) := by
  intro q e hn
  have l0 : (0 : Int32).toInt = 0 := rfl
  unfold fb_X12_sum b_X12_sum_4
  refine T_b (ih.2.1 q e (by omega)) (fun r1 g1 => ?_)
  refine T_fx1 (fun y => SG (q.1 60 21) 0 1 q y) (fun y => ((q.1 60 18).toInt - (y.1 60 19).toInt).toNat) ?_ _ _ g1 (by have := SG_bd e g1; unfold FU; omega)
  rintro rec y g hr
  refine T_le (fun _ => T_some.mpr g) (fun w' => ?_)
  have w := SG_no g (by omega)
  have bd := SG_bd e g
  obtain ⟨v, hv, hl⟩ := mk_look y bd.1 bd.2.1
  have go : v ≠ -1 → stepd (v.toInt8.toInt32) 0 2 = some 1 → T (b_X12_sum_29 (g_X12_operand n) rec y) (SG (q.1 60 21) 0 1 q) := fun h1 h2 => by
    unfold b_X12_sum_29
    exact T_rw hv (SG_bin ih.2.1 e (by omega) g w (hl h1) h2 (fun r a b => hr r a (by have := a.2.1.2; omega)))
  refine T_rw hv (T_eq (fun ev => ?_) (fun _ => T_rw hv (T_eq (fun ev => ?_) (fun _ => T_some.mpr g))))
  · exact go (by rw [ev]; decide) (by rw [ev]; rfl)
  · exact go (by rw [ev]; decide) (by rw [ev]; rfl)
theorem MJ_C {n : Nat} (ih : MJ n) : MO 4 (n + 1) (fb_X12_compared (g_X12_operand n)) := by
  intro q e hn
  have l0 : (0 : Int32).toInt = 0 := rfl
  unfold fb_X12_compared
  refine T_b (ih.2.2.1 q e (by omega)) (fun y g => ?_)
  have bd := SG_bd e g
  obtain ⟨v, hv, hl⟩ := mk_look y bd.1 bd.2.1
  refine T_rw hv (T_le (fun _ => T_some.mpr g) (fun w' => ?_))
  have w := SG_no g (by omega)
  have go : v ≠ -1 → stepd (v.toInt8.toInt32) 0 2 = some 1 → T (b_X12_compared_35 (g_X12_operand n) y v) (SG (q.1 60 21) 0 1 q) := fun h1 h2 => by
    unfold b_X12_compared_35
    exact SG_bin ih.2.2.1 e (by omega) g w (hl h1) h2 (fun r a b => T_some.mpr a)
  refine T_eq (fun ev => ?_) (fun _ => T_eq (fun ev => ?_) (fun _ => T_eq (fun ev => ?_) (fun _ => T_some.mpr g)))
  · exact go (by rw [ev]; decide) (by rw [ev]; rfl)
  · exact go (by rw [ev]; decide) (by rw [ev]; rfl)
  · exact go (by rw [ev]; decide) (by rw [ev]; rfl)
theorem MJ_B {n : Nat} (ih : MJ n) : MO 5 (n + 1) (fb_X12_both (g_X12_operand n)) := by
  intro q e hn
  have l0 : (0 : Int32).toInt = 0 := rfl
  unfold fb_X12_both b_X12_both_4
  refine T_b (ih.2.2.2.1 q e (by omega)) (fun r1 g1 => ?_)
  refine T_fx1 (fun y => SG (q.1 60 21) 0 1 q y) (fun y => ((q.1 60 18).toInt - (y.1 60 19).toInt).toNat) ?_ _ _ g1 (by have := SG_bd e g1; unfold FU; omega)
  rintro rec y g hr
  refine T_le (fun _ => T_some.mpr g) (fun w' => ?_)
  have w := SG_no g (by omega)
  have bd := SG_bd e g
  obtain ⟨v, hv, hl⟩ := mk_look y bd.1 bd.2.1
  refine T_rw hv (T_eq (fun ev => ?_) (fun _ => T_some.mpr g))
  exact SG_bin ih.2.2.2.1 e (by omega) g w (hl (by rw [ev]; decide)) rfl (fun r a b => hr r a (by have := a.2.1.2; omega))
theorem MJ_E {n : Nat} (ih : MJ n) : MO 6 (n + 1) (fb_X12_either (g_X12_operand n)) := by
  intro q e hn
  have l0 : (0 : Int32).toInt = 0 := rfl
  unfold fb_X12_either b_X12_either_4
  refine T_b (ih.2.2.2.2.1 q e (by omega)) (fun r1 g1 => ?_)
  refine T_fx1 (fun y => SG (q.1 60 21) 0 1 q y) (fun y => ((q.1 60 18).toInt - (y.1 60 19).toInt).toNat) ?_ _ _ g1 (by have := SG_bd e g1; unfold FU; omega)
  rintro rec y g hr
  refine T_le (fun _ => T_some.mpr g) (fun w' => ?_)
  have w := SG_no g (by omega)
  have bd := SG_bd e g
  obtain ⟨v, hv, hl⟩ := mk_look y bd.1 bd.2.1
  refine T_rw hv (T_eq (fun ev => ?_) (fun _ => T_some.mpr g))
  exact SG_bin ih.2.2.2.2.1 e (by omega) g w (hl (by rw [ev]; decide)) rfl (fun r a b => hr r a (by have := a.2.1.2; omega))
theorem MJ_O {n : Nat} (ih : MJ n) : MO 1 (n + 1) (fb_X12_operand (g_X12_operand n)) := by
  intro q e hn
  have l0 : (0 : Int32).toInt = 0 := rfl
  have w : q.1 60 20 = -1 := e.2.2.2.2.2.1
  have o0 : 0 ≤ (q.1 60 21).toInt ∧ (q.1 60 21).toInt ≤ 6 := ⟨e.2.2.2.2.2.2.1, e.2.2.2.2.2.2.2⟩
  have g := SG_refl e
  obtain ⟨v, hv, hl⟩ := mk_look q e.1 e.2.2.1
  have cancel : ∀ o : Int32, o + 1 - 1 = o := fun o => Int32.add_sub_cancel o 1
  have t46 : ∀ l1 : Int32, (q.1 60 19).toInt < (q.1 60 18).toInt → T (b_X12_operand_46 (g_X12_operand n) q l1) (SG (q.1 60 21) 0 1 q) := fun l1 h => by
    unfold b_X12_operand_46
    refine T_b (m_opens (o' := q.1 60 21) (d' := 1) e g w o0 h) (fun r3 h3 => ?_)
    rcases h3 with ⟨a, b, c⟩ | ⟨a, b, c, d⟩
    · exact T_p a (T_some.mpr (SG_le b (by decide)))
    · refine T_q (by rw [a]; decide) ?_
      have i := inc1 (a := q.1 60 21) (by omega) (by omega)
      have e3 := SG_EN e c d (by decide) (by omega)
      have o3 := (SG_nw c d).1
      refine T_b (ih.1 _ e3 (by rw [o3]; omega)) (fun r4 h4 => T_nm ?_)
      have h4' := SG_tr e c d h4
      have h5 := SG_op (o' := q.1 60 21) (x := r4.1 60 21 - 1) h4' (fun n4 => by rw [(SG_nw h4' n4).1, o3, cancel])
      exact T_i (fun _ => by
        unfold b_X12_operand_80
        exact T_b (SG_add (c := 0) (e' := 1) e (SG_le h5 (by decide)) (by decide) (fun _ => rfl)) (fun r hr => T_some.mpr hr.1)) (fun _ => by
        unfold b_X12_operand_80
        exact T_b (SG_add (c := 0) (e' := 1) e (SG_le h5 (by decide)) (by decide) (fun _ => rfl)) (fun r hr => T_some.mpr hr.1))
  obtain ⟨m, hm, hp⟩ := m_name q v
  unfold fb_X12_operand
  refine T_rw hv (T_rw hm (T_lt (fun _ => ?_) (fun ge => ?_)))
  · refine T_eq (fun ev => t46 _ (hl (by rw [ev]; decide))) (fun _ => T_eq (fun ev => t46 _ (hl (by rw [ev]; decide))) (fun _ => T_eq (fun ev => ?_) (fun _ => T_b (m_fig e) (fun r hr => T_some.mpr hr))))
    have h := hl (by rw [ev]; decide)
    refine T_b (m_opens (o' := q.1 60 21) (d' := 1) e g w o0 h) (fun r3 h3 => ?_)
    rcases h3 with ⟨a, b, c⟩ | ⟨a, b, c, d⟩
    · exact T_p a (T_some.mpr (SG_le b (by decide)))
    · refine T_q (by rw [a]; decide) ?_
      have i := inc1 (a := q.1 60 21) (by omega) (by omega)
      have e3 := SG_EN e c d (by decide) (by omega)
      have o3 := (SG_nw c d).1
      refine T_b (ih.2.2.2.2.2 _ e3 (by rw [o3]; omega)) (fun r4 h4 => ?_)
      have h4' := SG_tr e c d h4
      refine T_lt (fun lt => ?_) (fun ge => T_some.mpr (SG_le (SG_w h4' (by omega)) (by decide)))
      have n4 := SG_no h4' (by omega)
      have bd := SG_bd e h4'
      obtain ⟨u, hu, hul⟩ := mk_look r4 bd.1 bd.2.1
      refine T_rw hu (T_eq (fun eu => T_nm (T_nm (T_some.mpr ?_))) (fun _ => T_b (SG_wr (o' := q.1 60 21) (d' := 1) e h4' n4) (fun r hr => T_some.mpr (SG_le hr.1 (by decide)))))
      have h5 := SG_hr e h4' n4 (hul (by rw [eu]; decide))
      exact SG_le (SG_op h5 (fun n5 => by rw [(SG_nw h5 n5).1, o3, cancel])) (by decide)
  · have hp' : 0 ≤ m.toInt ∧ m.toInt < 6 ∧ v ≠ -1 := by
      rcases hp with h | h
      · rw [h, m1i] at ge
        exact absurd ge (by omega)
      · exact h
    refine T_rw hm (T_b (SG_add (c := -1) (e' := 1) (a := 2) (w := m) e g (by decide) (fun _ => ?_)) (fun r hr => T_nm (T_some.mpr ?_)))
    · show stepd 2 m 0 = some 1
      unfold stepd
      rw [if_neg (by decide), if_pos rfl, if_pos ⟨hp'.1, hp'.2.1⟩]
    · have := hl hp'.2.2
      exact SG_hr e hr.1 (hr.2.2.1.trans w) (by rw [hr.2.1, hr.2.2.2]; exact this)
theorem MJ_all : ∀ n, MJ n
  | 0 => MJ_0
  | n + 1 => ⟨MJ_O (MJ_all n), MJ_P (MJ_all n), MJ_S (MJ_all n), MJ_C (MJ_all n), MJ_B (MJ_all n), MJ_E (MJ_all n)⟩
theorem m_either {q : SS} (e : EN q) : T (f_X12_either q) (SG (q.1 60 21) 0 1 q) := (MJ_all 900).2.2.2.2.2 q e (by have := e.2.2.2.2.2.2.1; omega)

/-! ===== the model reads its law: a line ===== -/
theorem n16 {a : Int32} (h0 : 0 ≤ a.toInt) (h : a.toInt < 32768) : a.toInt16.toInt32 = a := by
  apply Int32.toInt_inj.mp
  rw [Int16.toInt_toInt32, Int32.toInt_toInt16]
  exact Int.bmod_eq_of_le (by omega) (by omega)
theorem Fr_SN {a b : SS} (h : Fr wS v0 a b) : Fr wR v0 a b := Fr_le h (fun k i e => by
    unfold wR at e
    unfold wS
    simp only [Bool.or_eq_false_iff] at e ⊢
    obtain ⟨⟨⟨⟨⟨e1, e2⟩, e3⟩, e4⟩, e5⟩, e6⟩ := e
    refine ⟨⟨e1, e2⟩, ?_⟩
    cases g : (k == 60) with
    | false => rfl
    | true =>
      rw [g] at e6
      cases g2 : Nat.ble 19 i with
      | false => rfl
      | true =>
        have : Nat.ble 18 i = true := Nat.ble_eq_true_of_le (by have := Nat.le_of_ble_eq_true g2; omega)
        rw [this] at e6
        exact e6) (fun _ h => h)
def sgU (z : SS) (i j : Int) : Prop := dp (z.1 74) (z.1 75) (j - i).toNat (130 + i).toNat 0 = some 1
def stU (z : SS) (l : Nat) : Int := if l = 0 then 0 else (z.1 78 (61 + (l - 1))).toInt
def lnU (z : SS) (l : Nat) : Prop := 0 ≤ stU z l ∧ stU z l ≤ (z.1 77 (61 + l)).toInt ∧ (z.1 77 (61 + l)).toInt ≤ (z.1 78 (61 + l)).toInt ∧ (z.1 78 (61 + l)).toInt ≤ (z.1 60 22).toInt ∧ sgU z (z.1 77 (61 + l)).toInt (z.1 78 (61 + l)).toInt ∧ ((z.1 77 (61 + l)).toInt ≠ stU z l → sgU z (stU z l) (z.1 77 (61 + l)).toInt)
def LN (z : SS) (m : Nat) : Prop := (z.1 76 1).toInt = (m : Int) ∧ stU z m = (z.1 60 22).toInt ∧ (∀ k : Nat, 130 ≤ k → (k : Int) < 130 + (z.1 60 22).toInt → (z.1 74 k).toInt8.toInt32 = z.1 74 k) ∧ ∀ l : Nat, l < m → lnU z l
theorem sgU_c {z z' : SS} {i j b : Int} (h0 : 0 ≤ i) (hj : j ≤ b) (hc : ∀ k : Nat, (k : Int) < 130 + b → z'.1 74 k = z.1 74 k ∧ z'.1 75 k = z.1 75 k) (h : sgU z i j) : sgU z' i j := by
  unfold sgU at h ⊢
  rw [← h]
  exact dp_c _ _ _ (fun k h1 h2 => hc k (by omega))
theorem lnU_c {z z' : SS} {l : Nat} (hst : stU z' l = stU z l) (h77 : z'.1 77 (61 + l) = z.1 77 (61 + l)) (h78 : z'.1 78 (61 + l) = z.1 78 (61 + l)) (hl : (z.1 60 22).toInt ≤ (z'.1 60 22).toInt) (hc : ∀ k : Nat, (k : Int) < 130 + (z.1 60 22).toInt → z'.1 74 k = z.1 74 k ∧ z'.1 75 k = z.1 75 k) (h : lnU z l) : lnU z' l := by
  obtain ⟨h1, h2, h3, h4, h5, h6⟩ := h
  unfold lnU
  rw [hst, h77, h78]
  exact ⟨h1, h2, h3, Int.le_trans h4 hl, sgU_c (by omega) h4 hc h5, fun n => sgU_c h1 (by omega) hc (h6 n)⟩
theorem line_fin {q z : SS} {m : Nat} {x : Int32} (L : LN q m) (hm : 2 * (m : Int) ≤ (q.1 60 19).toInt) (ez : EN z) (r76 : z.1 76 = q.1 76) (r78 : z.1 78 = q.1 78) (r77 : ∀ l : Nat, l < m → z.1 77 (61 + l) = q.1 77 (61 + l)) (hc : ∀ k : Nat, (k : Int) < 130 + (q.1 60 22).toInt → z.1 74 k = q.1 74 k ∧ z.1 75 k = q.1 75 k) (hn : ∀ k : Nat, 130 + (q.1 60 22).toInt ≤ (k : Int) → (k : Int) < 130 + (z.1 60 22).toInt → (z.1 74 k).toInt8.toInt32 = z.1 74 k) (hr : (q.1 60 19).toInt < (z.1 60 19).toInt) (l0 : 0 ≤ (q.1 60 22).toInt) (t1 : (q.1 60 22).toInt ≤ (z.1 77 (61 + m)).toInt) (t2 : (z.1 77 (61 + m)).toInt ≤ (z.1 60 22).toInt) (s1 : sgU z (z.1 77 (61 + m)).toInt (z.1 60 22).toInt) (s2 : (z.1 77 (61 + m)).toInt ≠ (q.1 60 22).toInt → sgU z (q.1 60 22).toInt (z.1 77 (61 + m)).toInt) (hx : x = z.1 60 22) : EN (sI (sI z 78 (61 + m) x) 76 1 (z.1 76 1 + 1)) ∧ LN (sI (sI z 78 (61 + m) x) 76 1 (z.1 76 1 + 1)) (m + 1) ∧ 2 * ((m + 1 : Nat) : Int) ≤ (z.1 60 19).toInt + 1 := by
  obtain ⟨L1, L2, L3, L4⟩ := L
  have h120 : (z.1 60 19).toInt ≤ 120 := by
    obtain ⟨_, a, b, _⟩ := ez
    omega
  refine ⟨ez, ⟨?_, ?_, ?_, ?_⟩, by omega⟩
  · show (z.1 76 1 + 1).toInt = _
    rw [r76, inc1 (by omega) (by omega)]
    omega
  · unfold stU
    rw [if_neg (by omega)]
    have e : ((sI (sI z 78 (61 + m) x) 76 1 (z.1 76 1 + 1)).1 78 (61 + (m + 1 - 1))) = x := by
      rw [sI_ro (by decide), sI_rd, if_pos ⟨rfl, by omega⟩]
    rw [e, hx]
    rfl
  · intro k hk h2
    have a : (z.1 74 k).toInt8.toInt32 = z.1 74 k := by
      by_cases c : (k : Int) < 130 + (q.1 60 22).toInt
      · rw [(hc k c).1]
        exact L3 k hk c
      · exact hn k (by omega) h2
    exact a
  · have st : ∀ l : Nat, l < m + 1 → stU (sI (sI z 78 (61 + m) x) 76 1 (z.1 76 1 + 1)) l = stU q l := fun l hl => by
      unfold stU
      by_cases c : l = 0
      · rw [if_pos c, if_pos c]
      · rw [if_neg c, if_neg c, sI_ro (by decide), sI_rd, if_neg (fun h => by have := h.2; omega), r78]
    intro l hl
    by_cases c : l < m
    · refine lnU_c (z := q) (st l hl) (r77 l c) ?_ (by show (q.1 60 22).toInt ≤ (z.1 60 22).toInt; omega) hc (L4 l c)
      rw [sI_ro (by decide), sI_rd, if_neg (fun h => by have := h.2; omega), r78]
    · obtain rfl : l = m := by omega
      have e : ((sI (sI z 78 (61 + l) x) 76 1 (z.1 76 1 + 1)).1 78 (61 + l)) = x := by
        rw [sI_ro (by decide), sI_rd, if_pos ⟨rfl, rfl⟩]
      unfold lnU
      rw [st l hl, L2, e, hx]
      exact ⟨l0, t1, t2, Int.le_refl _, s1, s2⟩
theorem sg_lt {o : Int32} {c : Int} {q z : SS} (g : SG o c 1 q z) (n : z.1 60 20 = -1) : (q.1 60 22).toInt < (z.1 60 22).toInt := by
  have a := g.2.2.1
  have b := (SG_nw g n).2.2
  by_cases h : (z.1 60 22).toInt = (q.1 60 22).toInt
  · rw [h, Int.sub_self] at b
    cases b
  · omega
theorem line66 {z : SS} {l1 : Int32} {m : Nat} (h : l1.toInt = 61 + (m : Int)) (hm : m ≤ 60) : b_X12_line_66 z l1 = some (sI (sI z 78 (61 + m) (((z.1 60 22).toInt16.toInt32).toInt16.toInt32)) 76 1 (z.1 76 1 + 1)) := by
  have e : l1.toNatClampNeg = 61 + m := by
    show l1.toInt.toNat = _
    omega
  unfold b_X12_line_66
  rw [if_pos ⟨by omega, by omega⟩, e]
  rfl
def LNP (q z : SS) (m : Nat) : Prop := Fr wR v0 q z ∧ z.1 60 18 = q.1 60 18 ∧ ((q.1 60 19).toInt ≤ (z.1 60 19).toInt ∧ (z.1 60 19).toInt ≤ (q.1 60 18).toInt) ∧ (0 ≤ (z.1 60 20).toInt ∨ (EN z ∧ LN z (m + 1) ∧ 2 * ((m + 1 : Nat) : Int) ≤ (z.1 60 19).toInt + 1))
theorem bN {a b : Nat} (h : a ≤ b) : Nat.ble a b = true := Nat.ble_eq_true_of_le h
theorem m_line {q : SS} {m : Nat} (e : EN q) (L : LN q m) (hm : 2 * (m : Int) ≤ (q.1 60 19).toInt) : T (f_X12_line q) (fun z => LNP q z m) := by
  have l0 : (0 : Int32).toInt = 0 := rfl
  have l61 : (61 : Int32).toInt = 61 := rfl
  obtain ⟨e1, e2, e3, e4, e5, e6, e7, e8⟩ := id e
  have L1 := L.1
  have hv : ((61 : Int32) + q.1 76 1).toInt = 61 + (m : Int) := by rw [tadd (by omega) (by omega), l61, L1]
  have ev : ((61 : Int32) + q.1 76 1).toNatClampNeg = 61 + m := by
    show ((61 : Int32) + q.1 76 1).toInt.toNat = _
    omega
  have f77 : ∀ (z : SS) (x : Int32), Fr wR v0 q z → Fr wR v0 q (sI z 77 (61 + m) x) := fun z x f => Fr_sI f (by unfold wR; rw [bN (a := 61) (b := 61 + m) (by omega)]; simp)
  have fF : ∀ (z : SS) (x y : Int32), Fr wR v0 q z → Fr wR v0 q (sI (sI z 78 (61 + m) x) 76 1 y) := fun z x y f => Fr_sI (Fr_sI f (by unfold wR; rw [bN (a := 61) (b := 61 + m) (by omega)]; simp)) rfl
  have nn : ∀ a : Int32, 0 ≤ a.toInt → a.toInt < 32768 → (a.toInt16.toInt32).toInt16.toInt32 = a := fun a h0 h => by rw [n16 h0 h, n16 h0 h]
  unfold f_X12_line
  refine T_p (by decide) (T_nm ?_)
  rw [show (1 : Int32).toNatClampNeg = 1 from rfl]
  refine T_vp (by omega) (by omega) (T_nm ?_)
  rw [ev, nn _ e4 (by omega)]
  have en2 : EN (sI q 77 (61 + m) (q.1 60 22)) := e
  refine T_b (m_either en2) (fun r3 g3 => ?_)
  have t3 : r3.1 60 18 = q.1 60 18 := by
    have a := SG_tp g3
    exact a
  have f3 : Fr wR v0 q r3 := Fr_tr (f77 q _ (Fr_refl q)) (Fr_SN g3.1)
  have h3 : (q.1 60 19).toInt ≤ (r3.1 60 19).toInt ∧ (r3.1 60 19).toInt ≤ (q.1 60 18).toInt := g3.2.1
  refine T_le (fun w => ?_) (fun w => ?_)
  · refine T_of (line66 hv (by omega)) ⟨fF _ _ _ f3, t3, h3, Or.inl ?_⟩
    show 0 ≤ (r3.1 60 20).toInt
    omega
  have n3 := SG_no g3 (by omega)
  have d3 := SG_nw g3 n3
  have lt3 : (q.1 60 22).toInt < (r3.1 60 22).toInt := by
    have a := sg_lt g3 n3
    exact a
  have b3 : (r3.1 60 22).toInt + 0 ≤ (q.1 60 22).toInt + ((r3.1 60 19).toInt - (q.1 60 19).toInt) := d3.2.1
  have r76 : r3.1 76 = q.1 76 := by
    have a := Fr_r g3.1 (k := 76) (fun _ => rfl)
    exact a
  have r78 : r3.1 78 = q.1 78 := by
    have a := Fr_r g3.1 (k := 78) (fun _ => rfl)
    exact a
  have r77 : r3.1 77 = (sI q 77 (61 + m) (q.1 60 22)).1 77 := by
    have a := Fr_r g3.1 (k := 77) (fun _ => rfl)
    exact a
  have c3 : ∀ k : Nat, (k : Int) < 130 + (q.1 60 22).toInt → r3.1 74 k = q.1 74 k ∧ r3.1 75 k = q.1 75 k := g3.2.2.2.1
  have v3 : ∀ k : Nat, 130 + (q.1 60 22).toInt ≤ (k : Int) → (k : Int) < 130 + (r3.1 60 22).toInt → (r3.1 74 k).toInt8.toInt32 = r3.1 74 k := g3.2.2.2.2.1
  have s3 : sgU r3 (q.1 60 22).toInt (r3.1 60 22).toInt := d3.2.2
  have e3' : EN r3 := SG_EN en2 g3 n3 (by decide) (by exact ⟨e7, e8⟩)
  have t77 : r3.1 77 (61 + m) = q.1 60 22 := by rw [r77, sI_rd, if_pos ⟨rfl, rfl⟩]
  have l77 : ∀ l : Nat, l < m → r3.1 77 (61 + l) = q.1 77 (61 + l) := fun l hl => by rw [r77, sI_rd, if_neg (fun h => by have := h.2; omega)]
  have fin3 : T (b_X12_line_66 r3 ((61 : Int32) + q.1 76 1)) (fun z => LNP q z m) := by
    refine T_of (line66 hv (by omega)) ⟨fF _ _ _ f3, t3, h3, Or.inr ?_⟩
    exact line_fin L hm e3' r76 r78 l77 c3 v3 (by omega) e4 (by rw [t77]; omega) (by rw [t77]; omega) (by rw [t77]; exact s3) (fun h => absurd (by rw [t77]) h) (nn _ (by omega) (by omega))
  obtain ⟨v, hv3, hl3⟩ := mk_look r3 e3'.1 e3'.2.2.1
  refine T_rw hv3 (T_eq (fun ev3 => T_nm ?_) (fun _ => fin3))
  have lt : (r3.1 60 19).toInt < (r3.1 60 18).toInt := hl3 (by rw [ev3]; decide)
  have g7 := SG_hr en2 g3 n3 lt
  have e7' : EN (sI r3 60 19 (r3.1 60 19 + 1)) := SG_EN en2 g7 n3 (by decide) (by exact ⟨e7, e8⟩)
  refine T_vp (by omega) (by omega) (T_nm ?_)
  show T ((f_X12_either (sI (sI r3 60 19 (r3.1 60 19 + 1)) 77 (61 + m) (((r3.1 60 22).toInt16.toInt32).toInt16.toInt32))).bind _) _
  rw [nn _ (by omega) (by omega)]
  have e8' : EN (sI (sI r3 60 19 (r3.1 60 19 + 1)) 77 (61 + m) (r3.1 60 22)) := e7'
  refine T_b (m_either e8') (fun r9 g9 => ?_)
  have t9 : r9.1 60 18 = q.1 60 18 := by
    have a := SG_tp g9
    have b : r9.1 60 18 = r3.1 60 18 := a
    exact b.trans t3
  have f9 : Fr wR v0 q r9 := Fr_tr (f77 _ _ (Fr_sI f3 rfl)) (Fr_SN g9.1)
  have i3 : (r3.1 60 19 + 1).toInt = (r3.1 60 19).toInt + 1 := inc1 (by omega) (by omega)
  have h9 : (r3.1 60 19 + 1).toInt ≤ (r9.1 60 19).toInt ∧ (r9.1 60 19).toInt ≤ (r3.1 60 18).toInt := g9.2.1
  have t3' : (r3.1 60 18).toInt = (q.1 60 18).toInt := congrArg Int32.toInt t3
  refine T_of (line66 hv (by omega)) ⟨fF _ _ _ f9, t9, ?_, ?_⟩
  · show (q.1 60 19).toInt ≤ (r9.1 60 19).toInt ∧ (r9.1 60 19).toInt ≤ (q.1 60 18).toInt
    omega
  by_cases w9 : 0 ≤ (r9.1 60 20).toInt
  · exact Or.inl w9
  refine Or.inr ?_
  have n9 := SG_no g9 (by omega)
  have d9 := SG_nw g9 n9
  have lt9 : (r3.1 60 22).toInt < (r9.1 60 22).toInt := by
    have a := sg_lt g9 n9
    exact a
  have b9 : (r9.1 60 22).toInt + 0 ≤ (r3.1 60 22).toInt + ((r9.1 60 19).toInt - (r3.1 60 19 + 1).toInt) := d9.2.1
  have q76 : r9.1 76 = r3.1 76 := by
    have a := Fr_r g9.1 (k := 76) (fun _ => rfl)
    exact a
  have q78 : r9.1 78 = r3.1 78 := by
    have a := Fr_r g9.1 (k := 78) (fun _ => rfl)
    exact a
  have q77 : r9.1 77 = (sI (sI r3 60 19 (r3.1 60 19 + 1)) 77 (61 + m) (r3.1 60 22)).1 77 := by
    have a := Fr_r g9.1 (k := 77) (fun _ => rfl)
    exact a
  have c9 : ∀ k : Nat, (k : Int) < 130 + (r3.1 60 22).toInt → r9.1 74 k = r3.1 74 k ∧ r9.1 75 k = r3.1 75 k := g9.2.2.2.1
  have v9 : ∀ k : Nat, 130 + (r3.1 60 22).toInt ≤ (k : Int) → (k : Int) < 130 + (r9.1 60 22).toInt → (r9.1 74 k).toInt8.toInt32 = r9.1 74 k := g9.2.2.2.2.1
  have s9 : sgU r9 (r3.1 60 22).toInt (r9.1 60 22).toInt := d9.2.2
  have e9' : EN r9 := SG_EN e8' g9 n9 (by decide) (by exact ⟨e3'.2.2.2.2.2.2.1, e3'.2.2.2.2.2.2.2⟩)
  have u77 : r9.1 77 (61 + m) = r3.1 60 22 := by rw [q77, sI_rd, if_pos ⟨rfl, rfl⟩]
  have k77 : ∀ l : Nat, l < m → r9.1 77 (61 + l) = q.1 77 (61 + l) := fun l hl => by
    rw [q77, sI_rd, if_neg (fun h => by have := h.2; omega)]
    exact l77 l hl
  exact line_fin L hm e9' (q76.trans r76) (q78.trans r78) k77 (fun k hk => ⟨(c9 k (by omega)).1.trans (c3 k hk).1, (c9 k (by omega)).2.trans (c3 k hk).2⟩) (fun k h1 h2 => by
    by_cases c : (k : Int) < 130 + (r3.1 60 22).toInt
    · rw [(c9 k c).1]
      exact v3 k h1 c
    · exact v9 k (by omega) h2) (by omega) e4 (by rw [u77]; omega) (by rw [u77]; omega) (by rw [u77]; exact s9) (fun _ => by rw [u77]; exact sgU_c e4 (Int.le_refl _) c9 s3) (nn _ (by omega) (by omega))

/-! ===== elements ===== -/
theorem m_why {q : SS} {a : Int32} (c : 0 ≤ a.toInt ∧ a.toInt < 6) (h90 : 0 ≤ (q.1 90 a.toNatClampNeg).toInt) (i : Int32) : f_X12_whyNoPlace q a i = some (if q.1 89 a.toNatClampNeg = -1 then -11 else if (q.1 89 a.toNatClampNeg).toInt < 0 then (if 0 ≤ i.toInt ∧ i.toInt < (q.1 90 a.toNatClampNeg).toInt then 0 else -13) else -12) := by
  unfold f_X12_whyNoPlace
  simp only [m_isShelf, bind_s, bI_0, m_in, dec1 h90, Int32.reduceToInt, Int32.lt_iff_toInt_lt, vin]
  grind
/-- what is told of an element's place, on both sides -/
theorem whyX {q : SS} (h : RS q) {a : Int32} (c : 0 ≤ a.toInt ∧ a.toInt < 6) (i : Int32) : f_X7_refusalOfElement q a i = f_X12_whyNoPlace q a i := by
  have hs := cnL c.1 c.2
  have hz := RS_size0 h _ hs
  have hk := RS_shelf h _ hs
  have e90 : q.1 28 a.toNatClampNeg = q.1 90 a.toNatClampNeg := congrFun (RS_size h) _
  rw [m_why c hz.1]
  unfold f_X7_refusalOfElement
  rw [x_refRow, bind_s, if_pos c]
  rcases hk with ⟨k1, k2⟩ | ⟨k1, k2, k3, k4⟩ | ⟨k1, k2, k3⟩
  · rw [if_pos k1, if_pos k2]
    rfl
  · have n2 : ¬ q.1 27 a.toNatClampNeg = -2 := by rw [k1]; decide
    have n3 : ¬ (0 ≤ (q.1 27 a.toNatClampNeg).toInt ∧ (q.1 27 a.toNatClampNeg).toInt ≤ 4) := by rw [k1]; decide
    have n4 : ¬ q.1 89 a.toNatClampNeg = -1 := by rintro k; rw [k] at k3; exact absurd k3 (by decide)
    rw [if_neg n2, if_neg n3, if_neg n4, if_neg (show ¬ (q.1 89 a.toNatClampNeg).toInt < 0 by omega)]
    rfl
  · have k4 : ¬ q.1 27 a.toNatClampNeg = -2 := by rintro k; rw [k] at k1; exact absurd k1 (by decide)
    have k5 : ¬ q.1 89 a.toNatClampNeg = -1 := by rintro k; rw [k] at k3; have := lm1; omega
    have eR : (if q.1 27 a.toNatClampNeg = -2 then (-11 : Int32) else if 0 ≤ (q.1 27 a.toNatClampNeg).toInt ∧ (q.1 27 a.toNatClampNeg).toInt ≤ 4 then 0 else -12) = 0 := by rw [if_neg k4, if_pos ⟨k1, k2⟩]
    rw [eR, if_pos rfl, if_neg k5, if_pos (show (q.1 89 a.toNatClampNeg).toInt < 0 by omega), x_hasPlaces, bind_s]
    have e : szX q a = (q.1 90 a.toNatClampNeg).toInt := by
      unfold szX
      rw [if_pos ⟨c.1, c.2, k1, k2⟩, e90]
    rw [e]
    have l1 : (1 : Int32).toInt = 1 := rfl
    by_cases g : 0 ≤ i.toInt ∧ i.toInt < (q.1 90 a.toNatClampNeg).toInt
    · rw [if_pos g, if_neg]
      rw [bI_0]
      intro k
      exact k ⟨g.1, by omega, by omega⟩
    · rw [if_neg g, if_pos]
      rw [bI_0]
      omega
theorem whyN (q : SS) {a : Int32} (c : ¬ (0 ≤ a.toInt ∧ a.toInt < 6)) (i : Int32) : f_X7_refusalOfElement q a i = some (-1) ∧ f_X12_whyNoPlace q a i = some (-1) := by
  constructor
  · unfold f_X7_refusalOfElement
    rw [x_refRow, bind_s, if_neg c]
    rfl
  · unfold f_X12_whyNoPlace
    rw [m_isShelf, bind_s, if_pos (bI_0.mpr c)]
/-- the place is there: what holds -/
theorem why0 {q : SS} (h : RS q) {a i : Int32} (c : 0 ≤ a.toInt ∧ a.toInt < 6) (g : f_X12_whyNoPlace q a i = some 0) : (0 ≤ (q.1 27 a.toNatClampNeg).toInt ∧ (q.1 27 a.toNatClampNeg).toInt ≤ 4 ∧ (q.1 89 a.toNatClampNeg).toInt = -2 - (q.1 27 a.toNatClampNeg).toInt) ∧ 0 ≤ i.toInt ∧ i.toInt < (q.1 90 a.toNatClampNeg).toInt := by
  have hs := cnL c.1 c.2
  have hz := RS_size0 h _ hs
  have hk := RS_shelf h _ hs
  rw [m_why c hz.1] at g
  have g := Option.some.inj g
  rcases hk with ⟨k1, k2⟩ | ⟨k1, k2, k3, k4⟩ | ⟨k1, k2, k3⟩
  · rw [if_pos k2] at g
    exact absurd g (by decide)
  · rw [if_neg (by rintro k; rw [k] at k3; exact absurd k3 (by decide)), if_neg (by omega)] at g
    exact absurd g (by decide)
  · refine ⟨⟨k1, k2, k3⟩, ?_⟩
    have k5 : ¬ q.1 89 a.toNatClampNeg = -1 := by rintro k; rw [k] at k3; have := lm1; omega
    rw [if_neg k5, if_pos (by omega)] at g
    by_cases e : 0 ≤ i.toInt ∧ i.toInt < (q.1 90 a.toNatClampNeg).toInt
    · exact e
    · rw [if_neg e] at g
      exact absurd g (by decide)
theorem why_neg {q : SS} (h : RS q) {a i : Int32} (c : 0 ≤ a.toInt ∧ a.toInt < 6) : ∃ v : Int32, f_X12_whyNoPlace q a i = some v ∧ (v = 0 ∨ v.toInt < 0) := by
  have hs := cnL c.1 c.2
  have hz := RS_size0 h _ hs
  rw [m_why c hz.1]
  refine ⟨_, rfl, ?_⟩
  split
  · exact Or.inr (by decide)
  · split
    · split
      · exact Or.inl rfl
      · exact Or.inr (by decide)
    · exact Or.inr (by decide)
def lb (k : Int32) (v : Int64) : Int64 := if k = 0 then ((v.toInt32).toInt8.toInt32).toInt64 else if k = 1 then ((v.toInt32).toInt16.toInt32).toInt64 else if k = 2 then (v.toInt32).toInt64 else if k = 3 then v else if v = 0 then 0 else 1
theorem k04 {w : Int32} (h0 : 0 ≤ w.toInt) (h8 : w.toInt ≤ 4) : w = 0 ∨ w = 1 ∨ w = 2 ∨ w = 3 ∨ w = 4 := by
  simp only [← Int32.toInt_inj, Int32.reduceToInt]
  omega
theorem x_low (q : SS) {k : Int32} (h0 : 0 ≤ k.toInt) (h4 : k.toInt ≤ 4) (v : Int64) : f_X7_lowestBits q k v = some (lb k v) := by
  unfold f_X7_lowestBits lb
  rcases k04 h0 h4 with rfl | rfl | rfl | rfl | rfl
  · rfl
  · rfl
  · rfl
  · rfl
  · show (if lg_cmp v 0 = 0 then some (0 : Int64) else some 1) = some (if v = 0 then 0 else 1)
    by_cases e : v = 0
    · rw [if_pos (lgc_z.mpr e), if_pos e]
    · rw [if_neg (fun g => e (lgc_z.mp g)), if_neg e]
theorem RS_put {q : SS} (h : RS q) {s i : Nat} (hs : s < 6) (hi : i < 60) (x : Int64) : RS (sL (sL q (31 + s) i x) 91 (60 * s + i) x) := by
  obtain ⟨h1, h2, h3, h4⟩ := h
  refine ⟨h1, h2, h3, fun t ht h0 j hj => ?_⟩
  have k := h4 t ht h0 j hj
  have hz := h2 t ht
  have hj' : (j : Int) < (q.1 90 t).toInt := hj
  rw [sL_rd, if_neg (by omega), sL_rd, sL_rd]
  by_cases e : t = s ∧ j = i
  · rw [if_pos (by omega), if_pos (by omega)]
  · rw [if_neg (by omega), if_neg (by omega), sL_rd, if_neg (by omega)]
    exact k
theorem op_put {q : SS} (h : INV q) (a i : Int32) (v : Int64) : T (f_X11_put q a i v) (fun r => T (f_X12_put r.2 a i v) (fun s => INV s.2 ∧ r.1 = s.1)) := by
  have hS := INV_RS h
  unfold f_X11_put
  by_cases c : 0 ≤ a.toInt ∧ a.toInt < 6
  · have hs := cnL c.1 c.2
    have hz := RS_size0 hS _ hs
    obtain ⟨w, hw, hw2⟩ := why_neg hS c (i := i)
    refine T_rw ((whyX hS c i).trans hw) ?_
    rcases hw2 with rfl | hw2
    · obtain ⟨⟨k1, k2, k3⟩, i0, i1⟩ := why0 hS c hw
      have hi := cnL (n := 60) i0 (by omega)
      have e90 : q.1 28 a.toNatClampNeg = q.1 90 a.toNatClampNeg := congrFun (RS_size hS) _
      have e : szX q a = (q.1 90 a.toNatClampNeg).toInt := by
        unfold szX
        rw [if_pos ⟨c.1, c.2, k1, k2⟩, e90]
      refine T_p rfl ?_
      unfold f_X7_set
      have l1 : (1 : Int32).toInt = 1 := rfl
      refine T_b (T_rw (x_isRow q a) (T_bp ⟨c.1, c.2, k1, k2⟩ (T_rw (x_hasPlaces q a i 1) (T_bp ⟨i0, by omega, by rw [e]; omega⟩ (T_vp c.1 c.2 (T_vp c.1 c.2 (T_rw (x_low q k1 k2 v) (T_vp i0 (by show i.toInt < 60; omega) (T_nm (T_some.mpr (Eq.refl _))))))))))) (fun r hr => ?_)
      subst hr
      refine T_some.mpr ?_
      unfold f_X12_put
      have hw' : f_X12_whyNoPlace (sL q (31 + a.toNatClampNeg) i.toNatClampNeg (lb (q.1 27 a.toNatClampNeg) v)) a i = some 0 := hw
      have ev : -2 - q.1 89 a.toNatClampNeg = q.1 27 a.toNatClampNeg := Int32.toInt_inj.mp (by rw [tsub (by rw [lm2]; omega) (by rw [lm2]; omega), lm2]; omega)
      have em := mul60 c (b := i) (by omega)
      have ec : ((60 : Int32) * a + i).toNatClampNeg = 60 * a.toNatClampNeg + i.toNatClampNeg := by
        simp only [cn_eq, em]
        omega
      refine T_rw hw' (T_p (by decide) (T_vp c.1 c.2 (T_nm ?_)))
      have ev2 : -2 - (sL q (31 + a.toNatClampNeg) i.toNatClampNeg (lb (q.1 27 a.toNatClampNeg) v)).1 89 a.toNatClampNeg = q.1 27 a.toNatClampNeg := ev
      rw [ev2]
      have fin : ∀ x, x = lb (q.1 27 a.toNatClampNeg) v → T (b_X12_put_95 (sL q (31 + a.toNatClampNeg) i.toNatClampNeg (lb (q.1 27 a.toNatClampNeg) v)) x ((60 : Int32) * a + i)) (fun s => INV s.2 ∧ (1 : Int32) = s.1) := by
        rintro x rfl
        unfold b_X12_put_95
        refine T_vp (by omega) (by show ((60 : Int32) * a + i).toInt < 360; omega) (T_nm (T_some.mpr ⟨?_, rfl⟩))
        rw [ec]
        exact ⟨RY_fr (q := q) rfl rfl rfl rfl rfl rfl rfl rfl rfl rfl rfl rfl rfl rfl rfl rfl rfl rfl rfl rfl rfl rfl (INV_RY h), RC_fr (q := q) rfl rfl rfl rfl rfl rfl rfl rfl rfl rfl rfl rfl rfl rfl (INV_RC h), RD_fr (q := q) rfl rfl rfl rfl rfl rfl rfl rfl rfl rfl rfl rfl rfl rfl rfl rfl (INV_RD h), RT_fr (q := q) rfl rfl rfl rfl (INV_RT h), RH_fr (q := q) rfl rfl rfl rfl rfl rfl rfl rfl (INV_RH h), RS_put hS hs hi _, RW_fr (q := q) rfl rfl rfl rfl rfl rfl (INV_RW h), RJ_fr (q := q) rfl rfl (INV_RJ h)⟩
      rcases k04 k1 k2 with e | e | e | e | e
      · exact T_p e (fin _ (by rw [e]; rfl))
      · exact T_q (by rw [e]; decide) (T_p e (fin _ (by rw [e]; rfl)))
      · exact T_q (by rw [e]; decide) (T_q (by rw [e]; decide) (T_p e (fin _ (by rw [e]; rfl))))
      · exact T_q (by rw [e]; decide) (T_q (by rw [e]; decide) (T_q (by rw [e]; decide) (T_p e (fin _ (by rw [e]; rfl)))))
      · refine T_q (by rw [e]; decide) (T_q (by rw [e]; decide) (T_q (by rw [e]; decide) (T_q (by rw [e]; decide) ?_)))
        by_cases g : v = 0
        · exact T_p (lgc_z.mpr g) (fin _ (by rw [e, g]; rfl))
        · refine T_q (fun k => g (lgc_z.mp k)) (fin _ ?_)
          rw [e]
          show (1 : Int64) = if v = 0 then 0 else 1
          rw [if_neg g]
    · refine T_q (by rintro rfl; exact absurd hw2 (by decide)) (T_some.mpr ?_)
      unfold f_X12_put
      exact T_rw hw (T_len (by show w.toInt < 0; exact hw2) (T_some.mpr ⟨h, rfl⟩))
  · refine T_rw (whyN q c i).1 (T_q (by decide) (T_some.mpr ?_))
    unfold f_X12_put
    exact T_rw (whyN q c i).2 (T_q (by decide) (T_some.mpr ⟨h, rfl⟩))
theorem op_element {q : SS} (h : INV q) (a i : Int32) : T (f_X11_element q a i) (fun r => T (f_X12_element q a i) (fun s => r = s)) := by
  have hS := INV_RS h
  unfold f_X11_element
  by_cases c : 0 ≤ a.toInt ∧ a.toInt < 6
  · have hs := cnL c.1 c.2
    have hz := RS_size0 hS _ hs
    obtain ⟨w, hw, hw2⟩ := why_neg hS c (i := i)
    refine T_rw ((whyX hS c i).trans hw) ?_
    rcases hw2 with rfl | hw2
    · obtain ⟨⟨k1, k2, k3⟩, i0, i1⟩ := why0 hS c hw
      have e90 : q.1 28 a.toNatClampNeg = q.1 90 a.toNatClampNeg := congrFun (RS_size hS) _
      have e : szX q a = (q.1 90 a.toNatClampNeg).toInt := by
        unfold szX
        rw [if_pos ⟨c.1, c.2, k1, k2⟩, e90]
      have em := mul60 c (b := i) (by omega)
      have ec : ((60 : Int32) * a + i).toNatClampNeg = 60 * a.toNatClampNeg + i.toNatClampNeg := by
        simp only [cn_eq, em]
        omega
      refine T_p rfl (T_rw (x_get7 q a i (by rw [e]; exact hz.2)) (T_some.mpr ?_))
      rw [if_pos ⟨i0, by rw [e]; exact i1⟩]
      unfold f_X12_element
      refine T_rw hw (T_p (by decide) (T_vp (by omega) (by show ((60 : Int32) * a + i).toInt < 360; omega) (T_some.mpr ?_)))
      rw [ec]
      exact RS_el hS _ hs k1 _ (by have := cnI i0; omega)
    · refine T_q (by rintro rfl; exact absurd hw2 (by decide)) (T_some.mpr ?_)
      unfold f_X12_element
      exact T_rw hw (T_len (by show w.toInt < 0; exact hw2) (T_some.mpr rfl))
  · refine T_rw (whyN q c i).1 (T_q (by decide) (T_some.mpr ?_))
    unfold f_X12_element
    exact T_rw (whyN q c i).2 (T_q (by decide) (T_some.mpr rfl))

/-! ===== the law told: the two stores stay alike ===== -/
theorem RLW_low {q q' : SS} (h : RLW q) (hW : RW q) (e12 : q'.1 12 4 = q.1 12 4) (e13 : q'.1 13 = q.1 13) (e14 : q'.1 14 = q.1 14) (e30 : q'.1 60 30 = q.1 60 30) (e76 : q'.1 76 0 = q.1 76 0) (e74 : ∀ k : Nat, k < 130 → q'.1 74 k = q.1 74 k ∧ q'.1 75 k = q.1 75 k) (e77 : ∀ l : Nat, l < 61 → q'.1 77 l = q.1 77 l ∧ q'.1 78 l = q.1 78 l) : RLW q' := by
  rcases h with ⟨h1, h2⟩ | ⟨h1, h2, h3, cs, c0, c1, c2⟩
  · exact Or.inl ⟨by rw [e30]; exact h1, by rw [e12]; exact h2⟩
  · refine Or.inr ⟨by rw [e30]; exact h1, by rw [e12]; exact h2, by rw [e12]; exact h3, cs, c0, by rw [e76, e12]; exact c1, fun l hl => ?_⟩
    rw [e76] at hl
    have hm := RW_m hW h1
    obtain ⟨s0, st, te, e130, _⟩ := RW_line hW h1 l hl
    have sl : sLo q' l = sLo q l := by
      unfold sLo
      by_cases c : l = 0
      · rw [if_pos c, if_pos c]
      · rw [if_neg c, if_neg c, (e77 (l - 1) (by omega)).2]
    rw [sl, (e77 l (by omega)).1, (e77 l (by omega)).2, e13, e14]
    have L := c2 l hl
    refine lineAl_c (u := 0) (by rw [Int.zero_add, Int.zero_add, Int.zero_add]; exact L) s0 st te (by omega) (fun k _ => ⟨rfl, rfl⟩) (fun k hk => ?_)
    rw [show (0 : Int).toNat + k = k by omega]
    exact e74 k (by omega)
theorem RLW_K {q q' : SS} (f : Fr wK vK q q') (hW : RW q) (h : RLW q) : RLW q' := by
  have e74 : q'.1 74 = q.1 74 := Fr_r f (fun _ => rfl)
  have e75 : q'.1 75 = q.1 75 := Fr_r f (fun _ => rfl)
  have e77 : q'.1 77 = q.1 77 := Fr_r f (fun _ => rfl)
  have e78 : q'.1 78 = q.1 78 := Fr_r f (fun _ => rfl)
  exact RLW_low h hW (f.1 12 4 rfl) (Fr_r f (fun _ => rfl)) (Fr_r f (fun _ => rfl)) (f.1 60 30 rfl) (f.1 76 0 rfl) (fun k _ => ⟨by rw [e74], by rw [e75]⟩) (fun k _ => ⟨by rw [e77], by rw [e78]⟩)
theorem wR_lo {a i : Nat} (h : (a = 74 ∧ i < 130) ∨ (a = 75 ∧ i < 130) ∨ (a = 77 ∧ i < 61) ∨ (a = 78 ∧ i < 61)) : wR a i = false := by
  rcases h with ⟨rfl, c⟩ | ⟨rfl, c⟩ | ⟨rfl, c⟩ | ⟨rfl, c⟩
  · have : Nat.ble 130 i = false := by
      cases g : Nat.ble 130 i
      · rfl
      · exact absurd (Nat.le_of_ble_eq_true g) (by omega)
    unfold wR
    rw [this]
    simp
  · have : Nat.ble 130 i = false := by
      cases g : Nat.ble 130 i
      · rfl
      · exact absurd (Nat.le_of_ble_eq_true g) (by omega)
    unfold wR
    rw [this]
    simp
  · have : Nat.ble 61 i = false := by
      cases g : Nat.ble 61 i
      · rfl
      · exact absurd (Nat.le_of_ble_eq_true g) (by omega)
    unfold wR
    rw [this]
    simp
  · have : Nat.ble 61 i = false := by
      cases g : Nat.ble 61 i
      · rfl
      · exact absurd (Nat.le_of_ble_eq_true g) (by omega)
    unfold wR
    rw [this]
    simp
theorem opw_law {q : SS} (h : INV q) (w : RLW q) : T (f_X11_law q) (fun r => T (f_X12_law r.2) (fun s => (INV s.2 ∧ RLW s.2) ∧ r.1 = s.1)) := by
  have l0 : (0 : Int32).toInt = 0 := rfl
  have hT := INV_RT h
  obtain ⟨r, hr, s, hs, hI, hrs⟩ := opq_law h
  refine ⟨r, hr, s, hs, ⟨hI, ?_⟩, hrs⟩
  obtain ⟨r', hr', y, hy, fy, e⟩ := xo_law h
  rw [hr] at hr'
  cases hr'
  rw [e] at hs
  have e73 : (sI y 17 2 0).1 73 = q.1 73 := by
    have a : y.1 73 = q.1 73 := Fr_r fy (fun _ => rfl)
    exact a
  have e18 : (sI y 17 2 0).1 60 18 = q.1 60 18 := fy.1 60 18 rfl
  obtain ⟨a, b, ha, hb, hab, hF⟩ := sim_text2 hT e73 e18
  have hP := T_un (m_readText (q := sI y 17 2 0) (by have a := RT_l0 (INV_RT hy); exact a) (by have a := RT_l120 (INV_RT hy); exact a)) hb
  have hK := k_f_X5_readText q q (Fr_refl q) a ha
  have hX := T_un (x_readText q) ha
  -- the model's cells behind the class's reading are those of before
  have ym : ∀ k i : Nat, wL k i = false → y.1 k i = q.1 k i := fun k i c => fy.1 k i c
  unfold f_X11_law at hr
  unfold f_X12_law at hs
  rw [ha, bind_s] at hr
  rw [hb, bind_s] at hs
  by_cases c : 0 ≤ a.1
  · rw [if_pos c] at hr
    have c' := Int32.le_iff_toInt_le.mp c
    rw [if_neg (fun e => by rw [← hab] at e; have := Int32.lt_iff_toInt_lt.mp e; omega)] at hs
    have hr' : (if 0 ≤ a.1 then some (((-100 : Int32) - a.1), sI a.2 17 2 0) else some ((1 : Int32), sI a.2 17 2 0)) = some r := hr
    rw [if_pos c] at hr'
    have er : r.2 = sI a.2 17 2 0 := (congrArg Prod.snd (Option.some.inj hr')).symm
    have es : s.2 = b.2 := (congrArg Prod.snd (Option.some.inj hs)).symm
    rw [er] at e
    have hb1 : ¬ b.1 = -1 := fun x => by
      rw [hab, x] at c'
      exact absurd c' (by decide)
    have fb : Fr wR v0 (sI y 17 2 0) b.2 := by
      rcases hP with ⟨_, f, _⟩ | ⟨x, _⟩
      · exact f
      · exact absurd x hb1
    rw [es]
    -- cells of the class's law, seen through both
    have y12 : (sI y 17 2 0).1 12 4 = q.1 12 4 := by
      rw [← e]
      have x : a.2.1 12 4 = q.1 12 4 := hK.1 12 4 rfl
      exact x
    have y13 : (sI y 17 2 0).1 13 = q.1 13 := by
      rw [← e]
      have x : a.2.1 13 = q.1 13 := Fr_r hK (fun _ => rfl)
      exact x
    have y14 : (sI y 17 2 0).1 14 = q.1 14 := by
      rw [← e]
      have x : a.2.1 14 = q.1 14 := Fr_r hK (fun _ => rfl)
      exact x
    have b13 : b.2.1 13 = (sI y 17 2 0).1 13 := Fr_r fb (fun _ => rfl)
    have b14 : b.2.1 14 = (sI y 17 2 0).1 14 := Fr_r fb (fun _ => rfl)
    refine RLW_low w (INV_RW h) ((fb.1 12 4 rfl).trans y12) (b13.trans y13) (b14.trans y14) ((fb.1 60 30 rfl).trans (ym 60 30 rfl)) ((fb.1 76 0 rfl).trans (ym 76 0 rfl)) (fun k hk => ⟨(fb.1 74 k (wR_lo (Or.inl ⟨rfl, hk⟩))).trans (ym 74 k rfl), (fb.1 75 k (wR_lo (Or.inr (Or.inl ⟨rfl, hk⟩)))).trans (ym 75 k rfl)⟩) (fun k hk => ⟨(fb.1 77 k (wR_lo (Or.inr (Or.inr (Or.inl ⟨rfl, hk⟩))))).trans (ym 77 k rfl), (fb.1 78 k (wR_lo (Or.inr (Or.inr (Or.inr ⟨rfl, hk⟩))))).trans (ym 78 k rfl)⟩)
  · rw [if_neg c] at hr
    have c' := Int32.lt_iff_toInt_lt.mp (Int32.not_le.mp c)
    rw [if_pos (by rw [← hab]; exact Int32.not_le.mp c)] at hs
    have hs' : (some ((1 : Int32), sI b.2 60 30 1)) = some s := hs
    have es : s.2 = sI b.2 60 30 1 := (congrArg Prod.snd (Option.some.inj hs')).symm
    have hb1 : b.1 = -1 ∧ Fr wU v0 (sI y 17 2 0) b.2 := by
      rcases hP with ⟨x, _⟩ | ⟨x, f, _⟩
      · rw [← hab] at x
        exact absurd x (by omega)
      · exact ⟨x, f⟩
    obtain ⟨n1, n2, cs, c0, cm, hl⟩ := hF (hab.trans hb1.1)
    have hr' : ((f_X4_become a.2).bind fun r4 => b_X11_law_26 r4 a.1) = some r := hr
    have k : ∀ x : SS, b_X11_law_26 x a.1 = some (1, sI x 17 2 0) := fun x => by
      unfold b_X11_law_26 f_X5_emptyTape
      show (if 0 ≤ a.1 then _ else some ((1 : Int32), sI x 17 2 0)) = _
      rw [if_neg c]
    have hbe : T (f_X4_become a.2) (fun x => x.1 12 4 = a.2.1 19 4 ∧ (∀ k : Nat, k < 121 → x.1 13 k = a.2.1 20 k ∧ x.1 14 k = a.2.1 21 k)) := by
      unfold f_X4_become
      have cc : cpok 121 121 (0 : Int32) (0 : Int32) (121 : Int32) := by decide
      refine T_nm (T_p cc (T_nm (T_p cc (T_nm (T_some.mpr ⟨?_, fun k hk => ⟨?_, ?_⟩⟩)))))
      · rw [sR_ro (by decide), sR_ro (by decide), sI_rd, if_pos ⟨rfl, rfl⟩]
      · rw [sR_ro (by decide), sR_rd, if_pos rfl]
        unfold va_cpy
        rw [if_pos ⟨by show 0 ≤ k; omega, by show k < 0 + 121; omega⟩, sI_ro (by decide)]
        show a.2.1 20 (0 + (k - 0)) = a.2.1 20 k
        rw [show 0 + (k - 0) = k by omega]
      · rw [sR_rd, if_pos rfl]
        unfold va_cpy
        rw [if_pos ⟨by show 0 ≤ k; omega, by show k < 0 + 121; omega⟩, sR_ro (by decide), sI_ro (by decide)]
        show a.2.1 21 (0 + (k - 0)) = a.2.1 21 k
        rw [show 0 + (k - 0) = k by omega]
    obtain ⟨x, hx, x12, x13⟩ := hbe
    rw [hx, bind_s, k] at hr'
    have er : r.2 = sI x 17 2 0 := (congrArg Prod.snd (Option.some.inj hr')).symm
    rw [er] at e
    have z12 : s.2.1 12 4 = a.2.1 19 4 := by
      rw [es]
      show b.2.1 12 4 = _
      rw [hb1.2.1 12 4 rfl, ← e]
      exact x12
    have z13 : s.2.1 13 = x.1 13 := by
      rw [es]
      show b.2.1 13 = _
      rw [Fr_r hb1.2 (k := 13) (fun _ => rfl), ← e]
      exact sI_ro (by decide)
    have z14 : s.2.1 14 = x.1 14 := by
      rw [es]
      show b.2.1 14 = _
      rw [Fr_r hb1.2 (k := 14) (fun _ => rfl), ← e]
      exact sI_ro (by decide)
    have z76 : s.2.1 76 0 = b.2.1 76 0 := by rw [es]; rfl
    have z30 : s.2.1 60 30 = 1 := by rw [es]; rfl
    refine Or.inr ⟨z30, by rw [z12]; exact n1, by rw [z12]; exact n2, cs, c0, by rw [z76, z12]; exact cm, fun l hlm => ?_⟩
    rw [z76] at hlm
    have L := hl l hlm
    obtain ⟨s0, st, te, e130, _⟩ := RW_line (INV_RW hI) z30 l (by rw [z76]; exact hlm)
    have e74 : s.2.1 74 = b.2.1 74 := by rw [es]; exact sI_ro (by decide)
    have e75 : s.2.1 75 = b.2.1 75 := by rw [es]; exact sI_ro (by decide)
    have e77 : s.2.1 77 = b.2.1 77 := by rw [es]; exact sI_ro (by decide)
    have e78 : s.2.1 78 = b.2.1 78 := by rw [es]; exact sI_ro (by decide)
    have sl : sLo s.2 l = sLo b.2 l := by
      unfold sLo
      rw [e78]
    have s0' : 0 ≤ sLo s.2 l := s0
    have st' : sLo s.2 l ≤ (s.2.1 77 l).toInt := st
    rw [sl] at s0' st'
    rw [sl, e77, e78, e74, e75, z13, z14]
    rw [e77] at st'
    rw [e77, e78] at te
    have cl : cs (l + 1) ≤ 121 := by
      have mono : ∀ j : Nat, ((l + 1 + j : Nat) : Int) ≤ (b.2.1 76 0).toInt → cs (l + 1) ≤ cs (l + 1 + j) := by
        intro j
        induction j with
        | zero => intro _; exact Nat.le_refl _
        | succ j ih =>
          intro hj
          have t := lineAl_lt (hl (l + 1 + j) (by omega))
          rw [show l + 1 + j + 1 = l + 1 + (j + 1) by omega] at t
          have := ih (by omega)
          omega
      have := mono ((b.2.1 76 0).toInt.toNat - (l + 1)) (by omega)
      rw [show l + 1 + ((b.2.1 76 0).toInt.toNat - (l + 1)) = (b.2.1 76 0).toInt.toNat by omega] at this
      omega
    refine lineAl_c (u := 0) (by rw [Int.zero_add, Int.zero_add, Int.zero_add]; exact L) s0' st' te (by omega) (fun k hk => x13 k (by omega)) (fun k hk => ?_)
    rw [show (0 : Int).toNat + k = k by omega]
    exact ⟨rfl, rfl⟩
/-- every other call leaves the two stores alike -/
theorem T_lift {α β : Type} {q : SS} {o1 : Option (α × SS)} {g : α × SS → Option (β × SS)} {Q : α × SS → β × SS → Prop} (h : INV q) (w : RLW q) (t : T o1 (fun r => T (g r) (fun s => INV s.2 ∧ Q r s))) (k1 : KO q o1 (fun r => r.2)) (k2 : ∀ r, KO r.2 (g r) (fun r => r.2)) : T o1 (fun r => T (g r) (fun s => (INV s.2 ∧ RLW s.2) ∧ Q r s)) := by
  obtain ⟨r, hr, s, hs, hI, hQ⟩ := t
  have f : Fr wK vK q s.2 := Fr_tr (k1 r hr) (k2 r s hs)
  exact ⟨r, hr, s, hs, ⟨hI, RLW_K f (INV_RW h) w⟩, hQ⟩
theorem RLW_M : RLW (qof σM) := Or.inl (by decide +kernel)

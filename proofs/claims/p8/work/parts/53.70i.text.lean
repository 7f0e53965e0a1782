/-! ===== a text on either side, and the law's answer ===== -/
theorem T2_fx32 {A0 A1 A2 B0 B1 α β : Type} {R : α → β → Prop} {F : (A0 → A1 → A2 → Option α) → A0 → A1 → A2 → Option α} {G : (B0 → B1 → Option β) → B0 → B1 → Option β} (I : A0 → A1 → A2 → B0 → B1 → Prop) (μ : B0 → Nat) (h : ∀ rf rg a0 a1 a2 b0 b1, I a0 a1 a2 b0 b1 → (∀ c0 c1 c2 d0 d1, I c0 c1 c2 d0 d1 → μ d0 < μ b0 → T2 (rf c0 c1 c2) (rg d0 d1) R) → T2 (F rf a0 a1 a2) (G rg b0 b1) R) : ∀ n m a0 a1 a2 b0 b1, I a0 a1 a2 b0 b1 → μ b0 < n → μ b0 < m → T2 (fx3 F n a0 a1 a2) (fx2 G m b0 b1) R
  | 0, _, _, _, _, _, _, _, hm, _ => absurd hm (Nat.not_lt_zero _)
  | _ + 1, 0, _, _, _, _, _, _, _, hm => absurd hm (Nat.not_lt_zero _)
  | n + 1, m + 1, a0, a1, a2, b0, b1, hI, h1, h2 => h _ _ a0 a1 a2 b0 b1 hI (fun c0 c1 c2 d0 d1 hb hl => T2_fx32 I μ h n m c0 c1 c2 d0 d1 hb (by omega) (by omega))
theorem m_86w {s : SS} (w : 0 ≤ (s.1 60 20).toInt) : b_X12_readText_86 s 0 = some (s.1 60 20, sI s 60 18 0) := by
  have l0 : (0 : Int32).toInt = 0 := rfl
  unfold b_X12_readText_86
  show (if s.1 60 20 < 0 then _ else some (s.1 60 20, sI s 60 18 0)) = _
  rw [if_neg (fun e => by have := Int32.lt_iff_toInt_lt.mp e; omega)]
theorem m_86n {s : SS} {m : Nat} (e : EN s) (L : LN s m) (hm : 2 * (m : Int) ≤ (s.1 60 19).toInt + 1) : T (b_X12_readText_86 s 0) (fun r => r.1 = -1) := by
  obtain ⟨e1, e2, e3, e4, e5, e6, _, _⟩ := e
  unfold b_X12_readText_86
  exact T_nm (T_p (by show s.1 60 20 < 0; rw [e6]; decide) (T_mono (m_105 (y := sI s 60 18 0) (m := m) L e4 (by show (s.1 60 22).toInt ≤ 121; omega) (by omega)) (fun r hr => hr.1)))
theorem sim_text {q zz : SS} (hT : RT q) (e73 : zz.1 73 = q.1 73) (e18 : zz.1 60 18 = q.1 60 18) : T2 (f_X5_readText q) (f_X12_readText zz 0) (fun r s => r.1 = s.1) := by
  have l0 : (0 : Int32).toInt = 0 := rfl
  have l120 : (120 : Int32).toInt = 120 := rfl
  have z1 : (1 : Int32).toNatClampNeg = 1 := rfl
  have t0 := RT_l0 hT
  have t120 := RT_l120 hT
  have tz : (zz.1 60 18).toInt = (q.1 60 18).toInt := congrArg Int32.toInt e18
  unfold f_X5_readText f_X12_readText f_X4_clear
  refine T2_nl (T2_le rfl (T2_nr (T2_nr (T2_nr (T2_nr (T2_pr (by decide) (T2_nr ?_)))))))
  rw [z1]
  have e0 : EN (sI (sI (sI (sI (sI zz 60 19 0) 60 20 (-1)) 60 21 0) 60 22 0) 76 1 0) := ⟨Int.le_refl 0, by show (0 : Int) ≤ (zz.1 60 18).toInt; omega, by show (zz.1 60 18).toInt ≤ 120; omega, Int.le_refl 0, Int.le_refl 0, rfl, Int.le_refl 0, (by decide : (0 : Int) ≤ 6)⟩
  have L0 : LN (sI (sI (sI (sI (sI zz 60 19 0) 60 20 (-1)) 60 21 0) 60 22 0) 76 1 0) 0 := ⟨rfl, rfl, fun k k1 k2 => absurd k2 (by show ¬ ((k : Int) < 130 + 0); omega), fun l hl => absurd hl (by omega)⟩
  have x0 : XL q (sI (sI q 17 3 0) 19 4 0) := ⟨Fr_sI (Fr_sI (Fr_refl q) rfl) rfl, by show (0 : Int) ≤ 0; omega, by show (0 : Int) ≤ 121; omega⟩
  have A0 : AQ q (sI (sI q 17 3 0) 19 4 0) (sI (sI (sI (sI (sI zz 60 19 0) 60 20 (-1)) 60 21 0) 60 22 0) 76 1 0) := ⟨x0, e73, e18, e0, rfl, Int.le_refl 0⟩
  have o0 : (sI (sI (sI (sI (sI zz 60 19 0) 60 20 (-1)) 60 21 0) 60 22 0) 76 1 0).1 60 21 = 0 := rfl
  have h00 : (sI (sI (sI (sI (sI zz 60 19 0) 60 20 (-1)) 60 21 0) 60 22 0) 76 1 0).1 60 19 = 0 := rfl
  generalize (sI (sI (sI (sI (sI zz 60 19 0) 60 20 (-1)) 60 21 0) 60 22 0) 76 1 0) = z5 at e0 L0 A0 o0 h00 ⊢
  have hh0 : (z5.1 60 19).toInt = 0 := congrArg Int32.toInt h00
  refine T2_bb (T2_ar (T2_al (sim_line hT A0 o0 L0 (by omega)) (x_readLine x0)) (m_line e0 L0 (by omega))) (fun r3 r6 h6 => ?_)
  obtain ⟨⟨hR, hX, _⟩, f6, t6, ⟨p60, p61⟩, c6⟩ := h6
  have tq6 : r6.1 60 18 = q.1 60 18 := t6.trans A0.2.2.1
  have e736 : r6.1 73 = q.1 73 := (Fr_r f6 (fun _ => rfl)).trans A0.2.1
  have tz5 : (z5.1 60 18).toInt = (q.1 60 18).toInt := congrArg Int32.toInt A0.2.2.1
  unfold b_X5_readText_19 b_X12_readText_31
  refine T2_fx32 (fun y1 l1 l2 s k1 => k1 = 0 ∧ 0 ≤ l2.toInt ∧ l2.toInt ≤ 120 ∧ XL q y1 ∧ s.1 73 = q.1 73 ∧ s.1 60 18 = q.1 60 18 ∧ 0 ≤ (s.1 60 19).toInt ∧ (s.1 60 19).toInt ≤ (q.1 60 18).toInt ∧ ((s.1 60 20 = -1 ∧ l1 = 1 ∧ y1.1 17 3 = s.1 60 19 ∧ (y1.1 19 4).toInt ≤ (s.1 60 19).toInt + 1 ∧ l2.toInt ≤ (s.1 60 19).toInt ∧ s.1 60 21 = 0 ∧ ∃ m : Nat, EN s ∧ LN s m ∧ 2 * (m : Int) ≤ (s.1 60 19).toInt + 1) ∨ (0 ≤ (s.1 60 20).toInt ∧ y1.1 17 3 = s.1 60 20 ∧ (l1 = 0 ∨ (l1 = 1 ∧ dig (CH q (s.1 60 20).toInt)))))) (fun s => ((q.1 60 18).toInt - (s.1 60 19).toInt).toNat) ?_ _ _ _ _ _ _ _ ⟨rfl, by decide, by decide, hX, e736, tq6, by omega, by omega, ?_⟩ (by unfold FU; omega) (by unfold FU; omega)
  · rintro rf rg y1 l1 l2 s k1 ⟨rfl, h20, h2m, hX, e73, e18, p0, p1, hc⟩ hr
    have e17 : (y1.1 17 2).toInt = (q.1 60 18).toInt := congrArg Int32.toInt ((hX.1.1 17 2 rfl).trans (RT_len hT))
    have ts : (s.1 60 18).toInt = (q.1 60 18).toInt := congrArg Int32.toInt e18
    have mx := m_lookE t120 e73 e18 p0
    rcases hc with ⟨hn, rfl, hp, hl, h2h, ho, m, eN, L, hm⟩ | ⟨w, hp, hf⟩
    · have nw : ¬ (0 : Int32) ≤ s.1 60 20 := by rw [hn]; decide
      have ep : (y1.1 17 3).toInt = (s.1 60 19).toInt := congrArg Int32.toInt hp
      have nx := x_nextE hT hX.1 (by omega)
      rw [ep] at nx
      have cm := CM_q hT p0
      have k59 := CM_eq cm (k := 59) (by decide) (by decide)
      have fin : T2 (b_X5_readText_59 y1 1) (b_X12_readText_64 s 0) (fun r s => r.1 = s.1) := by
        unfold b_X5_readText_59 b_X12_readText_64
        refine T2_ql (by decide) (T2_qr nw ?_)
        by_cases lt : (s.1 60 19).toInt < (q.1 60 18).toInt
        · refine T2_pl (Int32.lt_iff_toInt_lt.mpr (by omega)) (T2_qr (fun e => by have := Int32.le_iff_toInt_le.mp e; omega) (T2_re (m_wrE hn) ?_))
          rw [m_86w (by show 0 ≤ (s.1 60 19).toInt; exact p0)]
          exact T2_s hp
        · refine T2_ql (fun e => by have := Int32.lt_iff_toInt_lt.mp e; omega) (T2_pr (Int32.le_iff_toInt_le.mpr (by omega)) ?_)
          obtain ⟨a, ha, hpa⟩ := m_86n eN L hm
          exact ⟨_, a, rfl, ha, hpa.symm⟩
      by_cases g : (120 : Int32) ≤ l2
      · have g' := Int32.le_iff_toInt_le.mp g
        have mN : MH q (s.1 60 19).toInt = -1 := by unfold MH; rw [if_neg (by omega)]
        rw [mN] at mx
        exact T2_pl g (T2_qr nw (T2_re mx (T2_qr (by decide) fin)))
      refine T2_ql g (T2_ql (by decide) (T2_le nx (T2_qr nw (T2_re mx ?_))))
      by_cases c59 : CH q (s.1 60 19).toInt = 59
      · refine T2_pl c59 (T2_pr (k59.mp c59) (T2_nl (T2_nr ?_)))
        have lt : (s.1 60 19).toInt < (q.1 60 18).toInt := by
          by_cases c : (s.1 60 19).toInt < (q.1 60 18).toInt
          · exact c
          · unfold CH at c59
            rw [if_neg c] at c59
            exact absurd c59 (by decide)
        have i := inc1 (a := s.1 60 19) (by omega) (by omega)
        have i2 := inc1 (a := l2) (by omega) (by omega)
        have e20 : EN (sI s 60 19 (s.1 60 19 + 1)) := ⟨by show 0 ≤ (s.1 60 19 + 1).toInt; omega, by show (s.1 60 19 + 1).toInt ≤ (s.1 60 18).toInt; omega, by show (s.1 60 18).toInt ≤ 120; omega, eN.2.2.2.1, by show (s.1 60 22).toInt ≤ (s.1 60 19 + 1).toInt; have := eN.2.2.2.2.1; omega, eN.2.2.2.2.2⟩
        have L20 : LN (sI s 60 19 (s.1 60 19 + 1)) m := L
        have hm2 : 2 * (m : Int) ≤ ((sI s 60 19 (s.1 60 19 + 1)).1 60 19).toInt := by
          show 2 * (m : Int) ≤ (s.1 60 19 + 1).toInt
          omega
        have A' : AQ q (sI y1 17 3 (y1.1 17 3 + 1)) (sI s 60 19 (s.1 60 19 + 1)) := ⟨XL_s hX, e73, e18, e20, congrArg (· + 1) hp, by
          show (y1.1 19 4).toInt ≤ (s.1 60 19 + 1).toInt
          omega⟩
        refine T2_bb (T2_ar (T2_al (sim_line hT A' ho L20 hm2) (x_readLine A'.1)) (m_line e20 L20 hm2)) (fun r8 r21 h => ?_)
        obtain ⟨⟨hR, hX8, _⟩, f8, t8, q8, c8⟩ := h
        have q8' : (s.1 60 19 + 1).toInt ≤ (r21.1 60 19).toInt ∧ (r21.1 60 19).toInt ≤ (s.1 60 18).toInt := q8
        have t8' : r21.1 60 18 = q.1 60 18 := t8.trans e18
        have e738 : r21.1 73 = q.1 73 := (Fr_r f8 (fun _ => rfl)).trans e73
        refine hr _ _ _ _ _ ⟨rfl, by omega, by omega, hX8, e738, t8', by omega, by omega, ?_⟩ (by omega)
        rcases hR with ⟨a1, a2, a3, a4, a5⟩ | h
        · rcases c8 with c | c
          · rw [a1, m1i] at c
            exact absurd c (by omega)
          · exact Or.inl ⟨a1, a2, a3, a4, by omega, a5, m + 1, c⟩
        · exact Or.inr h
      · exact T2_ql c59 (T2_qr (fun e => c59 (k59.mpr e)) fin)
    · have w' : (0 : Int32) ≤ s.1 60 20 := Int32.le_iff_toInt_le.mpr (by rw [l0]; exact w)
      have ep : (y1.1 17 3).toInt = (s.1 60 20).toInt := congrArg Int32.toInt hp
      have nx := x_nextE hT hX.1 (by omega)
      rw [ep] at nx
      have fin : T2 (b_X5_readText_59 y1 l1) (b_X12_readText_64 s 0) (fun r s => r.1 = s.1) := by
        unfold b_X5_readText_59 b_X12_readText_64
        refine T2_pr w' ?_
        rw [m_86w w]
        rcases hf with rfl | ⟨rfl, d⟩
        · exact T2_pl rfl (T2_s hp)
        · have lt : (s.1 60 20).toInt < (q.1 60 18).toInt := by
            by_cases c : (s.1 60 20).toInt < (q.1 60 18).toInt
            · exact c
            · unfold CH at d
              rw [if_neg c] at d
              exact absurd d (by decide)
          exact T2_ql (by decide) (T2_pl (Int32.lt_iff_toInt_lt.mpr (by omega)) (T2_s hp))
      refine T2_pr w' ?_
      by_cases g : (120 : Int32) ≤ l2
      · exact T2_pl g fin
      · refine T2_ql g ?_
        rcases hf with rfl | ⟨rfl, d⟩
        · exact T2_pl rfl fin
        · exact T2_ql (by decide) (T2_le nx (T2_ql (fun e => by rw [e] at d; exact absurd d (by decide)) fin))
  · rcases hR with ⟨a1, a2, a3, a4, a5⟩ | h
    · rcases c6 with c | c
      · rw [a1, m1i] at c
        exact absurd c (by omega)
      · exact Or.inl ⟨a1, a2, a3, a4, by show (0 : Int) ≤ _; omega, a5, 0 + 1, c⟩
    · exact Or.inr h
theorem opq_law {q : SS} (h : INV q) : T (f_X11_law q) (fun r => T (f_X12_law r.2) (fun s => INV s.2 ∧ r.1 = s.1)) := by
  have l0 : (0 : Int32).toInt = 0 := rfl
  have hT := INV_RT h
  obtain ⟨r, hr, y, hy, fy, e⟩ := xo_law h
  refine ⟨r, hr, ?_⟩
  show T (f_X12_law r.2) (fun s => INV s.2 ∧ r.1 = s.1)
  rw [e]
  have e73 : (sI y 17 2 0).1 73 = q.1 73 := by
    have a : y.1 73 = q.1 73 := Fr_r fy (fun _ => rfl)
    exact a
  have e18 : (sI y 17 2 0).1 60 18 = q.1 60 18 := fy.1 60 18 rfl
  obtain ⟨s, hs, hI⟩ := mo_law hy
  refine ⟨s, hs, hI, ?_⟩
  obtain ⟨a, b, ha, hb, hab⟩ := sim_text hT e73 e18
  unfold f_X11_law at hr
  unfold f_X12_law at hs
  rw [ha, bind_s] at hr
  rw [hb, bind_s] at hs
  by_cases c : 0 ≤ a.1
  · rw [if_pos c] at hr
    have c' := Int32.le_iff_toInt_le.mp c
    rw [if_neg (fun e => by rw [← hab] at e; have := Int32.lt_iff_toInt_lt.mp e; omega)] at hs
    unfold b_X11_law_26 f_X5_emptyTape at hr
    have hr' : (if 0 ≤ a.1 then some (((-100 : Int32) - a.1), sI a.2 17 2 0) else some ((1 : Int32), sI a.2 17 2 0)) = some r := hr
    rw [if_pos c] at hr'
    have e1 : r.1 = (-100 : Int32) - a.1 := (congrArg Prod.fst (Option.some.inj hr')).symm
    have e2 : s.1 = (-100 : Int32) - b.1 := (congrArg Prod.fst (Option.some.inj hs)).symm
    rw [e1, e2, hab]
  · rw [if_neg c] at hr
    have c' := Int32.lt_iff_toInt_lt.mp (Int32.not_le.mp c)
    rw [if_pos (by rw [← hab]; exact Int32.not_le.mp c)] at hs
    have hr' : ((f_X4_become a.2).bind fun r4 => b_X11_law_26 r4 a.1) = some r := hr
    have k : ∀ x : SS, b_X11_law_26 x a.1 = some (1, sI x 17 2 0) := fun x => by
      unfold b_X11_law_26 f_X5_emptyTape
      show (if 0 ≤ a.1 then _ else some ((1 : Int32), sI x 17 2 0)) = _
      rw [if_neg c]
    have hs' : (some ((1 : Int32), sI b.2 60 30 1)) = some s := hs
    have e2 : s.1 = 1 := (congrArg Prod.fst (Option.some.inj hs')).symm
    cases hb2 : f_X4_become a.2 with
    | none => rw [hb2] at hr'; cases hr'
    | some x =>
      rw [hb2, bind_s, k] at hr'
      have e1 : r.1 = 1 := (congrArg Prod.fst (Option.some.inj hr')).symm
      rw [e1, e2]

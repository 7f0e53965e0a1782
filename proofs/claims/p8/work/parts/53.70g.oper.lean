/-! ===== an operand on either side ===== -/
theorem sim_O1 {q y z : SS} {o : Int32} {n b : Nat} (hT : RT q) (A : AQ q y z) (ho : z.1 60 21 = o) (H : o.toInt = 6 ∨ (o.toInt < 6 ∧ OS q (o + 1) ∧ 10 * (6 - o.toInt) ≤ (n : Int) ∧ 10 * (6 - o.toInt) ≤ (b : Int))) : T2 (fb_X5_readOperand (g_X5_readJoined n) y o) (fb_X12_operand (g_X12_operand b) z) (RQ q y z) := by
  obtain ⟨b1, b2, b3, b4, b5, b6, b7⟩ := AQ_b A
  have eN : EN z := A.2.2.2.1
  have hn : z.1 60 20 = -1 := eN.2.2.2.2.2.1
  have o0 : 0 ≤ o.toInt ∧ o.toInt ≤ 6 := by
    have := eN.2.2.2.2.2.2
    rw [ho] at this
    exact this
  have l6 : (6 : Int32).toInt = 6 := rfl
  have e73 := A.2.1
  have e18 := A.2.2.1
  have ep : (y.1 17 3).toInt = (z.1 60 19).toInt := congrArg Int32.toInt A.2.2.2.2.1
  have nx := x_nextE hT A.1.1 (by omega)
  rw [ep] at nx
  have mx := m_lookE b3 e73 e18 b1
  have cm := CM_q hT b1
  have lt0 : CH q (z.1 60 19).toInt ≠ -1 → (z.1 60 19).toInt < (q.1 60 18).toInt := fun h => by
    by_cases c : (z.1 60 19).toInt < (q.1 60 18).toInt
    · exact c
    · exact absurd (by unfold CH; rw [if_neg c]) h
  have sg0 : SG o 0 0 z z := by
    have := SG_refl eN
    rw [ho] at this
    exact this
  unfold fb_X5_readOperand fb_X12_operand
  refine T2_le nx (T2_le (x_nameE y _) (T2_le (x_digE y _) (T2_re mx (T2_re (m_nameE z _) ?_))))
  rw [← CM_nmc cm]
  by_cases d : dig (CH q (z.1 60 19).toInt)
  · have mc := CM_same cm d
    rw [dgc_1 d, nm_dig d, mc]
    refine T2_ql (by decide) (T2_pr (by decide) (T2_qr (fun e => by rw [e] at d; exact absurd d (by decide)) (T2_qr (fun e => by rw [e] at d; exact absurd d (by decide)) (T2_qr (fun e => by rw [e] at d; exact absurd d (by decide)) ?_))))
    exact T2_bb (sim_num hT A d) (fun y' s h => T2_s h)
  rw [dgc_0 d]
  refine T2_pl rfl ?_
  have dm : ¬ dig (MH q (z.1 60 19).toInt) := fun h => d ((CM_dig cm).mpr h)
  by_cases nl : nmc (CH q (z.1 60 19).toInt) < 0
  · refine T2_pl nl (T2_pr nl ?_)
    have k33 := CM_eq cm (k := 33) (by decide) (by decide)
    have k45 := CM_eq cm (k := 45) (by decide) (by decide)
    have k40 := CM_eq cm (k := 40) (by decide) (by decide)
    have other : T2 (some ((0 : Int32), y)) ((f_X12_figure z).bind fun r18 => some r18) (RQ q y z) := T2_re (fig_no b3 e73 e18 b1 hn b4 (by omega) dm) (T2_s (Or.inr ⟨b1, A.2.2.2.2.1, Or.inl rfl⟩))
    rcases H with o6 | ⟨o5, IH, hn1, hb1⟩
    · have z6 : z.1 60 21 = 6 := Int32.toInt_inj.mp (by rw [ho, o6]; rfl)
      have op := m_opE0 z6 hn
      refine T2_pl (Int32.le_iff_toInt_le.mpr (by omega)) ?_
      have w46 : ∀ l1, T2 (some ((0 : Int32), y)) (b_X12_operand_46 (g_X12_operand b) z l1) (RQ q y z) := fun l1 => by
        unfold b_X12_operand_46
        exact T2_re op (T2_pr rfl (T2_s (Or.inr ⟨b1, A.2.2.2.2.1, Or.inl rfl⟩)))
      by_cases c33 : MH q (z.1 60 19).toInt = 33
      · exact T2_pr c33 (w46 _)
      by_cases c45 : MH q (z.1 60 19).toInt = 45
      · exact T2_qr c33 (T2_pr c45 (w46 _))
      by_cases c40 : MH q (z.1 60 19).toInt = 40
      · exact T2_qr c33 (T2_qr c45 (T2_pr c40 (T2_re op (T2_pr rfl (T2_s (Or.inr ⟨b1, A.2.2.2.2.1, Or.inl rfl⟩))))))
      · exact T2_qr c33 (T2_qr c45 (T2_qr c40 other))
    · have op := m_opE1 (z := z) (fun e => by rw [ho] at e; rw [e] at o5; exact absurd o5 (by decide))
      have i1 := inc1 (a := o) (by omega) (by omega)
      refine T2_ql (fun e => by have := Int32.le_iff_toInt_le.mp e; omega) ?_
      have hA : CH q (z.1 60 19).toInt ≠ -1 → AQ q (sI y 17 3 (y.1 17 3 + 1)) (sI (sI z 60 21 (z.1 60 21 + 1)) 60 19 (z.1 60 19 + 1)) ∧ SG (o + 1) 1 0 z (sI (sI z 60 21 (z.1 60 21 + 1)) 60 19 (z.1 60 19 + 1)) := fun hc => by
        have lt := lt0 hc
        have g := SG_hr eN (SG_op (o' := o + 1) (x := z.1 60 21 + 1) sg0 (fun _ => by rw [ho])) hn (by show (z.1 60 19).toInt < (z.1 60 18).toInt; rw [e18]; exact lt)
        have i19 := inc1 (a := z.1 60 19) (by omega) (by omega)
        have e3 := SG_EN eN g hn (by decide) (by omega)
        exact ⟨⟨XL_s A.1, e73, e18, e3, congrArg (· + 1) A.2.2.2.2.1, by show (y.1 19 4).toInt ≤ (z.1 60 19 + 1).toInt; omega⟩, g⟩
      have pm0 : PM y z (sI y 17 3 (y.1 17 3 + 1)) (sI (sI z 60 21 (z.1 60 21 + 1)) 60 19 (z.1 60 19 + 1)) := PM_pos (PM_refl A.2.2.2.2.1)
      have o3 : (sI (sI z 60 21 (z.1 60 21 + 1)) 60 19 (z.1 60 19 + 1)).1 60 21 = o + 1 := by
        show z.1 60 21 + 1 = o + 1
        rw [ho]
      have can : o + 1 - 1 = o := Int32.add_sub_cancel o 1
      -- a piece behind the sign, told from the operand's own start
      have lift : ∀ (r1 : Int32 × SS) (r4 : SS), CH q (z.1 60 19).toInt ≠ -1 → RQ q (sI y 17 3 (y.1 17 3 + 1)) (sI (sI z 60 21 (z.1 60 21 + 1)) 60 19 (z.1 60 19 + 1)) r1 r4 → SG (o + 1) 0 1 (sI (sI z 60 21 (z.1 60 21 + 1)) 60 19 (z.1 60 19 + 1)) r4 → RQ q y z r1 r4 ∧ SG (o + 1) 1 1 z r4 := fun r1 r4 hc hR hS => by
        have g := (hA hc).2
        refine ⟨?_, SG_le (SG_tr eN g hn hS) (by decide)⟩
        rcases hR with ⟨a1, a2, a3⟩ | h
        · exact Or.inl ⟨a1, a2, PM_tr b6 b4 pm0 hS.2.2.2.1 a3⟩
        · exact Or.inr h
      obtain ⟨n1, rfl⟩ : ∃ x, n = x + 1 := ⟨n - 1, by omega⟩
      have turned : ∀ (a a' : Int32) (c : Int32), CH q (z.1 60 19).toInt ≠ -1 → (c = 33 ∨ c = 45) → (a = if c = 33 then 33 else 126) → (a' = if c = 33 then 3 else 4) → al a 0 (a'.toInt8.toInt32) 0 → stepd (a'.toInt8.toInt32) 0 1 = some 1 → T2 (b_X5_readOperand_75 (g_X5_readJoined (n1 + 1)) y o c) (b_X12_operand_46 (g_X12_operand b) z c) (RQ q y z) := fun a a' c hc c2 ea ea' h1 h2 => by
        unfold b_X5_readOperand_75 b_X12_operand_46
        refine T2_nl (T2_ql (fun e => by rcases c2 with h | h <;> (rw [h] at e; exact absurd e (by decide))) (T2_re op (T2_qr (show ¬ (1 : Int32) = 0 by decide) (T2_wrap ?_))))
        show T2 (fb_X5_readTurned (g_X5_readJoined n1) (sI y 17 3 (y.1 17 3 + 1)) c (o + 1)) ((((g_X12_operand b).1 (sI (sI z 60 21 (z.1 60 21 + 1)) 60 19 (z.1 60 19 + 1)))).bind _) _
        unfold fb_X5_readTurned
        have A3 := (hA hc).1
        have t1 := IH n1 b _ _ A3 o3 (by omega) (by omega)
        refine T2_bb (T2_ar (T2_al t1 ((LJ_all n1 q _ A3.1).2.1 (o + 1) (by omega) (by omega))) (MF_T (L := 6) (by omega) (by omega) A3.2.2.2.1 o3 (by omega))) (fun r1 r4 hR => ?_)
        obtain ⟨⟨hR, hX, _⟩, hS⟩ := hR
        obtain ⟨hR', hS'⟩ := lift r1 r4 hc hR hS
        have hS5 : SG o 1 1 z (sI r4 60 21 (r4.1 60 21 - 1)) := SG_op hS' (fun n4 => by rw [(SG_nw hS' n4).1, can])
        have fin := sim_t23 (rr := g_X5_readJoined n1) (rm := g_X12_operand b) A ⟨hR', hX⟩ hS5 h1 h2
        refine T2_nr ?_
        rcases c2 with h | h
        · subst h
          rw [if_pos rfl] at ea ea'
          subst ea ea'
          exact T2_pl rfl (T2_pr rfl fin)
        · subst h
          rw [if_neg (by decide)] at ea ea'
          subst ea ea'
          exact T2_ql (by decide) (T2_qr (by decide) fin)
      by_cases c33 : CH q (z.1 60 19).toInt = 33
      · have m33 := k33.mp c33
        refine T2_pl c33 (T2_pr m33 ?_)
        rw [c33, m33]
        exact turned 33 3 33 (by rw [c33]; decide) (Or.inl rfl) rfl rfl ⟨rfl, Or.inr (Or.inr (Or.inl ⟨rfl, by decide⟩))⟩ rfl
      by_cases c45 : CH q (z.1 60 19).toInt = 45
      · have m45 := k45.mp c45
        refine T2_ql c33 (T2_pl c45 (T2_qr (fun e => c33 (k33.mpr e)) (T2_pr m45 ?_)))
        rw [c45, m45]
        exact turned 126 4 45 (by rw [c45]; decide) (Or.inr rfl) rfl rfl ⟨rfl, Or.inr (Or.inr (Or.inr (Or.inl ⟨rfl, by decide⟩)))⟩ rfl
      by_cases c40 : CH q (z.1 60 19).toInt = 40
      · have m40 := k40.mp c40
        have hc : CH q (z.1 60 19).toInt ≠ -1 := by rw [c40]; decide
        refine T2_ql c33 (T2_ql c45 (T2_pl c40 (T2_qr (fun e => c33 (k33.mpr e)) (T2_qr (fun e => c45 (k45.mpr e)) (T2_pr m40 ?_)))))
        rw [c40]
        unfold b_X5_readOperand_75
        refine T2_nl (T2_pl rfl (T2_re op (T2_qr (show ¬ (1 : Int32) = 0 by decide) (T2_wrap ?_))))
        show T2 (fb_X5_readEnclosed (g_X5_readJoined n1) (sI y 17 3 (y.1 17 3 + 1)) (o + 1)) ((((g_X12_operand b).2.2.2.2.2 (sI (sI z 60 21 (z.1 60 21 + 1)) 60 19 (z.1 60 19 + 1)))).bind _) _
        unfold fb_X5_readEnclosed
        have A3 := (hA hc).1
        obtain ⟨bb, rfl⟩ : ∃ x, b = x + 5 := ⟨b - 5, by omega⟩
        have t1 := sim_J hT (by omega) IH 5 (by omega) n1 bb 1 _ _ (by decide) A3 o3 (by omega) (by omega)
        refine T2_bb (T2_ar (T2_al t1 ((LJ_all n1 q _ A3.1).1 1 (o + 1) (by decide) (by omega) (by show 10 * (6 - (o + 1).toInt) + 8 - 1 ≤ _; omega))) (MF_T (L := 1) (by omega) (by omega) A3.2.2.2.1 o3 (by omega))) (fun r1 r4 hR => ?_)
        obtain ⟨⟨hR, hX, _⟩, hS⟩ := hR
        obtain ⟨hR', hS'⟩ := lift r1 r4 hc hR hS
        have zx := SG_ZX hS' e73 e18
        have hb4 := hS'.2.1
        rcases hR' with ⟨n5, f5, P5⟩ | ⟨w5, p5, f5⟩
        · have ep4 : (r1.2.1 17 3).toInt = (r4.1 60 19).toInt := congrArg Int32.toInt P5.1
          have nx4 := x_nextE hT hX.1 (by omega)
          rw [ep4] at nx4
          have mx4 := m_lookE b3 zx.1 zx.2 (by omega : 0 ≤ (r4.1 60 19).toInt)
          have cm4 := CM_q hT (by omega : 0 ≤ (r4.1 60 19).toInt)
          have k41 := CM_eq cm4 (k := 41) (by decide) (by decide)
          refine T2_ql (by rw [f5]; decide) (T2_le nx4 (T2_pr (by rw [n5]; decide) (T2_re mx4 ?_)))
          by_cases c41 : CH q (r4.1 60 19).toInt = 41
          · exact T2_pl c41 (T2_pr (k41.mp c41) (T2_nl (T2_nr (T2_nr (T2_s (Or.inl ⟨n5, rfl, PM_pos P5⟩))))))
          · refine T2_ql c41 (T2_qr (fun e => c41 (k41.mpr e)) (T2_re (m_wrE n5) (T2_s (Or.inr ⟨?_, P5.1, Or.inl rfl⟩))))
            show 0 ≤ (r4.1 60 19).toInt
            omega
        · have w : ¬ r4.1 60 20 < 0 := fun e => by
            have := Int32.lt_iff_toInt_lt.mp e
            have l0 : (0 : Int32).toInt = 0 := rfl
            omega
          rcases f5 with f | ⟨f, dd⟩
          · exact T2_pl f (T2_qr w (T2_s (Or.inr ⟨w5, p5, Or.inl rfl⟩)))
          · have ep4 : (r1.2.1 17 3).toInt = (r4.1 60 20).toInt := congrArg Int32.toInt p5
            have nx4 := x_nextE hT hX.1 (by omega)
            rw [ep4] at nx4
            exact T2_ql (by rw [f]; decide) (T2_le nx4 (T2_ql (fun e => by rw [e] at dd; exact absurd dd (by decide)) (T2_qr w (T2_s (Or.inr ⟨w5, p5, Or.inl rfl⟩)))))
      · refine T2_ql c33 (T2_ql c45 (T2_ql c40 (T2_qr (fun e => c33 (k33.mpr e)) (T2_qr (fun e => c45 (k45.mpr e)) (T2_qr (fun e => c40 (k40.mpr e)) other)))))
  · have pos : 0 ≤ (nmc (CH q (z.1 60 19).toInt)).toInt := by
      have := Int32.le_iff_toInt_le.mp (Int32.not_lt.mp nl)
      exact this
    refine T2_ql nl (T2_qr nl (T2_nl ?_))
    have al1 : al 110 (nmc (CH q (z.1 60 19).toInt)) ((2 : Int32).toInt8.toInt32) (nmc (MH q (z.1 60 19).toInt)) := ⟨(CM_nmc cm).symm, Or.inl ⟨rfl, by decide⟩⟩
    have P := PM_pos (PM_add b6 (by omega) b4 (by omega) (by omega) (PM_refl A.2.2.2.2.1) al1)
    exact T2_le (x_addE (y := sI y 17 3 (y.1 17 3 + 1)) 110 _ b6 (by show (y.1 19 4).toInt < 121; omega)) (T2_re (m_nameE z _) (T2_re (m_addE 2 _ b4 (by omega)) (T2_nr (T2_s (Or.inl ⟨hn, rfl, P⟩)))))
theorem sim_O {q : SS} (hT : RT q) : ∀ (k : Nat), k ≤ 6 → ∀ o : Int32, o.toInt = 6 - (k : Int) → OS q o := by
  intro k
  induction k with
  | zero =>
    intro _ o eo n b y z A ho hn hb
    obtain ⟨n', rfl⟩ : ∃ x, n = x + 1 := ⟨n - 1, by omega⟩
    obtain ⟨b', rfl⟩ : ∃ x, b = x + 1 := ⟨b - 1, by omega⟩
    exact sim_O1 hT A ho (Or.inl (by omega))
  | succ k ih =>
    intro hk o eo n b y z A ho hn hb
    obtain ⟨n', rfl⟩ : ∃ x, n = x + 1 := ⟨n - 1, by omega⟩
    obtain ⟨b', rfl⟩ : ∃ x, b = x + 1 := ⟨b - 1, by omega⟩
    have i := inc1 (a := o) (by omega) (by omega)
    have IH := ih (by omega) (o + 1) (by omega)
    exact sim_O1 hT A ho (Or.inr ⟨by omega, IH, by omega, by omega⟩)

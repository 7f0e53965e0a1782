/-! ===== a number, read on either side ===== -/
theorem T2_fx33 {A0 A1 A2 B0 B1 B2 α β : Type} {R : α → β → Prop} {F : (A0 → A1 → A2 → Option α) → A0 → A1 → A2 → Option α} {G : (B0 → B1 → B2 → Option β) → B0 → B1 → B2 → Option β} (I : A0 → A1 → A2 → B0 → B1 → B2 → Prop) (μ : A2 → Nat) (h : ∀ rf rg a0 a1 a2 b0 b1 b2, I a0 a1 a2 b0 b1 b2 → (∀ c0 c1 c2 d0 d1 d2, I c0 c1 c2 d0 d1 d2 → μ c2 < μ a2 → T2 (rf c0 c1 c2) (rg d0 d1 d2) R) → T2 (F rf a0 a1 a2) (G rg b0 b1 b2) R) : ∀ n m a0 a1 a2 b0 b1 b2, I a0 a1 a2 b0 b1 b2 → μ a2 < n → μ a2 < m → T2 (fx3 F n a0 a1 a2) (fx3 G m b0 b1 b2) R
  | 0, _, _, _, _, _, _, _, _, hm, _ => absurd hm (Nat.not_lt_zero _)
  | _ + 1, 0, _, _, _, _, _, _, _, _, hm => absurd hm (Nat.not_lt_zero _)
  | n + 1, m + 1, a0, a1, a2, b0, b1, b2, hI, h1, h2 => h _ _ a0 a1 a2 b0 b1 b2 hI (fun c0 c1 c2 d0 d1 d2 hb hl => T2_fx33 I μ h n m c0 c1 c2 d0 d1 d2 hb (by omega) (by omega))
theorem m_wrE {z : SS} (n : z.1 60 20 = -1) : f_X12_wrong z = some (sI z 60 20 (z.1 60 19)) := by
  unfold f_X12_wrong
  rw [if_neg (by rw [n]; decide)]
  rfl
theorem AQ_b {q y z : SS} (A : AQ q y z) : 0 ≤ (z.1 60 19).toInt ∧ (z.1 60 19).toInt ≤ (q.1 60 18).toInt ∧ (q.1 60 18).toInt ≤ 120 ∧ 0 ≤ (z.1 60 22).toInt ∧ (z.1 60 22).toInt ≤ (z.1 60 19).toInt ∧ 0 ≤ (y.1 19 4).toInt ∧ (y.1 19 4).toInt ≤ (z.1 60 19).toInt := by
  obtain ⟨a, b, c, d, e, f⟩ := A
  obtain ⟨d1, d2, d3, d4, d5, _⟩ := d
  have t : (z.1 60 18).toInt = (q.1 60 18).toInt := congrArg Int32.toInt c
  exact ⟨d1, by omega, by omega, d4, d5, a.2.1, f⟩
theorem sim_num {q y z : SS} (hT : RT q) (A : AQ q y z) (hd : dig (CH q (z.1 60 19).toInt)) : T2 (f_X5_readNumber y) (f_X12_figure z) (fun y' s => RQ q y z (1, y') s) := by
  have l4 : (4 : Int32).toInt = 4 := rfl
  have l0 : (0 : Int32).toInt = 0 := rfl
  obtain ⟨b1, b2, b3, b4, b5, b6, b7⟩ := AQ_b A
  have fin : ∀ (y1 z1 : SS) (l1 l2 : Int32), XL q y1 → z1.1 73 = q.1 73 → z1.1 60 18 = q.1 60 18 → PM y z y1 z1 → z1.1 60 20 = -1 → z1.1 60 22 = z.1 60 22 → 0 ≤ (z1.1 60 19).toInt → 1 ≤ l2.toInt → T2 (b_X5_readNumber_48 y1 l1) (b_X12_figure_52 z1 l1 l2) (fun y' s => RQ q y z (1, y') s) := by
    intro y1 z1 l1 l2 hX e73 e18 hP hn hL h0 hl
    have hL' : (z1.1 60 22).toInt = (z.1 60 22).toInt := congrArg Int32.toInt hL
    have hc : (y1.1 19 4).toInt = (y.1 19 4).toInt := by have := hP.2.1; omega
    have cm := CM_q hT h0
    unfold b_X5_readNumber_48 b_X12_figure_52
    refine T2_le (x_addE 48 l1 (by omega) (by omega)) (T2_qr (fun e => by rw [e] at hl; exact absurd hl (by decide)) (T2_re (m_lookE b3 e73 e18 h0) (T2_re (m_digE _ _) ?_)))
    have al1 : al 48 l1 ((1 : Int32).toInt8.toInt32) l1 := ⟨rfl, Or.inr (Or.inl ⟨rfl, by decide⟩)⟩
    by_cases d : dig (MH q (z1.1 60 19).toInt)
    · rw [dgc_1 d]
      refine T2_qr (by decide) ?_
      unfold b_X12_figure_70 b_X12_figure_74
      refine T2_re (m_wrE hn) (T2_re (m_addE 1 l1 (by show 0 ≤ (z1.1 60 22).toInt; omega) (by show (z1.1 60 22).toInt < 130; omega)) (T2_s (Or.inr ⟨h0, ?_, Or.inr ⟨rfl, ?_⟩⟩)))
      · exact hP.1
      · exact (CM_dig cm).mpr d
    · rw [dgc_0 d]
      refine T2_pr rfl ?_
      unfold b_X12_figure_74
      exact T2_re (m_addE 1 l1 (by omega) (by omega)) (T2_s (Or.inl ⟨hn, rfl, PM_add b6 (by omega) b4 (by omega) (by omega) hP al1⟩))
  unfold f_X5_readNumber b_X5_readNumber_4 f_X12_figure b_X12_figure_4
  refine T2_fx33 (fun y1 l1 l2 z1 m1 m2 => m1 = l1 ∧ m2 = l2 ∧ 0 ≤ l2.toInt ∧ l2.toInt ≤ 4 ∧ XL q y1 ∧ z1.1 73 = q.1 73 ∧ z1.1 60 18 = q.1 60 18 ∧ PM y z y1 z1 ∧ z1.1 60 20 = -1 ∧ z1.1 60 22 = z.1 60 22 ∧ 0 ≤ (z1.1 60 19).toInt ∧ (z1.1 60 19).toInt ≤ (q.1 60 18).toInt ∧ (1 ≤ l2.toInt ∨ dig (CH q (z1.1 60 19).toInt))) (fun l2 => (4 - l2.toInt).toNat) ?_ _ _ _ _ _ _ _ _ ⟨rfl, rfl, by decide, by decide, A.1, A.2.1, A.2.2.1, PM_refl A.2.2.2.2.1, A.2.2.2.1.2.2.2.2.2.1, rfl, b1, b2, Or.inr hd⟩ (by unfold FU; decide) (by unfold FU; decide)
  rintro rf rg y1 l1 l2 z1 m1 m2 ⟨rfl, rfl, h0, h4, hX, e73, e18, hP, hn, hL, p0, p1, hdd⟩ hr
  by_cases g : (4 : Int32) ≤ m2
  · have g' := Int32.le_iff_toInt_le.mp g
    exact T2_pl g (T2_pr g (fin y1 z1 m1 m2 hX e73 e18 hP hn hL p0 (by omega)))
  have g' := Int32.lt_iff_toInt_lt.mp (Int32.not_le.mp g)
  have ep : (y1.1 17 3).toInt = (z1.1 60 19).toInt := congrArg Int32.toInt hP.1
  have cE := x_nextE hT hX.1 (by omega)
  rw [ep] at cE
  have mE := m_lookE b3 e73 e18 p0
  have cm := CM_q hT p0
  refine T2_ql g (T2_qr g (T2_le cE (T2_le (x_digE _ _) (T2_re mE (T2_re (m_digE _ _) ?_)))))
  by_cases d : dig (CH q (z1.1 60 19).toInt)
  · have d' := (CM_dig cm).mp d
    rw [dgc_1 d, dgc_1 d']
    refine T2_ql (by decide) (T2_qr (by decide) (T2_le cE (T2_re mE (T2_nl (T2_nl (T2_nr (T2_nr ?_)))))))
    rw [CM_same cm d]
    have i := inc1 (a := m2) (by omega) (by omega)
    have lt : (z1.1 60 19).toInt < (q.1 60 18).toInt := by
      by_cases c : (z1.1 60 19).toInt < (q.1 60 18).toInt
      · exact c
      · unfold CH dig at d
        rw [if_neg c] at d
        exact absurd d.1 (by decide)
    have i2 := inc1 (a := z1.1 60 19) (by omega) (by omega)
    exact hr _ _ _ _ _ _ ⟨rfl, rfl, by omega, by omega, XL_s hX, e73, e18, PM_pos hP, hn, hL, by show 0 ≤ (z1.1 60 19 + 1).toInt; omega, by show (z1.1 60 19 + 1).toInt ≤ (q.1 60 18).toInt; omega, Or.inl (by omega)⟩ (by omega)
  · have d' := fun x => d ((CM_dig cm).mpr x)
    rw [dgc_0 d, dgc_0 d']
    exact T2_pl rfl (T2_pr rfl (fin y1 z1 m1 m2 hX e73 e18 hP hn hL p0 (by rcases hdd with h | h; exact h; exact absurd h d)))
/-- the model's figure where no digit stands -/
theorem fig_no {q z : SS} (h120 : (q.1 60 18).toInt ≤ 120) (e73 : z.1 73 = q.1 73) (e18 : z.1 60 18 = q.1 60 18) (h0 : 0 ≤ (z.1 60 19).toInt) (hn : z.1 60 20 = -1) (l0 : 0 ≤ (z.1 60 22).toInt) (l1 : (z.1 60 22).toInt < 130) (d : ¬ dig (MH q (z.1 60 19).toInt)) : f_X12_figure z = some (mAd (sI z 60 20 (z.1 60 19)) 1 0) := by
  have mE := m_lookE h120 e73 e18 h0
  have h : T (f_X12_figure z) (fun s => s = mAd (sI z 60 20 (z.1 60 19)) 1 0) := by
    unfold f_X12_figure b_X12_figure_4
    rw [fx3_s]
    refine T_len (by decide) (T_rw mE (T_rw (m_digE z _) ?_))
    rw [dgc_0 d]
    refine T_p rfl ?_
    unfold b_X12_figure_52
    refine T_p rfl ?_
    unfold b_X12_figure_70
    refine T_rw (m_wrE hn) ?_
    unfold b_X12_figure_74
    exact T_rw (m_addE 1 0 (by exact l0) (by exact l1)) (T_some.mpr rfl)
  obtain ⟨s, h1, h2⟩ := h
  rw [h1, h2]

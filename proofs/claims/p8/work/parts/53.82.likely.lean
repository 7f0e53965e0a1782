/-! ===== likely ===== -/
theorem sim_set {q r z0 : SS} {a b p n : Int32} {L : Int} (ha : 0 ≤ a.toInt ∧ a.toInt < 6) (hL : 0 ≤ L ∧ L ≤ 12) (hs : ∀ i : Nat, (i : Int) < L → ISl q a i) (W : WL2 q a L r z0) (en : n = r.1 37 3) (fl : Int32) (c5 : Int64) (hfl : (fl = 0 ∧ c5 = 0) ∨ (fl = 1 ∧ c5 = 1)) : T2 (b_X2_weighSet_14 r b fl) (b_X12_likely_64 z0 a b p n c5) (fun u s => f_X11_partOf u (u.2 37 6) (u.2 37 7) p = some s.1) := by
  have l0 : (0 : Int32).toInt = 0 := rfl
  have l12 : (12 : Int32).toInt = 12 := rfl
  unfold b_X2_weighSet_14 b_X12_likely_64
  have W0 : WL2 q a L (sL (sL r 37 6 1) 37 7 1) z0 := ⟨TH_L (TH_L W.1), W.2.1, W.2.2.1, W.2.2.2.1, W.2.2.2.2.1, W.2.2.2.2.2⟩
  refine T2_nl (T2_nl ?_)
  unfold b_X2_weighSet_27 b_X12_likely_72
  refine T2_fl48 (fun yc l1 l2 l3 zc k1 k2 k3 k4 k5 k7 k9 => l1 = b ∧ k1 = a ∧ k2 = b ∧ k3 = p ∧ k4 = n ∧ k9 = l3 ∧ (0 ≤ l3.toInt ∧ l3.toInt ≤ 12) ∧ WL2 q a L yc zc ∧ yc.1 37 3 = n ∧ yc.2 37 7 = k7 ∧ FB k5 k7 l3.toInt ∧ ((l2 = 0 ∧ k5 = 0) ∨ (l2 = 1 ∧ yc.2 37 6 = k5))) (fun _ _ _ l3 _ _ _ _ _ _ _ _ => (12 - l3.toInt).toNat) ?_ _ _ _ _ _ _ _ _ _ _ _ _ _ _ ⟨rfl, rfl, rfl, rfl, rfl, rfl, by decide, W0, en.symm, rfl, ?_, ?_⟩ (by unfold FU; decide) (by unfold FU; decide)
  rotate_left
  · rcases hfl with ⟨_, rfl⟩ | ⟨_, rfl⟩
    · exact ⟨by decide, by decide, by decide, by decide⟩
    · exact ⟨by decide, by decide, by decide, by decide⟩
  · rcases hfl with ⟨h1, h2⟩ | ⟨h1, h2⟩
    · exact Or.inl ⟨h1, h2⟩
    · exact Or.inr ⟨h1, h2.symm⟩
  rintro rf rg yc l1 l2 l3 zc k1 k2 k3 k4 k5 k7 k9 ⟨rfl, rfl, rfl, rfl, rfl, rfl, ⟨b0, b1⟩, W, e37, e7, B, hc⟩ hr
  have w3 := W.2.1
  rw [e37]
  by_cases c : k4 ≤ k9
  · refine T2_pl c (T2_pr c ?_)
    have lo : ∀ u : SS, ∃ g, f_X11_partOf u k5 k7 k3 = some g ∧ f_X12_lowest zc k5 k7 k3 = some g := fun u => low_eq (q := u) (r := zc) (a := k5) (b := k7) B.1 (by have := B.2.2.1; omega) (fun x => by have := B.2.2.1; omega) k3
    rcases hc with ⟨h1, h2⟩ | ⟨h1, h2⟩
    · obtain ⟨g, g1, g2⟩ := lo (sL yc 37 6 0)
      refine T2_pl h1 (T2_nl (T2_re g2 (T2_s ?_)))
      show f_X11_partOf (sL yc 37 6 0) 0 (yc.2 37 7) k3 = some g
      rw [e7, ← h2]
      rw [← h2] at g1
      exact g1
    · obtain ⟨g, g1, g2⟩ := lo yc
      refine T2_ql (by rw [h1]; decide) (T2_re g2 (T2_s ?_))
      rw [h2, e7]
      exact g1
  · have c' := Int32.lt_iff_toInt_lt.mp (Int32.not_le.mp c)
    have kL : k9.toInt < L := by rw [← w3, e37]; exact c'
    have i := inc1 (a := k9) (by omega) (by omega)
    obtain ⟨v, va, ht, hp, tA⟩ := WL2_at ha hL.2 hs W b0 kL
    obtain ⟨sv, hsv, cs, ms⟩ := TH_slip W.1 ht hp
    have t1 := tA yc rfl rfl
    have k := TH_K W.1
    have step : ∀ x : Int32, (x = 0 ∨ x = 1) → T2 (b_X2_weighSet_49 rf yc k2 l2 k9 x) (b_X12_likely_118 rg zc k1 k2 k3 k4 k5 k7 k9 (v / 8) (jrem v 8) x) (fun u s => f_X11_partOf u (u.2 37 6) (u.2 37 7) k3 = some s.1) := by
      intro x hx
      unfold b_X2_weighSet_49 b_X12_likely_118 b_X2_weighSet_88 b_X12_likely_196
      refine T2_le t1.1 (T2_le t1.2 (T2_le cs (T2_re ms ?_)))
      rcases hsv with rfl | rfl
      · refine T2_pl rfl (T2_pr rfl ?_)
        rcases hx with rfl | rfl
        · refine T2_pl rfl (T2_pr rfl (hr _ _ _ _ _ _ _ _ _ _ _ _ ⟨rfl, rfl, rfl, rfl, rfl, rfl, by omega, W, e37, e7, ?_, hc⟩ (by omega)))
          rw [i]
          exact FB_keep B b0
        · refine T2_ql (by decide) (T2_qr (by decide) (hr _ _ _ _ _ _ _ _ _ _ _ _ ⟨rfl, rfl, rfl, rfl, rfl, rfl, by omega, W, e37, e7, ?_, Or.inl ⟨rfl, rfl⟩⟩ (by omega)))
          rw [i]
          exact FB_keep (FB_zero B) b0
      · refine T2_ql (by decide) (T2_qr (by decide) (T2_bb (x_stepE (f := x) W ht hp hx tA) (fun u s hus => ?_)))
        obtain ⟨o, so, ho, u6, u7, W2⟩ := hus
        have u3 : u.1 37 3 = k4 := Int32.toInt_inj.mp (by rw [W2.2.1, ← w3, e37])
        have hc2 : (l2 = 0 ∧ k5 * (if x = 0 then ((12 : Int32) - o).toInt64 else o.toInt64) = 0) ∨ (l2 = 1 ∧ u.2 37 6 = k5 * (if x = 0 then ((12 : Int32) - o).toInt64 else o.toInt64)) := by
          rcases hc with ⟨h1, h2⟩ | ⟨h1, h2⟩
          · exact Or.inl ⟨h1, by rw [h2, Int64.zero_mul]⟩
          · exact Or.inr ⟨h1, by rw [u6, h2]⟩
        have s12 : ((12 : Int32) - o).toInt = 12 - o.toInt := by rw [tsub (by omega) (by omega), l12]
        unfold b_X12_likely_171 b_X12_likely_196
        rcases hx with rfl | rfl
        · rw [if_pos rfl] at hc2 W2
          rw [so]
          refine T2_pr rfl (T2_nr (T2_nr (T2_pr rfl (hr _ _ _ _ _ _ _ _ _ _ _ _ ⟨rfl, rfl, rfl, rfl, rfl, rfl, by omega, W2, u3, by rw [u7, e7], ?_, hc2⟩ (by omega)))))
          rw [i]
          exact FB_step B (by omega) (by rw [i64, s12]; omega)
        · rw [if_neg (by decide)] at hc2 W2
          rw [so]
          refine T2_qr (by decide) (T2_nr (T2_nr (T2_qr (by decide) (T2_pr ⟨ht.1, by show (v / 8).toInt < 12; omega⟩ (T2_nr (hr _ _ _ _ _ _ _ _ _ _ _ _ ⟨rfl, rfl, rfl, rfl, rfl, rfl, by omega, W2, u3, by rw [u7, e7], ?_, hc2⟩ (by omega)))))))
          rw [i]
          exact FB_step B (by omega) (by rw [i64]; exact ho)
    refine T2_ql c (T2_qr c (T2_re va (T2_nr (T2_re va (T2_nr ?_)))))
    by_cases bt : ((jshr k2 k9) &&& (1 : Int32)) = (1 : Int32)
    · exact T2_pl bt (T2_pr bt (step 1 (Or.inr rfl)))
    · exact T2_ql bt (T2_qr bt (step 0 (Or.inl rfl)))
theorem sim_likely {q y : SS} (h : INV q) (w : RLW q) (f : MC q y) (hy : INV y) (a b p : Int32) : T2 (f_X11_likely q a b p) (f_X12_likely y a b p) (fun r s => r.1 = s.1) := by
  have l0 : (0 : Int32).toInt = 0 := rfl
  have l4095 : (4095 : Int32).toInt = 4095 := rfl
  have rf : T2 (some ((-9223372036854775808 : Int64), q)) (some ((-9223372036854775808 : Int64), y)) (fun r s => r.1 = s.1) := T2_s rfl
  unfold f_X11_likely f_X12_likely
  refine T2_re (m_isShelf y a) ?_
  by_cases ha : 0 ≤ a.toInt ∧ a.toInt < 6
  rotate_left
  · rw [bI_f ha]
    refine T2_le (x_refBytes q a) ?_
    rw [if_neg ha]
    exact T2_ql (by decide) (T2_pr rfl rf)
  obtain ⟨v, v0, v27, xe, me⟩ := flt_E h f ha
  rw [bI_t ha]
  refine T2_qr (by decide) (T2_re (m_in y b 0 4095) (T2_le xe ?_))
  by_cases hb : (0 : Int32).toInt ≤ b.toInt ∧ b.toInt ≤ (4095 : Int32).toInt
  rotate_left
  · rw [bI_f hb]
    refine T2_pr rfl ?_
    by_cases ev : v = 0
    · refine T2_pl ev ?_
      by_cases c0 : b < 0
      · exact T2_pl c0 rf
      · have c0' := Int32.le_iff_toInt_le.mp (Int32.not_lt.mp c0)
        exact T2_ql c0 (T2_pl (Int32.lt_iff_toInt_lt.mpr (by omega)) rf)
    · exact T2_ql ev rf
  rw [bI_t hb]
  refine T2_qr (by decide) (T2_re (m_in y p 0 1) ?_)
  have nb : ¬ b < 0 ∧ ¬ (4095 : Int32) < b := ⟨fun e => by have := Int32.lt_iff_toInt_lt.mp e; omega, fun e => by have := Int32.lt_iff_toInt_lt.mp e; omega⟩
  by_cases hp : (0 : Int32).toInt ≤ p.toInt ∧ p.toInt ≤ (1 : Int32).toInt
  rotate_left
  · rw [bI_f hp]
    refine T2_pr rfl ?_
    by_cases ev : v = 0
    · refine T2_pl ev (T2_ql nb.1 (T2_ql nb.2 (T2_le (isPart_x q p) ?_)))
      rw [bI_f (show ¬ (0 ≤ p.toInt ∧ p.toInt ≤ 1) from hp)]
      exact T2_pl rfl rf
    · exact T2_ql ev rf
  rw [bI_t hp]
  refine T2_qr (by decide) (T2_re me ?_)
  by_cases ev : v = 0
  rotate_left
  · have vn : v.toInt < 0 := v0.resolve_left ev
    exact T2_ql ev (T2_qr (fun e => by have := Int32.le_iff_toInt_le.mp e; omega) rf)
  refine T2_pl ev (T2_ql nb.1 (T2_ql nb.2 (T2_le (isPart_x q p) ?_)))
  rw [bI_t (show 0 ≤ p.toInt ∧ p.toInt ≤ 1 from hp)]
  obtain ⟨r, z0, n, L, e1, e2, e3, en, hL, hs, W⟩ := beg2 h w f hy ha (v27 ev)
  refine T2_ql (by decide) (T2_le e1 (T2_pr (by rw [ev]; decide) (T2_re e2 (T2_re e3 ?_))))
  have nn : n.toInt = L := by rw [en]; exact W.2.1
  have ej := jushr_eq (a := b) (n := n) (by omega) (by omega) (by omega)
  unfold f_X2_weighSet
  rw [← en, ej]
  have fin : ∀ (fl : Int32) (c5 : Int64), ((fl = 0 ∧ c5 = 0) ∨ (fl = 1 ∧ c5 = 1)) → T2 ((b_X2_weighSet_14 r b fl).bind fun r4 => (f_X2_above r4).bind fun r5 => (f_X2_below r4).bind fun r6 => (f_X11_partOf r4 r5 r6 p).bind fun r7 => some (r7, r4)) (b_X12_likely_64 z0 a b p n c5) (fun r s => r.1 = s.1) := fun fl c5 hc => by
    obtain ⟨u, s, hu, hsm, hpp⟩ := sim_set (p := p) (b := b) ha hL hs W en fl c5 hc
    rw [hu, hsm]
    refine T2_le rfl ?_
    exact T2_le (show f_X2_above u = some (u.2 37 6) from rfl) (T2_le (show f_X2_below u = some (u.2 37 7) from rfl) (T2_le hpp (T2_s rfl)))
  by_cases c : jshr b n = 0
  · rw [if_pos c, if_pos c]
    exact fin 1 1 (Or.inr ⟨rfl, rfl⟩)
  · rw [if_neg c, if_neg c]
    exact fin 0 0 (Or.inl ⟨rfl, rfl⟩)
theorem opq_likely {q : SS} (h : INV q) (w : RLW q) (a b c : Int32) : T (f_X11_likely q a b c) (fun r => T (f_X12_likely r.2 a b c) (fun s => INV s.2 ∧ r.1 = s.1)) := opw_of (g := fun y => f_X12_likely y a b c) (xo_likely h a b c) (kc_f_X11_likely q q a b c (Fr_refl q)) (fun y hy => mo_likely hy a b c) (fun y f hy => sim_likely h w f hy a b c)

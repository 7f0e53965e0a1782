/-! ===== likely, all: the calls ===== -/
theorem T2_fl27 {A0 A1 B0 B1 B2 B3 B4 B5 B6 α β : Type} {R : α → β → Prop} {F : (A0 → A1 → Option α) → A0 → A1 → Option α} {G : (B0 → B1 → B2 → B3 → B4 → B5 → B6 → Option β) → B0 → B1 → B2 → B3 → B4 → B5 → B6 → Option β} (I : A0 → A1 → B0 → B1 → B2 → B3 → B4 → B5 → B6 → Prop) (μ : A0 → A1 → B0 → B1 → B2 → B3 → B4 → B5 → B6 → Nat) (h : ∀ rf rg a0 a1 b0 b1 b2 b3 b4 b5 b6, I a0 a1 b0 b1 b2 b3 b4 b5 b6 → (∀ c0 c1 d0 d1 d2 d3 d4 d5 d6, I c0 c1 d0 d1 d2 d3 d4 d5 d6 → μ c0 c1 d0 d1 d2 d3 d4 d5 d6 < μ a0 a1 b0 b1 b2 b3 b4 b5 b6 → T2 (rf c0 c1) (rg d0 d1 d2 d3 d4 d5 d6) R) → T2 (F rf a0 a1) (G rg b0 b1 b2 b3 b4 b5 b6) R) : ∀ n m a0 a1 b0 b1 b2 b3 b4 b5 b6, I a0 a1 b0 b1 b2 b3 b4 b5 b6 → μ a0 a1 b0 b1 b2 b3 b4 b5 b6 < n → μ a0 a1 b0 b1 b2 b3 b4 b5 b6 < m → T2 (fx2 F n a0 a1) (fx7 G m b0 b1 b2 b3 b4 b5 b6) R
  | 0, _, _, _, _, _, _, _, _, _, _, _, hm, _ => absurd hm (Nat.not_lt_zero _)
  | _ + 1, 0, _, _, _, _, _, _, _, _, _, _, _, hm => absurd hm (Nat.not_lt_zero _)
  | n + 1, m + 1, a0, a1, b0, b1, b2, b3, b4, b5, b6, hI, h1, h2 => h _ _ a0 a1 b0 b1 b2 b3 b4 b5 b6 hI (fun c0 c1 d0 d1 d2 d3 d4 d5 d6 hb hl => T2_fl27 I μ h n m c0 c1 d0 d1 d2 d3 d4 d5 d6 hb (by omega) (by omega))
theorem T2_fl48 {A0 A1 A2 A3 B0 B1 B2 B3 B4 B5 B6 B7 α β : Type} {R : α → β → Prop} {F : (A0 → A1 → A2 → A3 → Option α) → A0 → A1 → A2 → A3 → Option α} {G : (B0 → B1 → B2 → B3 → B4 → B5 → B6 → B7 → Option β) → B0 → B1 → B2 → B3 → B4 → B5 → B6 → B7 → Option β} (I : A0 → A1 → A2 → A3 → B0 → B1 → B2 → B3 → B4 → B5 → B6 → B7 → Prop) (μ : A0 → A1 → A2 → A3 → B0 → B1 → B2 → B3 → B4 → B5 → B6 → B7 → Nat) (h : ∀ rf rg a0 a1 a2 a3 b0 b1 b2 b3 b4 b5 b6 b7, I a0 a1 a2 a3 b0 b1 b2 b3 b4 b5 b6 b7 → (∀ c0 c1 c2 c3 d0 d1 d2 d3 d4 d5 d6 d7, I c0 c1 c2 c3 d0 d1 d2 d3 d4 d5 d6 d7 → μ c0 c1 c2 c3 d0 d1 d2 d3 d4 d5 d6 d7 < μ a0 a1 a2 a3 b0 b1 b2 b3 b4 b5 b6 b7 → T2 (rf c0 c1 c2 c3) (rg d0 d1 d2 d3 d4 d5 d6 d7) R) → T2 (F rf a0 a1 a2 a3) (G rg b0 b1 b2 b3 b4 b5 b6 b7) R) : ∀ n m a0 a1 a2 a3 b0 b1 b2 b3 b4 b5 b6 b7, I a0 a1 a2 a3 b0 b1 b2 b3 b4 b5 b6 b7 → μ a0 a1 a2 a3 b0 b1 b2 b3 b4 b5 b6 b7 < n → μ a0 a1 a2 a3 b0 b1 b2 b3 b4 b5 b6 b7 < m → T2 (fx4 F n a0 a1 a2 a3) (fx8 G m b0 b1 b2 b3 b4 b5 b6 b7) R
  | 0, _, _, _, _, _, _, _, _, _, _, _, _, _, _, hm, _ => absurd hm (Nat.not_lt_zero _)
  | _ + 1, 0, _, _, _, _, _, _, _, _, _, _, _, _, _, _, hm => absurd hm (Nat.not_lt_zero _)
  | n + 1, m + 1, a0, a1, a2, a3, b0, b1, b2, b3, b4, b5, b6, b7, hI, h1, h2 => h _ _ a0 a1 a2 a3 b0 b1 b2 b3 b4 b5 b6 b7 hI (fun c0 c1 c2 c3 d0 d1 d2 d3 d4 d5 d6 d7 hb hl => T2_fl48 I μ h n m c0 c1 c2 c3 d0 d1 d2 d3 d4 d5 d6 d7 hb (by omega) (by omega))
theorem beg2 {q y : SS} {a : Int32} (h : INV q) (w : RLW q) (f : MC q y) (hy : INV y) (ha : 0 ≤ a.toInt ∧ a.toInt < 6) (h27 : q.1 27 a.toNatClampNeg = 0) : ∃ (r z0 : SS) (n : Int32) (L : Int), f_X2_begin q a = some r ∧ f_X12_layNow y = some z0 ∧ f_X12_longOf z0 a 12 = some n ∧ n = r.1 37 3 ∧ (0 ≤ L ∧ L ≤ 12) ∧ (∀ i : Nat, (i : Int) < L → ISl q a i) ∧ WL2 q a L r z0 := by
  have hY := INV_RY h
  have an : a.toNatClampNeg < 6 := by
    show a.toInt.toNat < 6
    omega
  have sz := RS_size0 (INV_RS h) _ an
  obtain ⟨r, hr, ⟨x2, xo, x25, x37, x38, xs⟩, hrI⟩ := T_ar (x_beg h ha h27) (xT_begin h a)
  obtain ⟨z0, hz0, hz⟩ := m_now (INV_RY hy)
  have nX : NWX q (sR (sR r 37 (q.1 37)) 38 (q.1 38)) := ⟨x2, fun k hk => by
    by_cases c38 : k = 38
    · rw [c38]; exact funext fun i => by rw [sR_rd, if_pos rfl]
    · rw [sR_ro c38]
      by_cases c37 : k = 37
      · rw [c37]; exact funext fun i => by rw [sR_rd, if_pos rfl]
      · rw [sR_ro c37]; exact xo k hk c37 c38, fun t ht => by rw [sR_ro (by decide), sR_ro (by decide)]; exact x25 t ht⟩
  obtain ⟨O, z6, z1, z32, y10⟩ := OK2_now h w f nX hz
  have Or : OK2 r z0 := O
  have r10 : r.1 10 0 = q.1 68 0 := y10
  have H : TH r z0 := ⟨Or, r10.trans z32.symm, hrI, NWM_I hy hz⟩
  have z91 : z0.2 91 = q.2 91 := by rw [hz.1]; exact f.2 91 (by decide)
  have z90 : z0.1 90 = q.1 90 := (hz.2.1 90 (by decide) (by decide)).trans (f.1 90 (by decide))
  have isl : ∀ k, ISl z0 a k ↔ ISl q a k := fun k => by
    unfold ISl
    rw [z6, z1, z91]
  have k0 := RY_k0 hY
  have p0 := RY_p0 hY
  have l12 : (12 : Int32).toInt = 12 := rfl
  obtain ⟨n, hn, ⟨n0, nm, ns⟩, nI, nE⟩ := m_longE (z := z0) (a := a) (m := 12) (by rw [z1]; exact p0) (by rw [z6]; exact k0) ha (by decide) (by rw [z90]; exact sz.1)
  rw [l12] at nm nE
  rw [z90] at ns nE
  have e : n.toInt = (r.1 37 3).toInt := by
    by_cases g : n.toInt < (r.1 37 3).toInt
    · exact absurd ((isl _).mpr (x38 n.toInt.toNat (by omega)).2) (nE (by omega) (by omega))
    · by_cases g2 : (r.1 37 3).toInt < n.toInt
      · exact absurd ((isl _).mp (nI (r.1 37 3).toInt.toNat (by omega))) (xs (by omega) (by omega))
      · omega
  exact ⟨r, z0, n, (r.1 37 3).toInt, hr, hz0, hn, Int32.toInt_inj.mp e, ⟨x37.1, x37.2.1⟩, fun i hi => (x38 i hi).2, H, rfl, fun i hi => (x38 i hi).1, z91, z1, z6⟩
/-- what the two sides read at a place of the row -/
theorem WL2_at {q y z : SS} {a l : Int32} {L : Int} (ha : 0 ≤ a.toInt ∧ a.toInt < 6) (L12 : L ≤ 12) (hs : ∀ i : Nat, (i : Int) < L → ISl q a i) (W : WL2 q a L y z) (b0 : 0 ≤ l.toInt) (bL : l.toInt < L) : ∃ v : Int32, f_X12_at z a l = some v ∧ (0 ≤ (v / 8).toInt ∧ (v / 8).toInt < (z.1 60 6).toInt) ∧ (0 ≤ (jrem v 8).toInt ∧ (jrem v 8).toInt < (z.1 60 1).toInt) ∧ ∀ u : SS, u.1 37 = y.1 37 → u.1 38 = y.1 38 → f_X2_ticketAt u l = some (v / 8) ∧ f_X2_toAt u l = some (jrem v 8) := by
  obtain ⟨H, w3, w38, w91, z1, z6⟩ := W
  obtain ⟨s0, s1, s2⟩ := hs l.toInt.toNat (by omega)
  have v38 := w38 l.toInt.toNat (by omega)
  refine ⟨(q.2 91 (60 * a.toNatClampNeg + l.toInt.toNat)).toInt32, ?_, ?_⟩
  · rw [m_at ha ⟨b0, by omega⟩, w91]
    rfl
  generalize (q.2 91 (60 * a.toNatClampNeg + l.toInt.toNat)).toInt32 = v at s0 s1 s2 v38
  have d8 := div8 s0
  have r8 := rem8 s0
  refine ⟨by rw [z6]; omega, by rw [z1]; omega, fun u h1 h2 => ?_⟩
  have h3 : u.1 37 3 = y.1 37 3 := by rw [h1]
  have kN : l.toNatClampNeg = l.toInt.toNat := rfl
  rw [tAt_E b0 (by rw [h3, w3]; exact bL) (by omega), oAt_E b0 (by rw [h3, w3]; exact bL) (by omega), h2, kN, v38, shr_div s0, and_rem s0]
  exact ⟨rfl, rfl⟩
theorem sim_all {q y : SS} (h : INV q) (w : RLW q) (f : MC q y) (hy : INV y) (a b : Int32) : T2 (f_X11_all q a b) (f_X12_all y a b) (fun r s => r.1 = s.1) := by
  have l0 : (0 : Int32).toInt = 0 := rfl
  have l12 : (12 : Int64).toInt = 12 := rfl
  have rf : T2 (some ((-9223372036854775808 : Int64), q)) (some ((-9223372036854775808 : Int64), y)) (fun r s => r.1 = s.1) := T2_s rfl
  unfold f_X11_all f_X12_all
  refine T2_re (m_isShelf y a) ?_
  by_cases ha : 0 ≤ a.toInt ∧ a.toInt < 6
  rotate_left
  · rw [bI_f ha]
    refine T2_le (x_refBytes q a) ?_
    rw [if_neg ha]
    exact T2_ql (by decide) (T2_pr rfl rf)
  obtain ⟨v, v0, v27, xe, me⟩ := flt_E h f ha
  rw [bI_t ha]
  refine T2_qr (by decide) (T2_re (m_in y b 0 1) (T2_le xe ?_))
  by_cases hb : (0 : Int32).toInt ≤ b.toInt ∧ b.toInt ≤ (1 : Int32).toInt
  rotate_left
  · rw [bI_f hb]
    refine T2_pr rfl ?_
    by_cases ev : v = 0
    · refine T2_pl ev (T2_le (isPart_x q b) ?_)
      rw [bI_f (show ¬ (0 ≤ b.toInt ∧ b.toInt ≤ 1) from hb)]
      exact T2_pl rfl rf
    · exact T2_ql ev rf
  rw [bI_t hb]
  refine T2_qr (by decide) (T2_re me ?_)
  by_cases ev : v = 0
  rotate_left
  · have vn : v.toInt < 0 := v0.resolve_left ev
    exact T2_ql ev (T2_qr (fun e => by have := Int32.le_iff_toInt_le.mp e; omega) rf)
  refine T2_pl ev (T2_le (isPart_x q b) ?_)
  rw [bI_t (show 0 ≤ b.toInt ∧ b.toInt ≤ 1 from hb)]
  obtain ⟨r, z0, n, L, e1, e2, e3, en, hL, hs, W⟩ := beg2 h w f hy ha (v27 ev)
  refine T2_ql (by decide) (T2_le e1 (T2_pr (by rw [ev]; decide) (T2_re e2 (T2_re e3 ?_))))
  unfold f_X2_weighAllThatCan
  have W0 : WL2 q a L (sL (sL r 37 6 1) 37 7 1) z0 := ⟨TH_L (TH_L W.1), W.2.1, W.2.2.1, W.2.2.2.1, W.2.2.2.2.1, W.2.2.2.2.2⟩
  have loop : T2 (b_X2_weighAllThatCan_12 (sL (sL r 37 6 1) 37 7 1) 0) (b_X12_all_49 z0 a b n 1 1 0) (fun u s => f_X11_partOf u (u.2 37 6) (u.2 37 7) b = some s.1) := by
    unfold b_X2_weighAllThatCan_12 b_X12_all_49
    refine T2_fl27 (fun yc l1 zc k1 k2 k3 k4 k6 k8 => k1 = a ∧ k2 = b ∧ k3 = n ∧ k8 = l1 ∧ (0 ≤ l1.toInt ∧ l1.toInt ≤ 12) ∧ WL2 q a L yc zc ∧ yc.1 37 3 = n ∧ yc.2 37 6 = k4 ∧ yc.2 37 7 = k6 ∧ FB k4 k6 l1.toInt) (fun _ l1 _ _ _ _ _ _ _ => (12 - l1.toInt).toNat) ?_ _ _ _ _ _ _ _ _ _ _ _ ⟨rfl, rfl, rfl, rfl, by decide, W0, en.symm, rfl, rfl, by decide, by decide, by decide, by decide⟩ (by unfold FU; decide) (by unfold FU; decide)
    rintro rf rg yc l1 zc k1 k2 k3 k4 k6 k8 ⟨rfl, rfl, rfl, rfl, ⟨b0, b1⟩, W, e37, e6, e7, B⟩ hr
    have w3 := W.2.1
    rw [e37]
    by_cases c : k3 ≤ k8
    · obtain ⟨g, g1, g2⟩ := low_eq (q := yc) (r := zc) (a := k4) (b := k6) B.1 (by have := B.2.2.1; omega) (fun x => by have := B.2.2.1; omega) k2
      refine T2_pl c (T2_pr c (T2_re g2 (T2_s ?_)))
      rw [e6, e7]
      exact g1
    · have c' := Int32.lt_iff_toInt_lt.mp (Int32.not_le.mp c)
      have kL : k8.toInt < L := by rw [← w3, e37]; exact c'
      have i := inc1 (a := k8) (by omega) (by omega)
      obtain ⟨v, va, ht, hp, tA⟩ := WL2_at ha hL.2 hs W b0 kL
      obtain ⟨sv, hsv, cs, ms⟩ := TH_slip W.1 ht hp
      have t1 := tA yc rfl rfl
      unfold b_X2_weighAllThatCan_46 b_X12_all_124
      refine T2_ql c (T2_qr c (T2_le t1.1 (T2_le t1.2 (T2_le cs (T2_re va (T2_nr (T2_re va (T2_nr (T2_re ms ?_)))))))))
      rcases hsv with rfl | rfl
      · refine T2_pl rfl (T2_pr rfl (hr _ _ _ _ _ _ _ _ _ ⟨rfl, rfl, rfl, rfl, by omega, W, e37, e6, e7, ?_⟩ (by omega)))
        rw [i]
        exact FB_keep B b0
      · refine T2_ql (by decide) (T2_qr (by decide) (T2_bb (x_stepE (f := 1) W ht hp (Or.inr rfl) tA) (fun u s hus => ?_)))
        obtain ⟨o, so, ho, u6, u7, W2⟩ := hus
        rw [if_neg (by decide)] at u6 W2
        have k := TH_K W.1
        refine T2_nr (T2_nr (T2_pr ⟨ht.1, by show (v / 8).toInt < 12; omega⟩ (T2_nr (hr _ _ _ _ _ _ _ _ _ ⟨rfl, rfl, rfl, rfl, by omega, W2, ?_, ?_, ?_, ?_⟩ (by omega)))))
        · exact Int32.toInt_inj.mp (by rw [W2.2.1, ← w3, e37])
        · rw [u6, e6, so]
        · rw [u7, e7]
        · rw [i, so]
          exact FB_step B (by omega) (by rw [i64]; exact ho)
  obtain ⟨u, s, hu, hsm, hp⟩ := loop
  rw [hsm]
  refine T2_le (show (nm (sL r 37 6 1) fun q1 => nm (sL q1 37 7 1) fun q2 => b_X2_weighAllThatCan_12 q2 0) = some u by unfold nm; exact hu) ?_
  exact T2_le (show f_X2_above u = some (u.2 37 6) from rfl) (T2_le (show f_X2_below u = some (u.2 37 7) from rfl) (T2_le hp (T2_s rfl)))
theorem opq_all {q : SS} (h : INV q) (w : RLW q) (a b : Int32) : T (f_X11_all q a b) (fun r => T (f_X12_all r.2 a b) (fun s => INV s.2 ∧ r.1 = s.1)) := opw_of (g := fun y => f_X12_all y a b) (xo_all h a b) (kc_f_X11_all q q a b (Fr_refl q)) (fun y hy => mo_all hy a b) (fun y f hy => sim_all h w f hy a b)

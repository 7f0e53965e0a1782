/-! ===== two thoughts, side by side ===== -/
theorem T2_fl55 {A0 A1 A2 A3 A4 B0 B1 B2 B3 B4 α β : Type} {R : α → β → Prop} {F : (A0 → A1 → A2 → A3 → A4 → Option α) → A0 → A1 → A2 → A3 → A4 → Option α} {G : (B0 → B1 → B2 → B3 → B4 → Option β) → B0 → B1 → B2 → B3 → B4 → Option β} (I : A0 → A1 → A2 → A3 → A4 → B0 → B1 → B2 → B3 → B4 → Prop) (μ : A0 → A1 → A2 → A3 → A4 → B0 → B1 → B2 → B3 → B4 → Nat) (h : ∀ rf rg a0 a1 a2 a3 a4 b0 b1 b2 b3 b4, I a0 a1 a2 a3 a4 b0 b1 b2 b3 b4 → (∀ c0 c1 c2 c3 c4 d0 d1 d2 d3 d4, I c0 c1 c2 c3 c4 d0 d1 d2 d3 d4 → μ c0 c1 c2 c3 c4 d0 d1 d2 d3 d4 < μ a0 a1 a2 a3 a4 b0 b1 b2 b3 b4 → T2 (rf c0 c1 c2 c3 c4) (rg d0 d1 d2 d3 d4) R) → T2 (F rf a0 a1 a2 a3 a4) (G rg b0 b1 b2 b3 b4) R) : ∀ n m a0 a1 a2 a3 a4 b0 b1 b2 b3 b4, I a0 a1 a2 a3 a4 b0 b1 b2 b3 b4 → μ a0 a1 a2 a3 a4 b0 b1 b2 b3 b4 < n → μ a0 a1 a2 a3 a4 b0 b1 b2 b3 b4 < m → T2 (fx5 F n a0 a1 a2 a3 a4) (fx5 G m b0 b1 b2 b3 b4) R
  | 0, _, _, _, _, _, _, _, _, _, _, _, _, hm, _ => absurd hm (Nat.not_lt_zero _)
  | _ + 1, 0, _, _, _, _, _, _, _, _, _, _, _, _, hm => absurd hm (Nat.not_lt_zero _)
  | n + 1, m + 1, a0, a1, a2, a3, a4, b0, b1, b2, b3, b4, hI, h1, h2 => h _ _ a0 a1 a2 a3 a4 b0 b1 b2 b3 b4 hI (fun c0 c1 c2 c3 c4 d0 d1 d2 d3 d4 hb hl => T2_fl55 I μ h n m c0 c1 c2 c3 c4 d0 d1 d2 d3 d4 hb (by omega) (by omega))
theorem T2_fl34 {A0 A1 A2 B0 B1 B2 B3 α β : Type} {R : α → β → Prop} {F : (A0 → A1 → A2 → Option α) → A0 → A1 → A2 → Option α} {G : (B0 → B1 → B2 → B3 → Option β) → B0 → B1 → B2 → B3 → Option β} (I : A0 → A1 → A2 → B0 → B1 → B2 → B3 → Prop) (μ : A0 → A1 → A2 → B0 → B1 → B2 → B3 → Nat) (h : ∀ rf rg a0 a1 a2 b0 b1 b2 b3, I a0 a1 a2 b0 b1 b2 b3 → (∀ c0 c1 c2 d0 d1 d2 d3, I c0 c1 c2 d0 d1 d2 d3 → μ c0 c1 c2 d0 d1 d2 d3 < μ a0 a1 a2 b0 b1 b2 b3 → T2 (rf c0 c1 c2) (rg d0 d1 d2 d3) R) → T2 (F rf a0 a1 a2) (G rg b0 b1 b2 b3) R) : ∀ n m a0 a1 a2 b0 b1 b2 b3, I a0 a1 a2 b0 b1 b2 b3 → μ a0 a1 a2 b0 b1 b2 b3 < n → μ a0 a1 a2 b0 b1 b2 b3 < m → T2 (fx3 F n a0 a1 a2) (fx4 G m b0 b1 b2 b3) R
  | 0, _, _, _, _, _, _, _, _, _, hm, _ => absurd hm (Nat.not_lt_zero _)
  | _ + 1, 0, _, _, _, _, _, _, _, _, _, hm => absurd hm (Nat.not_lt_zero _)
  | n + 1, m + 1, a0, a1, a2, b0, b1, b2, b3, hI, h1, h2 => h _ _ a0 a1 a2 b0 b1 b2 b3 hI (fun c0 c1 c2 d0 d1 d2 d3 hb hl => T2_fl34 I μ h n m c0 c1 c2 d0 d1 d2 d3 hb (by omega) (by omega))
def TH (y z : SS) : Prop := OK2 y z ∧ y.1 10 0 = z.1 60 32 ∧ INV y ∧ INV z
theorem TH_K {y z : SS} (H : TH y z) : (y.1 1 2 = z.1 60 6 ∧ 0 ≤ (z.1 60 6).toInt ∧ (z.1 60 6).toInt ≤ 12) ∧ (y.1 1 1 = z.1 60 1 ∧ 0 ≤ (z.1 60 1).toInt ∧ (z.1 60 1).toInt ≤ 6) := ⟨⟨H.1.2.2.2.2.2.1, H.1.2.2.2.2.2.2.2.1⟩, ⟨H.1.2.2.2.2.1, H.1.2.2.2.2.2.2.1⟩⟩
theorem TH_81 {y z : SS} (H : TH y z) {t : Nat} (ht : (t : Int) < (z.1 60 6).toInt) : y.1 25 t = z.1 81 t ∧ 0 ≤ (z.1 81 t).toInt ∧ (z.1 81 t).toInt < (z.1 60 1).toInt := H.1.2.2.2.2.2.2.2.2.2.1 t ht
theorem held_E {y z : SS} (O : OK2 y z) (p : Int32) : ∃ hd, f_X8_heldBy y p = some hd ∧ f_X12_manyOf z p = some hd := by
  obtain ⟨e3, e4, e9, e11, eP, eK, hP, hK, r67, r81, _⟩ := O
  refine ⟨_, ?_, m_manyOf (by omega) (by omega) p⟩
  rw [x_heldBy (by rw [eK]; omega) (by rw [eK]; omega), eK]
  rw [cntN_c (fun t ht => by rw [(r81 t (by omega)).1])]
theorem OK2_E {y z y' z' : SS} (O : OK2 y z) (f : Fr wE v0 y y') (g : F79 z z') : OK2 y' z' := by
  obtain ⟨e3, e4, e9, e11, eP, eK, hP, hK, r67, r81, hW, hL⟩ := O
  have go : ∀ k, k ≠ 80 → k ≠ 79 → z'.1 k = z.1 k := g.2
  have y3 : y'.1 3 = y.1 3 := Fr_r f (fun _ => rfl)
  have y4 : y'.1 4 = y.1 4 := Fr_r f (fun _ => rfl)
  have y9 : y'.1 9 = y.1 9 := Fr_r f (fun _ => rfl)
  have y1 : y'.1 1 = y.1 1 := Fr_r f (fun _ => rfl)
  have y25 : y'.1 25 = y.1 25 := Fr_r f (fun _ => rfl)
  have y13 : y'.1 13 = y.1 13 := Fr_r f (fun _ => rfl)
  have y14 : y'.1 14 = y.1 14 := Fr_r f (fun _ => rfl)
  have y11 : y'.1 11 0 = y.1 11 0 := f.1 11 0 rfl
  have y12 : y'.1 12 4 = y.1 12 4 := f.1 12 4 rfl
  have z60 := go 60 (by decide) (by decide)
  have z61 := go 61 (by decide) (by decide)
  have z62 := go 62 (by decide) (by decide)
  have z67 := go 67 (by decide) (by decide)
  have z68 := go 68 (by decide) (by decide)
  have z81 := go 81 (by decide) (by decide)
  have z74 := go 74 (by decide) (by decide)
  have z75 := go 75 (by decide) (by decide)
  have z76 := go 76 (by decide) (by decide)
  have z77 := go 77 (by decide) (by decide)
  have z78 := go 78 (by decide) (by decide)
  refine ⟨by rw [y3, z61]; exact e3, by rw [y4, z62]; exact e4, by rw [y9, z67]; exact e9, by rw [y11, z68]; exact e11, by rw [y1, z60]; exact eP, by rw [y1, z60]; exact eK, by rw [z60]; exact hP, by rw [z60]; exact hK, by rw [z60, z67]; exact r67, by rw [z60, z81, y25]; exact r81, RW_fr z74 z75 z77 z78 (by rw [z60]) (by rw [z76]) hW, ?_⟩
  rw [z60, y12]
  rcases hL with h | ⟨h1, h2, h3, cs, L⟩
  · exact Or.inl h
  · refine Or.inr ⟨h1, h2, h3, cs, ?_⟩
    have L2 : LAw2 y' z cs := by
      unfold LAw2 at L ⊢
      rw [y12, y13, y14]
      exact L
    exact LAw2_c L2 z74 z75 z76 z77 z78
theorem TH_E {y z y' z' : SS} (H : TH y z) (f : Fr wE v0 y y') (g : F79 z z') : TH y' z' := ⟨OK2_E H.1 f g, by rw [f.1 10 0 rfl, g.2 60 (by decide) (by decide)]; exact H.2.1, INV_wE f H.2.2.1, INV_79 H.2.2.2 g⟩
theorem TH_odds {y z : SS} {t p : Int32} (H : TH y z) (ht : 0 ≤ t.toInt ∧ t.toInt < (z.1 60 6).toInt) (hp : 0 ≤ p.toInt ∧ p.toInt < (z.1 60 1).toInt) : T2 (f_X8_oddsOf y t p) (f_X12_oddsOf z t p) (fun r s => r.1 = s.1 ∧ (0 ≤ r.1.toInt ∧ r.1.toInt ≤ 12) ∧ Fr wE v0 y r.2 ∧ F79 z s.2) := by
  obtain ⟨hd, hx, hm⟩ := held_E H.1 p
  have k := TH_K H
  have E := ev_of H.1 ht hp H.2.1.symm rfl hx hm
  exact T2_m (T2_ar (T2_al E (x_oddsOf (PK_Y (INV_RY H.2.2.1)) t p)) (m_oddsOf H.2.2.2 (by omega) (by omega))) (fun r s h => ⟨h.1.1, h.1.2.2, h.1.2.1, h.2.1⟩)
theorem TH_slip {y z : SS} {t p : Int32} (H : TH y z) (ht : 0 ≤ t.toInt ∧ t.toInt < (z.1 60 6).toInt) (hp : 0 ≤ p.toInt ∧ p.toInt < (z.1 60 1).toInt) : ∃ v : Int32, (v = 0 ∨ v = 1) ∧ f_X8_canSlip y t p = some v ∧ f_X12_maySlip z t p = some v := by
  have k := TH_K H
  have b81 := TH_81 H (t := t.toNatClampNeg) (by show ((t.toInt.toNat : Nat) : Int) < _; omega)
  have l4 : (4 : Int32).toInt = 4 := rfl
  obtain ⟨e3, e4, e9, e11, eP, eK, hP, hK, r67, r81, _⟩ := H.1
  have b67 := r67 t.toNatClampNeg (by show ((t.toInt.toNat : Nat) : Int) < _; omega)
  refine ⟨_, ?_, x_canSlip (by rw [eP]; omega) (by rw [eK]; omega) t p, ?_⟩
  · by_cases c : (0 ≤ t.toInt ∧ t.toInt < (y.1 1 2).toInt ∧ (y.1 9 t.toNatClampNeg).toInt < 4 ∧ y.1 25 t.toNatClampNeg ≠ p ∧ 0 ≤ p.toInt ∧ p.toInt < (y.1 1 1).toInt ∧ y.1 4 p.toNatClampNeg = 0)
    · exact Or.inr (bI_1.mpr c)
    · exact Or.inl (bI_0.mpr c)
  · rw [m_maySlip (by omega) (by omega)]
    refine congrArg some (bI_c ?_)
    rw [eK, eP, e9, e4, b81.1]
    constructor
    · intro h
      refine ⟨ht.1, ht.2, ?_, h.2.1, hp.1, hp.2, h.2.2⟩
      by_cases g : (z.1 67 t.toNatClampNeg).toInt < 4
      · exact g
      · exact absurd (Int32.toInt_inj.mp (by rw [l4]; omega)) h.1
    · intro h
      exact ⟨fun e => by have := h.2.2.1; rw [e, l4] at this; omega, h.2.2.2.1, h.2.2.2.2.2.2⟩
theorem TH_now {q y y0 z0 : SS} (h : INV q) (w : RLW q) (f : MC q y) (hy : INV y) (n : NWX q y0) (m : NWM y z0) : TH y0 z0 ∧ z0.1 60 6 = q.1 60 6 ∧ z0.1 60 1 = q.1 60 1 := by
  obtain ⟨O, z6, z1, z32, y10⟩ := OK2_now h w f n m
  exact ⟨⟨O, y10.trans z32.symm, NWX_I h n, NWM_I hy m⟩, z6, z1⟩
/-! ===== watch ===== -/
theorem sim_watch {q y : SS} (h : INV q) (w : RLW q) (f : MC q y) (hy : INV y) (a : Int32) : T2 (f_X11_watch q a) (f_X12_watch y a) (fun r s => r.1 = s.1) := by
  have hY := INV_RY h
  have l0 : (0 : Int32).toInt = 0 := rfl
  have y60 : y.1 60 = q.1 60 := f.1 60 (by decide)
  unfold f_X11_watch f_X12_watch
  refine T2_le (x_isPerson q a) (T2_re (m_isOne (by rw [y60]; exact RY_p0 hY) a) ?_)
  rw [RY_p hY, y60]
  by_cases c : 0 ≤ a.toInt ∧ a.toInt < (q.1 60 1).toInt
  · rw [show bI (0 ≤ a.toInt ∧ a.toInt < (q.1 60 1).toInt) = 1 from bI_1.mpr c]
    refine T2_ql (by decide) (T2_qr (by decide) (T2_l (x_now hY) (fun y0 hn => T2_r (m_now (INV_RY hy)) (fun z0 hm => ?_))))
    obtain ⟨H, z6, z1⟩ := TH_now h w f hy hn hm
    unfold b_X11_watch_27 b_X12_watch_22
    refine T2_fl55 (fun yc l1 l3 l4 l5 zc m1 m2 m3 m4 => l1 = a ∧ m1 = a ∧ m4 = l5 ∧ TH yc zc ∧ zc.1 60 6 = q.1 60 6 ∧ zc.1 60 1 = q.1 60 1 ∧ (0 ≤ l5.toInt ∧ l5.toInt ≤ 12) ∧ ((l3 = -1 ∧ m2 = -2) ∨ (m3 = l3 ∧ m2 = l4 ∧ 0 ≤ l3.toInt ∧ 0 ≤ l4.toInt))) (fun _ _ _ _ l5 _ _ _ _ _ => (12 - l5.toInt).toNat) ?_ _ _ _ _ _ _ _ _ _ _ _ _ ⟨rfl, rfl, rfl, H, z6, z1, by decide, Or.inl ⟨rfl, rfl⟩⟩ (by unfold FU; decide) (by unfold FU; decide)
    rintro rf rg yc l1 l3 l4 l5 zc m1 m2 m3 m4 ⟨rfl, rfl, rfl, H, z6, z1, ⟨g0, g1⟩, hc⟩ hr
    have k := TH_K H
    have nl : l3 = -1 → ¬ (0 : Int32) ≤ l3 := fun e => by rw [e]; decide
    refine T2_le (show f_X10_tickets yc = some (yc.1 1 2) from rfl) ?_
    rw [k.1.1]
    by_cases e : zc.1 60 6 ≤ m4
    · refine T2_pl e (T2_pr e ?_)
      rcases hc with ⟨e1, e2⟩ | ⟨e1, e2, e3, e4⟩
      · rw [e1, e2]
        exact T2_ql (by decide) (T2_qr (by decide) (T2_s rfl))
      · rw [e1, e2]
        exact T2_pl (Int32.le_iff_toInt_le.mpr (by omega)) (T2_pr (Int32.le_iff_toInt_le.mpr (by omega)) (T2_s rfl))
    · have e' := Int32.lt_iff_toInt_lt.mp (Int32.not_le.mp e)
      have i := inc1 (a := m4) (by omega) (by omega)
      have hp : 0 ≤ m1.toInt ∧ m1.toInt < (zc.1 60 1).toInt := by rw [z1]; exact c
      obtain ⟨v, hv, cs, ms⟩ := TH_slip (t := m4) (p := m1) H ⟨g0, e'⟩ hp
      unfold b_X11_watch_92 b_X12_watch_93 b_X11_watch_85 b_X12_watch_87 b_X11_watch_92 b_X12_watch_93
      refine T2_ql e (T2_qr e (T2_le cs (T2_re ms ?_)))
      rcases hv with rfl | rfl
      · exact T2_pl rfl (T2_pr rfl (hr _ _ _ _ _ _ _ _ _ _ ⟨rfl, rfl, rfl, H, z6, z1, by omega, hc⟩ (by omega)))
      · refine T2_ql (by decide) (T2_qr (by decide) (T2_bb (TH_odds H ⟨g0, e'⟩ hp) (fun r s hrs => ?_)))
        obtain ⟨o1, o2, fE, f9⟩ := hrs
        have H2 := TH_E H fE f9
        have k2 := TH_K H2
        have s6 : s.2.1 60 6 = q.1 60 6 := by rw [f9.2 60 (by decide) (by decide)]; exact z6
        have s1 : s.2.1 60 1 = q.1 60 1 := by rw [f9.2 60 (by decide) (by decide)]; exact z1
        have ht2 : 0 ≤ m4.toInt ∧ m4.toInt < (s.2.1 60 6).toInt := by rw [s6, ← z6]; exact ⟨g0, e'⟩
        have b81 := TH_81 H2 (t := m4.toNatClampNeg) (by show ((m4.toInt.toNat : Nat) : Int) < _; omega)
        refine T2_le (x_holderOf (by rw [k2.1.1]; omega) m4) (T2_pr ⟨g0, by show m4.toInt < 12; omega⟩ (T2_nr ?_))
        rw [k2.1.1, if_pos ht2, b81.1, ← o1]
        have take : T2 (rf r.2 m1 r.1 (s.2.1 81 m4.toNatClampNeg) (m4 + 1)) (rg s.2 m1 (s.2.1 81 m4.toNatClampNeg) r.1 (m4 + 1)) (fun r s => r.1 = s.1) := hr _ _ _ _ _ _ _ _ _ _ ⟨rfl, rfl, rfl, H2, s6, s1, by omega, Or.inr ⟨rfl, rfl, o2.1, b81.2.1⟩⟩ (by omega)
        have skip : T2 (rf r.2 m1 l3 l4 (m4 + 1)) (rg s.2 m1 m2 m3 (m4 + 1)) (fun r s => r.1 = s.1) := hr _ _ _ _ _ _ _ _ _ _ ⟨rfl, rfl, rfl, H2, s6, s1, by omega, hc⟩ (by omega)
        rcases hc with ⟨e1, e2⟩ | ⟨e1, e2, e3, e4⟩
        · refine T2_pl (Int32.lt_iff_toInt_lt.mpr (by rw [e1, m1i]; omega)) (T2_pr (by rw [e2]; decide) take)
        · rw [e1, e2] at skip ⊢
          refine T2_qr (fun x => by have := Int32.lt_iff_toInt_lt.mp x; omega) ?_
          by_cases c1 : l3 < r.1
          · have c1' := Int32.lt_iff_toInt_lt.mp c1
            exact T2_pl c1 (T2_qr (fun x => by have := Int32.lt_iff_toInt_lt.mp x; omega) (T2_qr (fun x => by rw [x] at c1'; omega) take))
          · have c1' := Int32.le_iff_toInt_le.mp (Int32.not_lt.mp c1)
            refine T2_ql c1 ?_
            by_cases c2 : r.1 = l3
            · refine T2_pl c2 (T2_qr (fun x => by have := Int32.lt_iff_toInt_lt.mp x; rw [c2] at this; omega) (T2_pr c2 ?_))
              by_cases c3 : l4 ≤ s.2.1 81 m4.toNatClampNeg
              · exact T2_pl c3 (T2_qr (fun x => by have := Int32.lt_iff_toInt_lt.mp x; have := Int32.le_iff_toInt_le.mp c3; omega) skip)
              · exact T2_ql c3 (T2_pr (Int32.not_le.mp c3) take)
            · have n2 : r.1.toInt ≠ l3.toInt := fun x => c2 (Int32.toInt_inj.mp x)
              exact T2_ql c2 (T2_pr (Int32.lt_iff_toInt_lt.mpr (by omega)) skip)
  · rw [show bI (0 ≤ a.toInt ∧ a.toInt < (q.1 60 1).toInt) = 0 from bI_0.mpr c]
    exact T2_pl rfl (T2_pr rfl (T2_s rfl))
/-- from a simulation of the two calls to the call's pair -/
theorem opw_of {α : Type} {q : SS} {o1 : Option (α × SS)} {g : SS → Option (α × SS)} (x : T o1 (fun r => INV r.2)) (fx : KC q o1 (fun r => r.2)) (m : ∀ y, INV y → T (g y) (fun s => INV s.2)) (S : ∀ y, MC q y → INV y → T2 o1 (g y) (fun r s => r.1 = s.1)) : T o1 (fun r => T (g r.2) (fun s => INV s.2 ∧ r.1 = s.1)) := by
  obtain ⟨r, hr, hI⟩ := x
  obtain ⟨s, hs, hJ⟩ := m r.2 hI
  obtain ⟨r2, s2, h1, h2, e⟩ := S r.2 (MC_of (fx r hr)) hI
  rw [hr] at h1
  cases h1
  rw [hs] at h2
  cases h2
  exact ⟨r, hr, s, hs, hJ, e⟩
theorem opq_odds {q : SS} (h : INV q) (w : RLW q) (a : Int32) : T (f_X11_odds q a) (fun r => T (f_X12_odds r.2 a) (fun s => INV s.2 ∧ r.1 = s.1)) := opw_of (g := fun y => f_X12_odds y a) (xo_odds h a) (kc_f_X11_odds q q a (Fr_refl q)) (fun y hy => mo_odds hy a) (fun y f _ => sim_odds h w f a)
theorem opq_watch {q : SS} (h : INV q) (w : RLW q) (a : Int32) : T (f_X11_watch q a) (fun r => T (f_X12_watch r.2 a) (fun s => INV s.2 ∧ r.1 = s.1)) := opw_of (g := fun y => f_X12_watch y a) (xo_watch h a) (kc_f_X11_watch q q a (Fr_refl q)) (fun y hy => mo_watch hy a) (fun y f hy => sim_watch h w f hy a)
/-! ===== an eve on either side ===== -/
def XB (q : SS) (a : Int32) (r : SS) : Prop := r.2 = q.2 ∧ (∀ k, k ≠ 25 → k ≠ 37 → k ≠ 38 → r.1 k = q.1 k) ∧ (∀ t : Nat, (t : Int) < (q.1 60 6).toInt → r.1 25 t = q.1 65 t) ∧ (0 ≤ (r.1 37 3).toInt ∧ (r.1 37 3).toInt ≤ 12 ∧ (r.1 37 3).toInt ≤ (q.1 90 a.toNatClampNeg).toInt) ∧ (∀ i : Nat, (i : Int) < (r.1 37 3).toInt → r.1 38 i = (q.2 91 (60 * a.toNatClampNeg + i)).toInt32 ∧ ISl q a i) ∧ ((r.1 37 3).toInt < 12 → (r.1 37 3).toInt < (q.1 90 a.toNatClampNeg).toInt → ¬ ISl q a (r.1 37 3).toInt.toNat)
theorem x_beg {q : SS} (h : INV q) {a : Int32} (ha : 0 ≤ a.toInt ∧ a.toInt < 6) (h27 : q.1 27 a.toNatClampNeg = 0) : T (f_X2_begin q a) (XB q a) := by
  have hY := INV_RY h
  have hS := INV_RS h
  have l0 : (0 : Int32).toInt = 0 := rfl
  have l12 : (12 : Int32).toInt = 12 := rfl
  have an : a.toNatClampNeg < 6 := by
    show a.toInt.toNat < 6
    omega
  have sz := RS_size0 hS _ an
  have e28 : q.1 28 = q.1 90 := RS_size hS
  unfold f_X2_begin
  refine T_b (x_begin hY) (fun r hr => T_rw (x_sizeOf r a) (T_nm (T_nm ?_)))
  obtain ⟨r2, ro, r25⟩ := hr
  rw [ro 27 (by decide), ro 28 (by decide), h27, e28, if_pos ⟨ha.1, ha.2, by decide, by decide⟩]
  have hm : ∃ m : Int32, jmin (12 : Int32) (q.1 90 a.toNatClampNeg) = m ∧ 0 ≤ m.toInt ∧ m.toInt ≤ 12 ∧ m.toInt ≤ (q.1 90 a.toNatClampNeg).toInt ∧ (m.toInt = 12 ∨ m.toInt = (q.1 90 a.toNatClampNeg).toInt) := by
    refine ⟨_, rfl, ?_⟩
    unfold jmin
    simp only [Int32.lt_iff_toInt_lt]
    split <;> omega
  obtain ⟨m, em, m0, m12, ms, mc⟩ := hm
  rw [em]
  unfold b_X2_begin_26
  refine T_fx4 (fun z l2 l3 l4 => l2 = a ∧ l3 = m ∧ (0 ≤ l4.toInt ∧ l4.toInt ≤ m.toInt) ∧ z.2 = q.2 ∧ (∀ k, k ≠ 25 → k ≠ 37 → k ≠ 38 → z.1 k = q.1 k) ∧ (∀ t : Nat, (t : Int) < (q.1 60 6).toInt → z.1 25 t = q.1 65 t) ∧ (z.1 37 3) = l4 ∧ (∀ i : Nat, (i : Int) < l4.toInt → z.1 38 i = (q.2 91 (60 * a.toNatClampNeg + i)).toInt32 ∧ ISl q a i)) (fun _ _ _ l4 => (12 - l4.toInt).toNat) ?_ _ _ _ _ _ ⟨rfl, rfl, ⟨by decide, by rw [l0]; exact m0⟩, r2, fun k h1 h2 h3 => by rw [sI_ro h2]; exact ro k h1, fun t ht => by rw [sI_ro (by decide)]; exact r25 t ht, rfl, fun i hi => absurd hi (by rw [l0]; omega)⟩ (by unfold FU; decide)
  rintro rec z l2 l3 l4 ⟨rfl, rfl, ⟨b0, b1⟩, z2, zo, z25, z37, zi⟩ hrec
  refine T_le (fun le => T_some.mpr ⟨z2, zo, z25, ?_, ?_, ?_⟩) (fun lt => ?_)
  · rw [z37]; omega
  · rw [z37]; exact zi
  · rw [z37]
    intro g1 g2
    omega
  have e1 := inc1 (a := l4) (by omega) (by omega)
  have hsz : szX z l2 = (q.1 90 l2.toNatClampNeg).toInt := by
    unfold szX
    rw [zo 27 (by decide) (by decide) (by decide), zo 28 (by decide) (by decide) (by decide), h27, e28, if_pos ⟨ha.1, ha.2, by decide, by decide⟩]
  have n4 : l4.toNatClampNeg = l4.toInt.toNat := rfl
  have el : z.2 (31 + l2.toNatClampNeg) l4.toNatClampNeg = q.2 91 (60 * l2.toNatClampNeg + l4.toInt.toNat) := by
    rw [z2]
    exact RS_el hS _ an (by rw [h27]; decide) _ (by omega)
  have g7 : f_X7_get z l2 l4 = some (q.2 91 (60 * l2.toNatClampNeg + l4.toInt.toNat)) := by
    rw [x_get7 z l2 l4 (by rw [hsz]; omega), hsz, if_pos ⟨b0, by omega⟩, el]
  refine T_rw g7 (T_nm (T_rw (x_isSlipping z _) ?_))
  rw [zo 1 (by decide) (by decide) (by decide), RY_p hY, RY_k hY]
  refine T_bi (fun g => T_some.mpr ⟨z2, zo, z25, ?_, ?_, ?_⟩) (fun g => T_vp b0 (by show l4.toInt < 12; omega) (T_nm (T_nm (hrec _ _ _ _ ⟨rfl, rfl, by omega, z2, fun k h1 h2 h3 => ?_, fun t ht => ?_, rfl, fun i hi => ?_⟩ (by omega)))))
  · rw [z37]; omega
  · rw [z37]; exact zi
  · rw [z37]
    intro _ _ x
    exact g x
  · rw [sI_ro h2, sI_ro h3]; exact zo k h1 h2 h3
  · rw [sI_ro (by decide), sI_ro (by decide)]; exact z25 t ht
  · rw [sI_ro (by decide), sI_rd]
    by_cases c : (i : Int) < l4.toInt
    · rw [if_neg (fun x => by have := x.2; rw [n4] at this; omega)]
      exact zi i c
    · have ei : i = l4.toInt.toNat := by omega
      subst ei
      rw [if_pos ⟨rfl, rfl⟩]
      exact ⟨rfl, g⟩
theorem m_longE {z : SS} {a m : Int32} (p0 : 0 ≤ (z.1 60 1).toInt) (k0 : 0 ≤ (z.1 60 6).toInt) (ha : 0 ≤ a.toInt ∧ a.toInt < 6) (hm : 0 ≤ m.toInt ∧ m.toInt ≤ 12) (s0 : 0 ≤ (z.1 90 a.toNatClampNeg).toInt) : T (f_X12_longOf z a m) (fun r => (0 ≤ r.toInt ∧ r.toInt ≤ m.toInt ∧ r.toInt ≤ (z.1 90 a.toNatClampNeg).toInt) ∧ (∀ k : Nat, (k : Int) < r.toInt → ISl z a k) ∧ (r.toInt < m.toInt → r.toInt < (z.1 90 a.toNatClampNeg).toInt → ¬ ISl z a r.toInt.toNat)) := by
  have l0 : (0 : Int32).toInt = 0 := rfl
  unfold f_X12_longOf b_X12_longOf_2
  refine T_fx3 (fun l1 l2 l3 => l1 = a ∧ l2 = m ∧ (0 ≤ l3.toInt ∧ l3.toInt ≤ m.toInt ∧ l3.toInt ≤ (z.1 90 a.toNatClampNeg).toInt) ∧ ∀ k : Nat, (k : Int) < l3.toInt → ISl z a k) (fun _ _ l3 => (12 - l3.toInt).toNat) ?_ _ _ _ _ ⟨rfl, rfl, by omega, fun k hk => absurd hk (by rw [l0]; omega)⟩ (by unfold FU; decide)
  rintro rec l1 l2 l3 ⟨rfl, rfl, hb, hs⟩ hr
  refine T_le (fun _ => T_some.mpr ⟨hb, hs, fun x => by omega⟩) (fun c => T_vp ha.1 ha.2 (T_le (fun _ => T_some.mpr ⟨hb, hs, fun _ x => by omega⟩) (fun _ => T_rw (m_at ha ⟨hb.1, by omega⟩) (T_rw (m_areSlip p0 k0 _) (T_bi (fun g => T_some.mpr ⟨hb, hs, fun _ _ x => g x⟩) (fun ok => ?_))))))
  have e3 := inc1 (a := l3) (by omega) (by omega)
  refine hr _ _ _ ⟨rfl, rfl, by omega, ?_⟩ (by omega)
  intro k hk
  by_cases e : (k : Int) < l3.toInt
  · exact hs k e
  · have ek : k = l3.toNatClampNeg := by
      show k = l3.toInt.toNat
      omega
    subst ek
    exact ok
theorem tAt_E {q : SS} {l : Int32} (h0 : 0 ≤ l.toInt) (h1 : l.toInt < (q.1 37 3).toInt) (h2 : l.toInt < 12) : f_X2_ticketAt q l = some (jshr (q.1 38 l.toNatClampNeg) 3) := by
  have l0 : (0 : Int32).toInt = 0 := rfl
  unfold f_X2_ticketAt
  rw [if_neg (fun e => by have := Int32.lt_iff_toInt_lt.mp e; omega), if_neg (fun e => by have := Int32.le_iff_toInt_le.mp e; omega), if_pos ⟨h0, h2⟩]
theorem oAt_E {q : SS} {l : Int32} (h0 : 0 ≤ l.toInt) (h1 : l.toInt < (q.1 37 3).toInt) (h2 : l.toInt < 12) : f_X2_toAt q l = some ((q.1 38 l.toNatClampNeg) &&& 7) := by
  have l0 : (0 : Int32).toInt = 0 := rfl
  unfold f_X2_toAt
  rw [if_neg (fun e => by have := Int32.lt_iff_toInt_lt.mp e; omega), if_neg (fun e => by have := Int32.le_iff_toInt_le.mp e; omega), if_pos ⟨h0, h2⟩]
theorem give_E {q : SS} {t p : Int32} (k12 : (q.1 1 2).toInt ≤ 12) (h0 : 0 ≤ t.toInt) (h1 : t.toInt < (q.1 1 2).toInt) : f_X8_give q t p = some (sI q 25 t.toNatClampNeg p) := by
  unfold f_X8_give
  rw [x_isTicket, bind_s, if_neg (by rw [bI_0]; exact fun x => x ⟨h0, h1⟩), if_pos ⟨h0, by omega⟩]
  rfl
theorem TH_give {y z : SS} {t p : Int32} (H : TH y z) (hp : 0 ≤ p.toInt ∧ p.toInt < (z.1 60 1).toInt) : TH (sI y 25 t.toNatClampNeg p) (sI z 81 t.toNatClampNeg p) := by
  have k := TH_K H
  obtain ⟨⟨e3, e4, e9, e11, eP, eK, hP, hK, r67, r81, hW, hL⟩, e10, hI, hJ⟩ := H
  refine ⟨⟨e3, e4, e9, e11, eP, eK, hP, hK, r67, fun j hj => ?_, RW_fr rfl rfl rfl rfl rfl rfl hW, hL⟩, e10, INV_sX hI (by unfold wX; simp) (by decide), INV_s81 hJ (by omega)⟩
  have hj' : (j : Int) < (z.1 60 6).toInt := hj
  have b := r81 j hj'
  rw [sI_rd, sI_rd]
  by_cases c : j = t.toNatClampNeg
  · rw [if_pos ⟨rfl, c⟩, if_pos ⟨rfl, c⟩]
    exact ⟨rfl, hp⟩
  · rw [if_neg (fun x => c x.2), if_neg (fun x => c x.2)]
    exact b
theorem TH_37 {y z : SS} {i : Nat} {x : Int32} (H : TH y z) (hi : i = 3 → 0 ≤ x.toInt ∧ x.toInt ≤ 12) : TH (sI y 37 i x) z := ⟨H.1, H.2.1, INV_s37 H.2.2.1 hi, H.2.2.2⟩
theorem TH_60 {y z : SS} {i : Nat} {x : Int32} (H : TH y z) (h1 : 33 ≤ i) (h2 : i ≤ 44) : TH y (sI z 60 i x) := by
  obtain ⟨⟨e3, e4, e9, e11, eP, eK, hP, hK, r67, r81, hW, hL⟩, e10, hI, hJ⟩ := H
  have n : ∀ j : Nat, j < 33 → (sI z 60 i x).1 60 j = z.1 60 j := fun j hj => by rw [sI_rd, if_neg (fun c => by have := c.2; omega)]
  have w : wM 60 i = true := by
    unfold wM
    have a : Nat.ble 32 i = true := Nat.ble_eq.mpr (by omega)
    have b : Nat.ble i 44 = true := Nat.ble_eq.mpr h2
    rw [a, b]
    simp
  have n1 := n 1 (by decide)
  have n6 := n 6 (by decide)
  have n30 := n 30 (by decide)
  have o : ∀ k, k ≠ 60 → (sI z 60 i x).1 k = z.1 k := fun k hk => sI_ro hk
  refine ⟨⟨by rw [o 61 (by decide)]; exact e3, by rw [o 62 (by decide)]; exact e4, by rw [o 67 (by decide)]; exact e9, by rw [o 68 (by decide)]; exact e11, by rw [n1]; exact eP, by rw [n6]; exact eK, by rw [n1]; exact hP, by rw [n6]; exact hK, by rw [n6, o 67 (by decide)]; exact r67, by rw [n6, n1, o 81 (by decide)]; exact r81, RW_fr (o 74 (by decide)) (o 75 (by decide)) (o 77 (by decide)) (o 78 (by decide)) n30 (by rw [o 76 (by decide)]) hW, ?_⟩, by rw [n 32 (by decide)]; exact e10, hI, INV_sM hJ w (by decide)⟩
  rw [n30]
  rcases hL with h | ⟨h1, h2, h3, cs, L⟩
  · exact Or.inl h
  · exact Or.inr ⟨h1, h2, h3, cs, LAw2_c L (o 74 (by decide)) (o 75 (by decide)) (o 76 (by decide)) (o 77 (by decide)) (o 78 (by decide))⟩
/-- between the steps of an eve -/
def WI (q : SS) (a : Int32) (L : Int) (y z : SS) : Prop := TH y z ∧ y.1 37 4 = z.1 60 33 ∧ y.1 37 5 = z.1 60 34 ∧ (y.1 37 3).toInt = L ∧ (∀ i : Nat, (i : Int) < L → y.1 38 i = (q.2 91 (60 * a.toNatClampNeg + i)).toInt32) ∧ z.2 91 = q.2 91 ∧ z.1 60 1 = q.1 60 1 ∧ z.1 60 6 = q.1 60 6 ∧ y.1 8 = z.1 66
theorem sim_well {q y z : SS} {a m n : Int32} {L : Int} (ha : 0 ≤ a.toInt ∧ a.toInt < 6) (L0 : 0 ≤ L) (L12 : L ≤ 12) (hm : 0 ≤ m.toInt ∧ m.toInt ≤ 12) (hn : n.toInt = if m.toInt ≤ L then m.toInt else L) (hs : ∀ i : Nat, (i : Int) < L → ISl q a i) (W : WI q a L y z) : T2 (b_X2_goByWell_12 y m 0) (b_X12_goEve_24 z a n 0) (WI q a L) := by
  have l0 : (0 : Int32).toInt = 0 := rfl
  have l6 : (6 : Int32).toInt = 6 := rfl
  unfold b_X2_goByWell_12 b_X12_goEve_24
  refine T2_fl34 (fun yc l1 l2 zc k1 k3 k4 => l1 = m ∧ k1 = a ∧ k3 = n ∧ k4 = l2 ∧ (0 ≤ l2.toInt ∧ l2.toInt ≤ 12) ∧ WI q a L yc zc) (fun _ _ l2 _ _ _ _ => (12 - l2.toInt).toNat) ?_ _ _ _ _ _ _ _ _ _ ⟨rfl, rfl, rfl, rfl, by decide, W⟩ (by unfold FU; decide) (by unfold FU; decide)
  rintro rf rg yc l1 l2 zc k1 k3 k4 ⟨rfl, rfl, rfl, rfl, ⟨b0, b1⟩, W⟩ hr
  obtain ⟨H, w4, w5, w3, w38, w91, z1, z6, w66⟩ := W
  have k := TH_K H
  by_cases c : l1.toInt ≤ k4.toInt ∨ L ≤ k4.toInt
  · have cm : k3.toInt ≤ k4.toInt := by
      rw [hn]
      split <;> omega
    have W2 : WI q k1 L yc zc := ⟨H, w4, w5, w3, w38, w91, z1, z6, w66⟩
    by_cases c1 : l1 ≤ k4
    · exact T2_pl c1 (T2_pr (Int32.le_iff_toInt_le.mpr cm) (T2_s W2))
    · refine T2_ql c1 (T2_pl (Int32.le_iff_toInt_le.mpr ?_) (T2_pr (Int32.le_iff_toInt_le.mpr cm) (T2_s W2)))
      have := Int32.lt_iff_toInt_lt.mp (Int32.not_le.mp c1)
      rcases c with c | c
      · omega
      · rw [w3]; exact c
  · have c1 : ¬ l1 ≤ k4 := fun e => c (Or.inl (Int32.le_iff_toInt_le.mp e))
    have c2 : ¬ yc.1 37 3 ≤ k4 := fun e => c (Or.inr (by rw [← w3]; exact Int32.le_iff_toInt_le.mp e))
    have kL : k4.toInt < L := by omega
    have kn : ¬ k3 ≤ k4 := fun e => by
      have := Int32.le_iff_toInt_le.mp e
      rw [hn] at this
      split at this <;> omega
    have k12 : k4.toInt < 12 := by omega
    have kN : k4.toNatClampNeg = k4.toInt.toNat := rfl
    have i := inc1 (a := k4) (by omega) (by omega)
    have S := hs k4.toInt.toNat (by omega)
    have v38 := w38 k4.toInt.toNat (by omega)
    obtain ⟨s0, s1, s2⟩ := S
    have mat : ∀ u : SS, u.2 91 = q.2 91 → f_X12_at u k1 k4 = some ((q.2 91 (60 * k1.toNatClampNeg + k4.toInt.toNat)).toInt32) := fun u hu => by
      rw [m_at ha ⟨b0, by omega⟩, hu]
      rfl
    generalize hv : (q.2 91 (60 * k1.toNatClampNeg + k4.toInt.toNat)).toInt32 = v at s0 s1 s2 v38 mat
    have d8 := div8 s0
    have r8 := rem8 s0
    have ht : 0 ≤ (v / 8).toInt ∧ (v / 8).toInt < (zc.1 60 6).toInt := by rw [z6]; omega
    have hp : 0 ≤ (jrem v 8).toInt ∧ (jrem v 8).toInt < (zc.1 60 1).toInt := by rw [z1]; omega
    have tA : ∀ u : SS, u.1 37 3 = yc.1 37 3 → u.1 38 = yc.1 38 → f_X2_ticketAt u k4 = some (v / 8) ∧ f_X2_toAt u k4 = some (jrem v 8) := fun u h1 h2 => by
      rw [tAt_E b0 (by rw [h1, w3]; exact kL) k12, oAt_E b0 (by rw [h1, w3]; exact kL) k12, h2, kN, v38, shr_div s0, and_rem s0]
      exact ⟨rfl, rfl⟩
    obtain ⟨sv, hsv, cs, ms⟩ := TH_slip H ht hp
    have t1 := tA yc rfl rfl
    unfold b_X2_goByWell_109 b_X12_goEve_113
    refine T2_ql c1 (T2_ql c2 (T2_le t1.1 (T2_le t1.2 (T2_le cs (T2_qr kn (T2_re (mat zc w91) (T2_nr (T2_re (mat zc w91) (T2_nr (T2_re ms ?_))))))))))
    rcases hsv with rfl | rfl
    · refine T2_pl rfl (T2_pr rfl (T2_nl (T2_nr (hr _ _ _ _ _ _ _ ⟨rfl, rfl, rfl, rfl, by omega, ?_⟩ (by omega)))))
      refine ⟨TH_60 (TH_37 H (fun x => absurd x (by decide))) (by decide) (by decide), w4, ?_, w3, w38, w91, z1, z6, w66⟩
      show (yc.1 37 5 ||| jshl 1 k4) = (zc.1 60 34 ||| jshl 1 k4)
      rw [w5]
    · refine T2_ql (by decide) (T2_le t1.1 (T2_le t1.2 (T2_qr (by decide) (T2_bb (TH_odds H ht hp) (fun r s hrs => ?_)))))
      obtain ⟨o1, o2, fE, f9⟩ := hrs
      have H2 := TH_E H fE f9
      have r37 : r.2.1 37 = yc.1 37 := Fr_r fE (fun _ => rfl)
      have r38 : r.2.1 38 = yc.1 38 := Fr_r fE (fun _ => rfl)
      have r_8 : r.2.1 8 = yc.1 8 := Fr_r fE (fun _ => rfl)
      have s60 : s.2.1 60 = zc.1 60 := f9.2 60 (by decide) (by decide)
      have s66 : s.2.1 66 = zc.1 66 := f9.2 66 (by decide) (by decide)
      have W2 : WI q k1 L r.2 s.2 := ⟨H2, by rw [r37, s60]; exact w4, by rw [r37, s60]; exact w5, by rw [r37]; exact w3, by rw [r38]; exact w38, by rw [f9.1]; exact w91, by rw [s60]; exact z1, by rw [s60]; exact z6, by rw [r_8, s66]; exact w66⟩
      rw [← o1]
      by_cases c6 : r.1 < 6
      · exact T2_pl c6 (T2_pr c6 (hr _ _ _ _ _ _ _ ⟨rfl, rfl, rfl, rfl, by omega, W2⟩ (by omega)))
      · have t2 := tA (sI r.2 37 4 (r.2.1 37 4 + 1)) (by show r.2.1 37 3 = _; rw [r37]) (by show r.2.1 38 = _; exact r38)
        obtain ⟨_, x4, x5, x3, x38, x91, xz1, xz6, x66⟩ := W2
        have hp2 : 0 ≤ (jrem v 8).toInt ∧ (jrem v 8).toInt < (s.2.1 60 1).toInt := by rw [s60]; exact hp
        have k2 := TH_K H2
        have ht2 : 0 ≤ (v / 8).toInt ∧ (v / 8).toInt < (s.2.1 60 6).toInt := by rw [s60]; exact ht
        have hg := give_E (q := sI r.2 37 4 (r.2.1 37 4 + 1)) (t := v / 8) (p := jrem v 8) (by show (r.2.1 1 2).toInt ≤ 12; rw [k2.1.1]; omega) ht2.1 (by show _ < (r.2.1 1 2).toInt; rw [k2.1.1]; exact ht2.2)
        refine T2_ql c6 (T2_nl (T2_le t2.1 (T2_le t2.2 (T2_le hg (T2_qr c6 (T2_pr ⟨ht2.1, by show (v / 8).toInt < 12; omega⟩ (T2_nr (T2_nr (hr _ _ _ _ _ _ _ ⟨rfl, rfl, rfl, rfl, by omega, ?_⟩ (by omega))))))))))
        have H3 := TH_60 (i := 33) (x := s.2.1 60 33 + 1) (TH_give (t := v / 8) (p := jrem v 8) (TH_37 (i := 4) (x := r.2.1 37 4 + 1) H2 (fun x => absurd x (by decide))) hp2) (by decide) (by decide)
        refine ⟨H3, ?_, x5, x3, x38, x91, xz1, xz6, x66⟩
        show r.2.1 37 4 + 1 = s.2.1 60 33 + 1
        rw [x4]
theorem rows_E {q : SS} (h : INV q) {a : Int32} (ha : 0 ≤ a.toInt ∧ a.toInt < 6) : (if q.1 27 a.toNatClampNeg = -2 then (-11 : Int32) else if q.1 27 a.toNatClampNeg = 0 then 0 else -12) = (if q.1 89 a.toNatClampNeg = -1 then (-11 : Int32) else if q.1 89 a.toNatClampNeg = -2 then 0 else -12) := by
  have an : a.toNatClampNeg < 6 := by
    show a.toInt.toNat < 6
    omega
  have m2 : (-2 : Int32).toInt = -2 := rfl
  have m1 : (-1 : Int32).toInt = -1 := rfl
  have z0 : (0 : Int32).toInt = 0 := rfl
  rcases RS_shelf (INV_RS h) _ an with ⟨h1, h2⟩ | ⟨h1, h2, h3, h4⟩ | ⟨h1, h2, h3⟩
  · rw [h1, h2]; rfl
  · rw [h1, if_neg (by decide), if_neg (by decide), if_neg (show ¬ q.1 89 a.toNatClampNeg = -1 from fun e => by rw [e, m1] at h3; omega), if_neg (show ¬ q.1 89 a.toNatClampNeg = -2 from fun e => by rw [e, m2] at h3; omega)]
  · rw [if_neg (show ¬ q.1 27 a.toNatClampNeg = -2 from fun e => by rw [e, m2] at h1; omega), if_neg (show ¬ q.1 89 a.toNatClampNeg = -1 from fun e => by rw [e, m1] at h3; omega)]
    by_cases c : q.1 27 a.toNatClampNeg = 0
    · rw [if_pos c, if_pos (show q.1 89 a.toNatClampNeg = -2 from Int32.toInt_inj.mp (by rw [h3, c]; rfl))]
    · rw [if_neg c, if_neg (show ¬ q.1 89 a.toNatClampNeg = -2 from fun e => c (Int32.toInt_inj.mp (by rw [e, m2] at h3; omega)))]
theorem T_ar {ρ : Type} {o : Option ρ} {P Q : ρ → Prop} (h : T o P) (g : T o Q) : T o (fun r => P r ∧ Q r) := by
  obtain ⟨r, h1, h2⟩ := h
  exact ⟨r, h1, h2, T_un g h1⟩
/-- an eve gone through on both sides -/
theorem sim_eve {q y : SS} {a m : Int32} (h : INV q) (w : RLW q) (f : MC q y) (hy : INV y) (ha : 0 ≤ a.toInt ∧ a.toInt < 6) (h27 : q.1 27 a.toNatClampNeg = 0) (hm : 0 ≤ m.toInt ∧ m.toInt ≤ 12) : T2 ((f_X2_begin q a).bind fun r => f_X2_goByWell r m) (f_X12_goEve y a m) (fun u v => TH u v ∧ u.1 37 4 = v.1 60 33 ∧ u.1 37 5 = v.1 60 34 ∧ v.1 60 1 = q.1 60 1 ∧ v.1 60 6 = q.1 60 6 ∧ u.1 8 = v.1 66) := by
  have hY := INV_RY h
  have an : a.toNatClampNeg < 6 := by
    show a.toInt.toNat < 6
    omega
  have sz := RS_size0 (INV_RS h) _ an
  unfold f_X12_goEve
  refine T2_l (T_ar (x_beg h ha h27) (xT_begin h a)) (fun r hX => T2_r (m_now (INV_RY hy)) (fun z0 hz => T2_nr (T2_nr ?_)))
  obtain ⟨⟨x2, xo, x25, x37, x38, xs⟩, hrI⟩ := hX
  have y60 : y.1 60 = q.1 60 := f.1 60 (by decide)
  -- the class's thought: what now() would leave, seen through the frame
  have nX : NWX q (sR (sR r 37 (q.1 37)) 38 (q.1 38)) := ⟨x2, fun k hk => by
    by_cases c38 : k = 38
    · rw [c38]; exact funext fun i => by rw [sR_rd, if_pos rfl]
    · rw [sR_ro c38]
      by_cases c37 : k = 37
      · rw [c37]; exact funext fun i => by rw [sR_rd, if_pos rfl]
      · rw [sR_ro c37]; exact xo k hk c37 c38, fun t ht => by rw [sR_ro (by decide), sR_ro (by decide)]; exact x25 t ht⟩
  obtain ⟨O, z6, z1, z32, y10⟩ := OK2_now h w f nX hz
  have Or : OK2 r z0 := O
  have r10 : r.1 10 0 = q.1 68 0 := y10
  have H : TH r z0 := ⟨Or, r10.trans z32.symm, hrI, NWM_I hy hz⟩
  have H2 : TH (sI (sI r 37 4 0) 37 5 0) (sI (sI z0 60 33 0) 60 34 0) := TH_37 (TH_37 (TH_60 (TH_60 H (by decide) (by decide)) (by decide) (by decide)) (fun x => absurd x (by decide))) (fun x => absurd x (by decide))
  have z91 : z0.2 91 = q.2 91 := by rw [hz.1]; exact f.2 91 (by decide)
  have z90 : z0.1 90 = q.1 90 := (hz.2.1 90 (by decide) (by decide)).trans (f.1 90 (by decide))
  have z66 : z0.1 66 = q.1 66 := (hz.2.1 66 (by decide) (by decide)).trans (f.1 66 (by decide))
  have r8 : r.1 8 = q.1 66 := (xo 8 (by decide) (by decide) (by decide)).trans (RY_forged hY)
  have isl : ∀ k, ISl (sI (sI z0 60 33 0) 60 34 0) a k ↔ ISl q a k := fun k => by
    have e1 : (sI (sI z0 60 33 0) 60 34 0).1 60 6 = q.1 60 6 := z6
    have e2 : (sI (sI z0 60 33 0) 60 34 0).1 60 1 = q.1 60 1 := z1
    have e3 : (sI (sI z0 60 33 0) 60 34 0).2 91 = q.2 91 := z91
    unfold ISl
    rw [e1, e2, e3]
  have k0 := RY_k0 hY
  have p0 := RY_p0 hY
  have lo := m_longE (z := sI (sI z0 60 33 0) 60 34 0) (a := a) (m := m) (by show 0 ≤ (z0.1 60 1).toInt; rw [z1]; exact p0) (by show 0 ≤ (z0.1 60 6).toInt; rw [z6]; exact k0) ha hm (by show 0 ≤ (z0.1 90 a.toNatClampNeg).toInt; rw [z90]; exact sz.1)
  refine T2_r lo (fun n hn => ?_)
  obtain ⟨⟨n0, nm, ns⟩, nI, nE⟩ := hn
  have e90 : ((sI (sI z0 60 33 0) 60 34 0).1 90 a.toNatClampNeg) = q.1 90 a.toNatClampNeg := by
    show z0.1 90 a.toNatClampNeg = _
    rw [z90]
  rw [e90] at ns nE
  have hn : n.toInt = if m.toInt ≤ (r.1 37 3).toInt then m.toInt else (r.1 37 3).toInt := by
    by_cases c : m.toInt ≤ (r.1 37 3).toInt
    · rw [if_pos c]
      by_cases g : n.toInt < m.toInt
      · exact absurd ((isl _).mpr (x38 n.toInt.toNat (by omega)).2) (nE g (by omega))
      · omega
    · rw [if_neg c]
      by_cases g : n.toInt < (r.1 37 3).toInt
      · exact absurd ((isl _).mpr (x38 n.toInt.toNat (by omega)).2) (nE (by omega) (by omega))
      · by_cases g2 : (r.1 37 3).toInt < n.toInt
        · exact absurd ((isl _).mp (nI (r.1 37 3).toInt.toNat (by omega))) (xs (by omega) (by omega))
        · omega
  unfold f_X2_goByWell
  refine T2_nl (T2_nl (T2_m (sim_well (L := (r.1 37 3).toInt) ha x37.1 x37.2.1 hm hn (fun i hi => (x38 i hi).2) ⟨H2, rfl, rfl, rfl, fun i hi => (x38 i hi).1, z91, z1, z6, r8.trans z66.symm⟩) (fun u v W => ⟨W.1, W.2.1, W.2.2.1, W.2.2.2.2.2.2.1, W.2.2.2.2.2.2.2.1, W.2.2.2.2.2.2.2.2⟩)))
/-! ===== later, eve ===== -/
theorem T2_asl {α β γ δ : Type} {o : Option α} {f : α → Option β} {g : β → Option γ} {o2 : Option δ} {R : γ → δ → Prop} (h : T2 ((o.bind f).bind g) o2 R) : T2 (o.bind fun r => (f r).bind g) o2 R := by
  cases o with
  | none => exact h
  | some x => exact h
theorem bI_t {c : Prop} [Decidable c] (h : c) : bI c = 1 := bI_1.mpr h
theorem bI_f {c : Prop} [Decidable c] (h : ¬ c) : bI c = 0 := bI_0.mpr h
theorem flt_E {q y : SS} (h : INV q) (f : MC q y) {a : Int32} (ha : 0 ≤ a.toInt ∧ a.toInt < 6) : ∃ v : Int32, (v = 0 ∨ v.toInt < 0) ∧ (v = 0 → q.1 27 a.toNatClampNeg = 0) ∧ f_X7_refusalOfBytes q a = some v ∧ f_X12_rowFault y a = some v := by
  refine ⟨_, ?_, ?_, x_refBytes q a, ?_⟩
  · rw [if_pos ha]
    split
    · exact Or.inr (by decide)
    · split
      · exact Or.inl rfl
      · exact Or.inr (by decide)
  · rw [if_pos ha]
    intro e
    by_cases c1 : q.1 27 a.toNatClampNeg = -2
    · rw [if_pos c1] at e; exact absurd e (by decide)
    · rw [if_neg c1] at e
      by_cases c2 : q.1 27 a.toNatClampNeg = 0
      · exact c2
      · rw [if_neg c2] at e; exact absurd e (by decide)
  · rw [m_rowFault ha, f.1 89 (by decide), if_pos ha, rows_E h ha]
theorem sim_later {q y : SS} (h : INV q) (w : RLW q) (f : MC q y) (hy : INV y) (a b c : Int32) : T2 (f_X11_later q a b c) (f_X12_later y a b c) (fun r s => r.1 = s.1) := by
  have hY := INV_RY h
  have l0 : (0 : Int32).toInt = 0 := rfl
  have l12 : (12 : Int32).toInt = 12 := rfl
  have y60 : y.1 60 = q.1 60 := f.1 60 (by decide)
  have rf : T2 (some ((-1 : Int32), q)) (some ((-1 : Int32), y)) (fun r s => r.1 = s.1) := T2_s rfl
  unfold f_X11_later f_X12_later
  refine T2_le (x_isShelf q a) (T2_re (m_isShelf y a) ?_)
  by_cases ha : 0 ≤ a.toInt ∧ a.toInt < 6
  rotate_left
  · rw [bI_f ha]
    exact T2_pl rfl (T2_pr rfl rf)
  rw [bI_t ha]
  refine T2_ql (by decide) (T2_qr (by decide) (T2_re (m_areMany y b) ?_))
  by_cases hb : 0 ≤ b.toInt ∧ b.toInt ≤ 12
  rotate_left
  · rw [bI_f hb]
    by_cases c0 : b < 0
    · exact T2_pl c0 (T2_pr rfl rf)
    · have c0' := Int32.le_iff_toInt_le.mp (Int32.not_lt.mp c0)
      exact T2_ql c0 (T2_pl (Int32.lt_iff_toInt_lt.mpr (by omega)) (T2_pr rfl rf))
  rw [bI_t hb]
  refine T2_ql (fun e => by have := Int32.lt_iff_toInt_lt.mp e; omega) (T2_ql (fun e => by have := Int32.lt_iff_toInt_lt.mp e; omega) (T2_le (x_isTicket q c) (T2_qr (by decide) (T2_re (m_isTicket (by rw [y60]; exact RY_k0 hY) c) ?_))))
  rw [RY_k hY, y60]
  by_cases hc : 0 ≤ c.toInt ∧ c.toInt < (q.1 60 6).toInt
  rotate_left
  · rw [bI_f hc]
    exact T2_pl rfl (T2_pr rfl rf)
  rw [bI_t hc]
  obtain ⟨v, v0, v27, xe, me⟩ := flt_E h f ha
  refine T2_ql (by decide) (T2_le xe (T2_qr (by decide) (T2_re me ?_)))
  by_cases ev : v = 0
  · refine T2_pl ev (T2_pr (by rw [ev]; decide) (T2_asl (T2_bb (sim_eve h w f hy ha (v27 ev) hb) (fun u z hW => ?_))))
    obtain ⟨H, _, _, z1, z6, _⟩ := hW
    have k := TH_K H
    have hc2 : 0 ≤ c.toInt ∧ c.toInt < (z.1 60 6).toInt := by rw [z6]; exact hc
    have b81 := TH_81 H (t := c.toNatClampNeg) (by show ((c.toInt.toNat : Nat) : Int) < _; omega)
    refine T2_le (x_holderOf (by rw [k.1.1]; omega) c) (T2_pr ⟨hc.1, by show c.toInt < 12; omega⟩ (T2_s ?_))
    show (if _ then _ else _) = _
    rw [k.1.1, if_pos hc2]
    exact b81.1
  · have vn : v.toInt < 0 := v0.resolve_left ev
    exact T2_ql ev (T2_qr (fun e => by have := Int32.le_iff_toInt_le.mp e; omega) (T2_re me (T2_s rfl)))
theorem sim_eve2 {q y : SS} (h : INV q) (w : RLW q) (f : MC q y) (hy : INV y) (a b c : Int32) : T2 (f_X11_eve q a b c) (f_X12_eve y a b c) (fun r s => r.1 = s.1) := by
  have hY := INV_RY h
  have l0 : (0 : Int32).toInt = 0 := rfl
  have l12 : (12 : Int32).toInt = 12 := rfl
  have m2 : (-2 : Int32).toInt = -2 := rfl
  have y60 : y.1 60 = q.1 60 := f.1 60 (by decide)
  have p0 := RY_p0 hY
  have rf : T2 (some ((-1 : Int32), q)) (some ((-1 : Int32), y)) (fun r s => r.1 = s.1) := T2_s rfl
  unfold f_X11_eve f_X12_eve
  refine T2_le (x_isShelf q a) (T2_re (m_isShelf y a) ?_)
  by_cases ha : 0 ≤ a.toInt ∧ a.toInt < 6
  rotate_left
  · rw [bI_f ha]
    exact T2_pl rfl (T2_pr rfl rf)
  rw [bI_t ha]
  refine T2_ql (by decide) (T2_qr (by decide) (T2_re (m_areMany y b) ?_))
  by_cases hb : 0 ≤ b.toInt ∧ b.toInt ≤ 12
  rotate_left
  · rw [bI_f hb]
    by_cases c0 : b < 0
    · exact T2_pl c0 (T2_pr rfl rf)
    · have c0' := Int32.le_iff_toInt_le.mp (Int32.not_lt.mp c0)
      exact T2_ql c0 (T2_pl (Int32.lt_iff_toInt_lt.mpr (by omega)) (T2_pr rfl rf))
  rw [bI_t hb]
  refine T2_ql (fun e => by have := Int32.lt_iff_toInt_lt.mp e; omega) (T2_ql (fun e => by have := Int32.lt_iff_toInt_lt.mp e; omega) (T2_qr (by decide) (T2_re (m_in y c _ _) ?_)))
  have ep : (y.1 60 1 - 1).toInt = (q.1 60 1).toInt - 1 := by rw [y60, dec1 p0]
  rw [ep, m2]
  have body : T2 (b_X11_eve_45 q a b c) ((f_X12_rowFault y a).bind fun r4 => if 0 ≤ r4 then ((f_X12_goEve y a b).bind fun r5 => if c = (-1 : Int32) then (some ((r5.1 60 33), r5)) else (if c = (-2 : Int32) then (some ((r5.1 60 34), r5)) else ((f_X12_realOf r5 c).bind fun r6 => some (r6, r5)))) else ((f_X12_rowFault y a).bind fun r9 => some (r9, y))) (fun r s => r.1 = s.1) := by
    obtain ⟨v, v0, v27, xe, me⟩ := flt_E h f ha
    unfold b_X11_eve_45
    refine T2_le xe (T2_re me ?_)
    by_cases ev : v = 0
    · refine T2_pl ev (T2_pr (by rw [ev]; decide) (T2_asl (T2_bb (sim_eve h w f hy ha (v27 ev) hb) (fun u z hW => ?_))))
      obtain ⟨H, w4, w5, z1, z6, w66⟩ := hW
      have k := TH_K H
      by_cases e1 : c = -1
      · exact T2_pl e1 (T2_pr e1 (T2_le (show f_X2_wells u = some (u.1 37 4) from rfl) (T2_s w4)))
      by_cases e2 : c = -2
      · exact T2_ql e1 (T2_pl e2 (T2_qr e1 (T2_pr e2 (T2_le (show f_X2_leftOut u = some (u.1 37 5) from rfl) (T2_s w5)))))
      · refine T2_ql e1 (T2_ql e2 (T2_qr e1 (T2_qr e2 (T2_le (x_realsOf (by rw [k.1.1]; omega) (by rw [k.1.1]; omega) c) (T2_re (m_realOf (by omega) (by omega) c) (T2_s ?_))))))
        show Int32.ofNat _ = Int32.ofNat _
        rw [k.1.1, w66]
        exact congrArg Int32.ofNat (cntN_c (fun t ht => by rw [(TH_81 H (t := t) (by omega)).1]))
    · have vn : v.toInt < 0 := v0.resolve_left ev
      exact T2_ql ev (T2_qr (fun e => by have := Int32.le_iff_toInt_le.mp e; omega) (T2_re me (T2_s rfl)))
  by_cases hc : -2 ≤ c.toInt ∧ c.toInt ≤ (q.1 60 1).toInt - 1
  · rw [bI_t hc]
    refine T2_qr (by decide) ?_
    by_cases e1 : c = -1
    · exact T2_pl e1 body
    by_cases e2 : c = -2
    · exact T2_ql e1 (T2_pl e2 body)
    · have n1 : c.toInt ≠ -1 := fun e => e1 (Int32.toInt_inj.mp e)
      have n2 : c.toInt ≠ -2 := fun e => e2 (Int32.toInt_inj.mp e)
      refine T2_ql e1 (T2_ql e2 (T2_le (x_isPerson q c) ?_))
      rw [RY_p hY, bI_t ⟨by omega, by omega⟩]
      exact T2_ql (by decide) body
  · rw [bI_f hc]
    refine T2_pr rfl (T2_ql (fun e => ?_) (T2_ql (fun e => ?_) (T2_le (x_isPerson q c) ?_)))
    · rw [e, m1i] at hc; omega
    · rw [e, m2] at hc; omega
    · rw [RY_p hY, bI_f (fun e => by omega)]
      exact T2_pl rfl rf
theorem opq_later {q : SS} (h : INV q) (w : RLW q) (a b c : Int32) : T (f_X11_later q a b c) (fun r => T (f_X12_later r.2 a b c) (fun s => INV s.2 ∧ r.1 = s.1)) := opw_of (g := fun y => f_X12_later y a b c) (xo_later h a b c) (kc_f_X11_later q q a b c (Fr_refl q)) (fun y hy => mo_later hy a b c) (fun y f hy => sim_later h w f hy a b c)
theorem opq_eve {q : SS} (h : INV q) (w : RLW q) (a b c : Int32) : T (f_X11_eve q a b c) (fun r => T (f_X12_eve r.2 a b c) (fun s => INV s.2 ∧ r.1 = s.1)) := opw_of (g := fun y => f_X12_eve y a b c) (xo_eve h a b c) (kc_f_X11_eve q q a b c (Fr_refl q)) (fun y hy => mo_eve hy a b c) (fun y f hy => sim_eve2 h w f hy a b c)

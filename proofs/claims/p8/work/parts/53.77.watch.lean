/-! ===== two thoughts, side by side ===== -/
theorem T2_fl55 {A0 A1 A2 A3 A4 B0 B1 B2 B3 B4 α β : Type} {R : α → β → Prop} {F : (A0 → A1 → A2 → A3 → A4 → Option α) → A0 → A1 → A2 → A3 → A4 → Option α} {G : (B0 → B1 → B2 → B3 → B4 → Option β) → B0 → B1 → B2 → B3 → B4 → Option β} (I : A0 → A1 → A2 → A3 → A4 → B0 → B1 → B2 → B3 → B4 → Prop) (μ : A0 → A1 → A2 → A3 → A4 → B0 → B1 → B2 → B3 → B4 → Nat) (h : ∀ rf rg a0 a1 a2 a3 a4 b0 b1 b2 b3 b4, I a0 a1 a2 a3 a4 b0 b1 b2 b3 b4 → (∀ c0 c1 c2 c3 c4 d0 d1 d2 d3 d4, I c0 c1 c2 c3 c4 d0 d1 d2 d3 d4 → μ c0 c1 c2 c3 c4 d0 d1 d2 d3 d4 < μ a0 a1 a2 a3 a4 b0 b1 b2 b3 b4 → T2 (rf c0 c1 c2 c3 c4) (rg d0 d1 d2 d3 d4) R) → T2 (F rf a0 a1 a2 a3 a4) (G rg b0 b1 b2 b3 b4) R) : ∀ n m a0 a1 a2 a3 a4 b0 b1 b2 b3 b4, I a0 a1 a2 a3 a4 b0 b1 b2 b3 b4 → μ a0 a1 a2 a3 a4 b0 b1 b2 b3 b4 < n → μ a0 a1 a2 a3 a4 b0 b1 b2 b3 b4 < m → T2 (fx5 F n a0 a1 a2 a3 a4) (fx5 G m b0 b1 b2 b3 b4) R
  | 0, _, _, _, _, _, _, _, _, _, _, _, _, hm, _ => absurd hm (Nat.not_lt_zero _)
  | _ + 1, 0, _, _, _, _, _, _, _, _, _, _, _, _, hm => absurd hm (Nat.not_lt_zero _)
  | n + 1, m + 1, a0, a1, a2, a3, a4, b0, b1, b2, b3, b4, hI, h1, h2 => h _ _ a0 a1 a2 a3 a4 b0 b1 b2 b3 b4 hI (fun c0 c1 c2 c3 c4 d0 d1 d2 d3 d4 hb hl => T2_fl55 I μ h n m c0 c1 c2 c3 c4 d0 d1 d2 d3 d4 hb (by omega) (by omega))
theorem T2_fl34 {A0 A1 A2 B0 B1 B2 B3 α β : Type} {R : α → β → Prop} {F : (A0 → A1 → A2 → Option α) → A0 → A1 → A2 → Option α} {G : (B0 → B1 → B2 → B3 → Option β) → B0 → B1 → B2 → B3 → Option β} (I : A0 → A1 → A2 → B0 → B1 → B2 → B3 → Prop) (μ : A0 → A1 → A2 → B0 → B1 → B2 → B3 → Nat) (h : ∀ rf rg a0 a1 a2 b0 b1 b2 b3, I a0 a1 a2 b0 b1 b2 b3 → (∀ c0 c1 c2 d0 d1 d2 d3, I c0 c1 c2 d0 d1 d2 d3 → μ c0 c1 c2 d0 d1 d2 d3 < μ a0 a1 a2 b0 b1 b2 b3 → T2 (rf c0 c1 c2) (rg d0 d1 d2 d3) R) → T2 (F rf a0 a1 a2) (G rg b0 b1 b2 b3) R) : ∀ n m a0 a1 a2 b0 b1 b2 b3, I a0 a1 a2 b0 b1 b2 b3 → μ a0 a1 a2 b0 b1 b2 b3 < n → μ a0 a1 a2 b0 b1 b2 b3 < m → T2 (fx3 F n a0 a1 a2) (fx4 G m b0 b1 b2 b3) R
  | 0, _, _, _, _, _, _, _, _, _, hm, _ => absurd hm (Nat.not_lt_zero _)
  | _ + 1, 0, _, _, _, _, _, _, _, _, _, hm => absurd hm (Nat.not_lt_zero _)
  | n + 1, m + 1, a0, a1, a2, b0, b1, b2, b3, hI, h1, h2 => h _ _ a0 a1 a2 b0 b1 b2 b3 hI (fun c0 c1 c2 d0 d1 d2 d3 hb hl => T2_fl34 I μ h n m c0 c1 c2 d0 d1 d2 d3 hb (by omega) (by omega))
def TH (y z : SS) : Prop := OK2 y z ∧ y.1 10 0 = z.1 60 32 ∧ INV y ∧ INV z
theorem TH_K {y z : SS} (H : TH y z) : (y.1 1 2 = z.1 60 6 ∧ 0 ≤ (z.1 60 6).toInt ∧ (z.1 60 6).toInt ≤ 12) ∧ (y.1 1 1 = z.1 60 1 ∧ 0 ≤ (z.1 60 1).toInt ∧ (z.1 60 1).toInt ≤ 6) := ⟨⟨H.1.2.2.2.2.2.1, H.1.2.2.2.2.2.2.2.1⟩, ⟨H.1.2.2.2.2.1, H.1.2.2.2.2.2.2.1⟩⟩
theorem TH_81 {y z : SS} (H : TH y z) {t : Nat} (ht : (t : Int) < (z.1 60 6).toInt) : y.1 25 t = z.1 81 t ∧ 0 ≤ (z.1 81 t).toInt ∧ (z.1 81 t).toInt < (z.1 60 1).toInt := H.1.2.2.2.2.2.2.2.2.2.1 t ht
theorem held_E {y z : SS} (O : OK2 y z) (p : Int32) : ∃ hd, f_X8_heldBy y p = some hd ∧ f_X12_manyOf z p = some hd := by
  obtain ⟨e3, e4, e9, e11, eP, eK, hP, hK, r67, r81, _⟩ := O
  refine ⟨_, ?_, m_manyOf (by omega) (by omega) p⟩
  rw [x_heldBy (by rw [eK]; omega) (by rw [eK]; omega), eK]
  rw [cntN_c (fun t ht => by rw [(r81 t (by omega)).1])]
theorem OK2_E {y z y' z' : SS} (O : OK2 y z) (f : Fr wE v0 y y') (g : F79 z z') : OK2 y' z' := by
  obtain ⟨e3, e4, e9, e11, eP, eK, hP, hK, r67, r81, hW, hL⟩ := O
  have go : ∀ k, k ≠ 80 → k ≠ 79 → z'.1 k = z.1 k := g.2
  have y3 : y'.1 3 = y.1 3 := Fr_r f (fun _ => rfl)
  have y4 : y'.1 4 = y.1 4 := Fr_r f (fun _ => rfl)
  have y9 : y'.1 9 = y.1 9 := Fr_r f (fun _ => rfl)
  have y1 : y'.1 1 = y.1 1 := Fr_r f (fun _ => rfl)
  have y25 : y'.1 25 = y.1 25 := Fr_r f (fun _ => rfl)
  have y13 : y'.1 13 = y.1 13 := Fr_r f (fun _ => rfl)
  have y14 : y'.1 14 = y.1 14 := Fr_r f (fun _ => rfl)
  have y11 : y'.1 11 0 = y.1 11 0 := f.1 11 0 rfl
  have y12 : y'.1 12 4 = y.1 12 4 := f.1 12 4 rfl
  have z60 := go 60 (by decide) (by decide)
  have z61 := go 61 (by decide) (by decide)
  have z62 := go 62 (by decide) (by decide)
  have z67 := go 67 (by decide) (by decide)
  have z68 := go 68 (by decide) (by decide)
  have z81 := go 81 (by decide) (by decide)
  have z74 := go 74 (by decide) (by decide)
  have z75 := go 75 (by decide) (by decide)
  have z76 := go 76 (by decide) (by decide)
  have z77 := go 77 (by decide) (by decide)
  have z78 := go 78 (by decide) (by decide)
  refine ⟨by rw [y3, z61]; exact e3, by rw [y4, z62]; exact e4, by rw [y9, z67]; exact e9, by rw [y11, z68]; exact e11, by rw [y1, z60]; exact eP, by rw [y1, z60]; exact eK, by rw [z60]; exact hP, by rw [z60]; exact hK, by rw [z60, z67]; exact r67, by rw [z60, z81, y25]; exact r81, RW_fr z74 z75 z77 z78 (by rw [z60]) (by rw [z76]) hW, ?_⟩
  rw [z60, y12]
  rcases hL with h | ⟨h1, h2, h3, cs, L⟩
  · exact Or.inl h
  · refine Or.inr ⟨h1, h2, h3, cs, ?_⟩
    have L2 : LAw2 y' z cs := by
      unfold LAw2 at L ⊢
      rw [y12, y13, y14]
      exact L
    exact LAw2_c L2 z74 z75 z76 z77 z78
theorem TH_E {y z y' z' : SS} (H : TH y z) (f : Fr wE v0 y y') (g : F79 z z') : TH y' z' := ⟨OK2_E H.1 f g, by rw [f.1 10 0 rfl, g.2 60 (by decide) (by decide)]; exact H.2.1, INV_wE f H.2.2.1, INV_79 H.2.2.2 g⟩
theorem TH_odds {y z : SS} {t p : Int32} (H : TH y z) (ht : 0 ≤ t.toInt ∧ t.toInt < (z.1 60 6).toInt) (hp : 0 ≤ p.toInt ∧ p.toInt < (z.1 60 1).toInt) : T2 (f_X8_oddsOf y t p) (f_X12_oddsOf z t p) (fun r s => r.1 = s.1 ∧ (0 ≤ r.1.toInt ∧ r.1.toInt ≤ 12) ∧ Fr wE v0 y r.2 ∧ F79 z s.2) := by
  obtain ⟨hd, hx, hm⟩ := held_E H.1 p
  have k := TH_K H
  have E := ev_of H.1 ht hp H.2.1.symm rfl hx hm
  exact T2_m (T2_ar (T2_al E (x_oddsOf (PK_Y (INV_RY H.2.2.1)) t p)) (m_oddsOf H.2.2.2 (by omega) (by omega))) (fun r s h => ⟨h.1.1, h.1.2.2, h.1.2.1, h.2.1⟩)
theorem TH_slip {y z : SS} {t p : Int32} (H : TH y z) (ht : 0 ≤ t.toInt ∧ t.toInt < (z.1 60 6).toInt) (hp : 0 ≤ p.toInt ∧ p.toInt < (z.1 60 1).toInt) : ∃ v : Int32, (v = 0 ∨ v = 1) ∧ f_X8_canSlip y t p = some v ∧ f_X12_maySlip z t p = some v := by
  have k := TH_K H
  have b81 := TH_81 H (t := t.toNatClampNeg) (by show ((t.toInt.toNat : Nat) : Int) < _; omega)
  have l4 : (4 : Int32).toInt = 4 := rfl
  obtain ⟨e3, e4, e9, e11, eP, eK, hP, hK, r67, r81, _⟩ := H.1
  have b67 := r67 t.toNatClampNeg (by show ((t.toInt.toNat : Nat) : Int) < _; omega)
  refine ⟨_, ?_, x_canSlip (by rw [eP]; omega) (by rw [eK]; omega) t p, ?_⟩
  · by_cases c : (0 ≤ t.toInt ∧ t.toInt < (y.1 1 2).toInt ∧ (y.1 9 t.toNatClampNeg).toInt < 4 ∧ y.1 25 t.toNatClampNeg ≠ p ∧ 0 ≤ p.toInt ∧ p.toInt < (y.1 1 1).toInt ∧ y.1 4 p.toNatClampNeg = 0)
    · exact Or.inr (bI_1.mpr c)
    · exact Or.inl (bI_0.mpr c)
  · rw [m_maySlip (by omega) (by omega)]
    refine congrArg some (bI_c ?_)
    rw [eK, eP, e9, e4, b81.1]
    constructor
    · intro h
      refine ⟨ht.1, ht.2, ?_, h.2.1, hp.1, hp.2, h.2.2⟩
      by_cases g : (z.1 67 t.toNatClampNeg).toInt < 4
      · exact g
      · exact absurd (Int32.toInt_inj.mp (by rw [l4]; omega)) h.1
    · intro h
      exact ⟨fun e => by have := h.2.2.1; rw [e, l4] at this; omega, h.2.2.2.1, h.2.2.2.2.2.2⟩
theorem TH_now {q y y0 z0 : SS} (h : INV q) (w : RLW q) (f : MC q y) (hy : INV y) (n : NWX q y0) (m : NWM y z0) : TH y0 z0 ∧ z0.1 60 6 = q.1 60 6 ∧ z0.1 60 1 = q.1 60 1 := by
  obtain ⟨O, z6, z1, z32, y10⟩ := OK2_now h w f n m
  exact ⟨⟨O, y10.trans z32.symm, NWX_I h n, NWM_I hy m⟩, z6, z1⟩
/-! ===== watch ===== -/
theorem sim_watch {q y : SS} (h : INV q) (w : RLW q) (f : MC q y) (hy : INV y) (a : Int32) : T2 (f_X11_watch q a) (f_X12_watch y a) (fun r s => r.1 = s.1) := by
  have hY := INV_RY h
  have l0 : (0 : Int32).toInt = 0 := rfl
  have y60 : y.1 60 = q.1 60 := f.1 60 (by decide)
  unfold f_X11_watch f_X12_watch
  refine T2_le (x_isPerson q a) (T2_re (m_isOne (by rw [y60]; exact RY_p0 hY) a) ?_)
  rw [RY_p hY, y60]
  by_cases c : 0 ≤ a.toInt ∧ a.toInt < (q.1 60 1).toInt
  · rw [show bI (0 ≤ a.toInt ∧ a.toInt < (q.1 60 1).toInt) = 1 from bI_1.mpr c]
    refine T2_ql (by decide) (T2_qr (by decide) (T2_l (x_now hY) (fun y0 hn => T2_r (m_now (INV_RY hy)) (fun z0 hm => ?_))))
    obtain ⟨H, z6, z1⟩ := TH_now h w f hy hn hm
    unfold b_X11_watch_27 b_X12_watch_22
    refine T2_fl55 (fun yc l1 l3 l4 l5 zc m1 m2 m3 m4 => l1 = a ∧ m1 = a ∧ m4 = l5 ∧ TH yc zc ∧ zc.1 60 6 = q.1 60 6 ∧ zc.1 60 1 = q.1 60 1 ∧ (0 ≤ l5.toInt ∧ l5.toInt ≤ 12) ∧ ((l3 = -1 ∧ m2 = -2) ∨ (m3 = l3 ∧ m2 = l4 ∧ 0 ≤ l3.toInt ∧ 0 ≤ l4.toInt))) (fun _ _ _ _ l5 _ _ _ _ _ => (12 - l5.toInt).toNat) ?_ _ _ _ _ _ _ _ _ _ _ _ _ ⟨rfl, rfl, rfl, H, z6, z1, by decide, Or.inl ⟨rfl, rfl⟩⟩ (by unfold FU; decide) (by unfold FU; decide)
    rintro rf rg yc l1 l3 l4 l5 zc m1 m2 m3 m4 ⟨rfl, rfl, rfl, H, z6, z1, ⟨g0, g1⟩, hc⟩ hr
    have k := TH_K H
    have nl : l3 = -1 → ¬ (0 : Int32) ≤ l3 := fun e => by rw [e]; decide
    refine T2_le (show f_X10_tickets yc = some (yc.1 1 2) from rfl) ?_
    rw [k.1.1]
    by_cases e : zc.1 60 6 ≤ m4
    · refine T2_pl e (T2_pr e ?_)
      rcases hc with ⟨e1, e2⟩ | ⟨e1, e2, e3, e4⟩
      · rw [e1, e2]
        exact T2_ql (by decide) (T2_qr (by decide) (T2_s rfl))
      · rw [e1, e2]
        exact T2_pl (Int32.le_iff_toInt_le.mpr (by omega)) (T2_pr (Int32.le_iff_toInt_le.mpr (by omega)) (T2_s rfl))
    · have e' := Int32.lt_iff_toInt_lt.mp (Int32.not_le.mp e)
      have i := inc1 (a := m4) (by omega) (by omega)
      have hp : 0 ≤ m1.toInt ∧ m1.toInt < (zc.1 60 1).toInt := by rw [z1]; exact c
      obtain ⟨v, hv, cs, ms⟩ := TH_slip (t := m4) (p := m1) H ⟨g0, e'⟩ hp
      unfold b_X11_watch_92 b_X12_watch_93 b_X11_watch_85 b_X12_watch_87 b_X11_watch_92 b_X12_watch_93
      refine T2_ql e (T2_qr e (T2_le cs (T2_re ms ?_)))
      rcases hv with rfl | rfl
      · exact T2_pl rfl (T2_pr rfl (hr _ _ _ _ _ _ _ _ _ _ ⟨rfl, rfl, rfl, H, z6, z1, by omega, hc⟩ (by omega)))
      · refine T2_ql (by decide) (T2_qr (by decide) (T2_bb (TH_odds H ⟨g0, e'⟩ hp) (fun r s hrs => ?_)))
        obtain ⟨o1, o2, fE, f9⟩ := hrs
        have H2 := TH_E H fE f9
        have k2 := TH_K H2
        have s6 : s.2.1 60 6 = q.1 60 6 := by rw [f9.2 60 (by decide) (by decide)]; exact z6
        have s1 : s.2.1 60 1 = q.1 60 1 := by rw [f9.2 60 (by decide) (by decide)]; exact z1
        have ht2 : 0 ≤ m4.toInt ∧ m4.toInt < (s.2.1 60 6).toInt := by rw [s6, ← z6]; exact ⟨g0, e'⟩
        have b81 := TH_81 H2 (t := m4.toNatClampNeg) (by show ((m4.toInt.toNat : Nat) : Int) < _; omega)
        refine T2_le (x_holderOf (by rw [k2.1.1]; omega) m4) (T2_pr ⟨g0, by show m4.toInt < 12; omega⟩ (T2_nr ?_))
        rw [k2.1.1, if_pos ht2, b81.1, ← o1]
        have take : T2 (rf r.2 m1 r.1 (s.2.1 81 m4.toNatClampNeg) (m4 + 1)) (rg s.2 m1 (s.2.1 81 m4.toNatClampNeg) r.1 (m4 + 1)) (fun r s => r.1 = s.1) := hr _ _ _ _ _ _ _ _ _ _ ⟨rfl, rfl, rfl, H2, s6, s1, by omega, Or.inr ⟨rfl, rfl, o2.1, b81.2.1⟩⟩ (by omega)
        have skip : T2 (rf r.2 m1 l3 l4 (m4 + 1)) (rg s.2 m1 m2 m3 (m4 + 1)) (fun r s => r.1 = s.1) := hr _ _ _ _ _ _ _ _ _ _ ⟨rfl, rfl, rfl, H2, s6, s1, by omega, hc⟩ (by omega)
        rcases hc with ⟨e1, e2⟩ | ⟨e1, e2, e3, e4⟩
        · refine T2_pl (Int32.lt_iff_toInt_lt.mpr (by rw [e1, m1i]; omega)) (T2_pr (by rw [e2]; decide) take)
        · rw [e1, e2] at skip ⊢
          refine T2_qr (fun x => by have := Int32.lt_iff_toInt_lt.mp x; omega) ?_
          by_cases c1 : l3 < r.1
          · have c1' := Int32.lt_iff_toInt_lt.mp c1
            exact T2_pl c1 (T2_qr (fun x => by have := Int32.lt_iff_toInt_lt.mp x; omega) (T2_qr (fun x => by rw [x] at c1'; omega) take))
          · have c1' := Int32.le_iff_toInt_le.mp (Int32.not_lt.mp c1)
            refine T2_ql c1 ?_
            by_cases c2 : r.1 = l3
            · refine T2_pl c2 (T2_qr (fun x => by have := Int32.lt_iff_toInt_lt.mp x; rw [c2] at this; omega) (T2_pr c2 ?_))
              by_cases c3 : l4 ≤ s.2.1 81 m4.toNatClampNeg
              · exact T2_pl c3 (T2_qr (fun x => by have := Int32.lt_iff_toInt_lt.mp x; have := Int32.le_iff_toInt_le.mp c3; omega) skip)
              · exact T2_ql c3 (T2_pr (Int32.not_le.mp c3) take)
            · have n2 : r.1.toInt ≠ l3.toInt := fun x => c2 (Int32.toInt_inj.mp x)
              exact T2_ql c2 (T2_pr (Int32.lt_iff_toInt_lt.mpr (by omega)) skip)
  · rw [show bI (0 ≤ a.toInt ∧ a.toInt < (q.1 60 1).toInt) = 0 from bI_0.mpr c]
    exact T2_pl rfl (T2_pr rfl (T2_s rfl))
/-- from a simulation of the two calls to the call's pair -/
theorem opw_of {α : Type} {q : SS} {o1 : Option (α × SS)} {g : SS → Option (α × SS)} (x : T o1 (fun r => INV r.2)) (fx : KC q o1 (fun r => r.2)) (m : ∀ y, INV y → T (g y) (fun s => INV s.2)) (S : ∀ y, MC q y → INV y → T2 o1 (g y) (fun r s => r.1 = s.1)) : T o1 (fun r => T (g r.2) (fun s => INV s.2 ∧ r.1 = s.1)) := by
  obtain ⟨r, hr, hI⟩ := x
  obtain ⟨s, hs, hJ⟩ := m r.2 hI
  obtain ⟨r2, s2, h1, h2, e⟩ := S r.2 (MC_of (fx r hr)) hI
  rw [hr] at h1
  cases h1
  rw [hs] at h2
  cases h2
  exact ⟨r, hr, s, hs, hJ, e⟩
theorem opq_odds {q : SS} (h : INV q) (w : RLW q) (a : Int32) : T (f_X11_odds q a) (fun r => T (f_X12_odds r.2 a) (fun s => INV s.2 ∧ r.1 = s.1)) := opw_of (g := fun y => f_X12_odds y a) (xo_odds h a) (kc_f_X11_odds q q a (Fr_refl q)) (fun y hy => mo_odds hy a) (fun y f _ => sim_odds h w f a)
theorem opq_watch {q : SS} (h : INV q) (w : RLW q) (a : Int32) : T (f_X11_watch q a) (fun r => T (f_X12_watch r.2 a) (fun s => INV s.2 ∧ r.1 = s.1)) := opw_of (g := fun y => f_X12_watch y a) (xo_watch h a) (kc_f_X11_watch q q a (Fr_refl q)) (fun y hy => mo_watch hy a) (fun y f hy => sim_watch h w f hy a)

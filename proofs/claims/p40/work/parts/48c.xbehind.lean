/-! ===== drawn, behind ===== -/
theorem nn : True := trivial
theorem xT_slipD {q : SS} (h : INV q) (z : Int32) : T (f_X8_slipDrawn q z) (fun r => INV r.2) := by
  unfold f_X8_slipDrawn b_X8_slipDrawn_65
  have l0 : (0 : Int32).toInt = 0 := rfl
  refine T_rw rfl (T_rw rfl (T_le (fun _ => T_some.mpr h) (fun g => T_lt (fun g2 => ?_) (fun _ => T_some.mpr h))))
  refine T_n (by intro x; rw [x] at g; omega) (T_nm (T_n (by intro x; rw [x] at g2; omega) (T_nm (T_b (xT_odds h _ _) (fun r hr => T_i (fun _ => ?_) (fun _ => ?_))))))
  · exact T_p rfl (T_p (Or.inl rfl) (T_some.mpr hr.1.1))
  · exact T_q (by decide) (T_b (xT_give hr.1.1 _ _) (fun s hs => T_p (Or.inr rfl) (T_some.mpr hs.1)))
theorem xT_reals {q : SS} (h : INV q) : T (f_X8_reals q) (fun _ => True) := T_of (x_reals (PK_Y (INV_RY h)).2.1 (PK_Y (INV_RY h)).2.2) trivial
theorem xT_kingD {q : SS} (h : INV q) (z : Int32) : T (f_X8_kingDrawn q z) (fun _ => True) := by
  have pk := PK_Y (INV_RY h)
  have l0 : (0 : Int32).toInt = 0 := rfl
  unfold f_X8_kingDrawn
  refine T_b (xT_reals h) (fun r _ => T_lt (fun g => T_n (by intro x; rw [x] at g; omega) (T_nm ?_)) (fun _ => T_some.mpr trivial))
  unfold b_X8_kingDrawn_22
  refine T_fx2 (fun _ l4 => 0 ≤ l4.toInt ∧ l4.toInt ≤ 12) (fun _ l4 => (12 - l4.toInt).toNat) ?_ _ _ _ ⟨by decide, by decide⟩ (by unfold FU; decide)
  rintro rec l3 l4 ⟨g0, g1⟩ hrec
  have k12 := pk.2.2
  refine T_rw rfl (T_le (fun _ => T_some.mpr trivial) (fun g => ?_))
  have g' : l4.toInt < (q.1 1 2).toInt := g
  have e1 := inc1 (a := l4) (by omega) (by omega)
  have go : ∀ u : Int32, T (rec u (l4 + 1)) (fun _ => True) := fun u => hrec _ _ ⟨by omega, by omega⟩ (by omega)
  unfold b_X8_kingDrawn_60
  exact T_rw (x_isReal pk.2.2 l4) (T_i (fun _ => go _) (fun _ => T_i (fun _ => T_b (xT_hold h l4) (fun _ _ => T_some.mpr trivial)) (fun _ => go _)))
theorem xo_drawn {q : SS} (h : INV q) (a b c : Int32) : T (f_X11_drawn q a b c) (fun r => INV r.2) := by
  have fin : ∀ n m : Int32, n.toInt ≤ 30 → m.toInt ≤ 30 → T (b_X11_drawn_58 q a c n m) (fun r => INV r.2) := by
    intro n m hn hm
    unfold b_X11_drawn_58 b_X11_drawn_70
    refine T_fx8 (fun z _ l4 l5 _ _ _ l9 => INV z ∧ l4 = n ∧ l5 = m ∧ 0 ≤ l9.toInt ∧ l9.toInt ≤ 30) (fun _ _ _ _ _ _ _ l9 => (30 - l9.toInt).toNat) ?_ _ _ _ _ _ _ _ _ _ ⟨h, rfl, rfl, by decide, by decide⟩ (by unfold FU; decide)
    rintro rec z l3 l4 l5 l6 l7 l8 l9 ⟨hz, rfl, rfl, g0, g1⟩ hrec
    refine T_le (fun _ => T_i (fun _ => T_some.mpr hz) (fun _ => T_some.mpr hz)) (fun g => T_b (xT_now hz) (fun y hy => ?_))
    have e9 := inc1 (a := l9) (by omega) (by omega)
    unfold b_X11_drawn_87
    refine T_fx9 (fun z _ l4' l5' _ _ _ l9' l10 => INV z ∧ l4' = l4 ∧ l5' = l5 ∧ l9' = l9 ∧ 0 ≤ l10.toInt ∧ l10.toInt ≤ 30) (fun _ _ _ _ _ _ _ _ l10 => (30 - l10.toInt).toNat) ?_ _ _ _ _ _ _ _ _ _ _ ⟨hy, rfl, rfl, rfl, by decide, by decide⟩ (by unfold FU; decide)
    rintro rec2 y m3 m4 m5 m6 m7 m8 m9 l10 ⟨hy, rfl, rfl, rfl, f0, f1⟩ hrec2
    have go1 : ∀ u v w x : Int32, T (rec y u m4 m5 v w x (m9 + 1)) (fun r => INV r.2) := fun u v w x => hrec _ _ _ _ _ _ _ _ ⟨hy, rfl, rfl, by omega, by omega⟩ (by omega)
    unfold b_X11_drawn_156 b_X11_drawn_120
    refine T_le (fun _ => T_rw rfl (T_b (xT_kingD hy _) (fun _ _ => T_i (fun _ => T_nm (go1 _ _ _ _)) (fun _ => T_nm (go1 _ _ _ _))))) (fun f => T_rw rfl (T_b (xT_slipD hy _) (fun s hs => ?_)))
    have e10 := inc1 (a := l10) (by omega) (by omega)
    have go2 : ∀ u v w x : Int32, T (rec2 s.2 u m4 m5 v w x m9 (l10 + 1)) (fun r => INV r.2) := fun u v w x => hrec2 _ _ _ _ _ _ _ _ _ ⟨hs, rfl, rfl, rfl, by omega, by omega⟩ (by omega)
    exact T_i (fun _ => T_nm (go2 _ _ _ _)) (fun _ => T_nm (go2 _ _ _ _))
  have l30 : (30 : Int32).toInt = 30 := rfl
  unfold f_X11_drawn
  refine T_nm (T_nm (T_i (fun _ => T_some.mpr h) (fun _ => T_lt (fun _ => T_some.mpr h) (fun g => T_i (fun _ => T_some.mpr h) (fun _ => T_le (fun g2 => T_i (fun _ => fin _ _ (by omega) (by omega)) (fun _ => T_rw (x_isPerson q c) (T_i (fun _ => T_some.mpr h) (fun _ => fin _ _ (by omega) (by omega))))) (fun _ => T_some.mpr h))))))
/-! behind -/
theorem xT_asTold {q : SS} (h : INV q) : T (f_X9_isAsTold q) (fun _ => True) := by
  have pk := PK_Y (INV_RY h)
  have l12 : (12 : Int32).toInt = 12 := rfl
  unfold f_X9_isAsTold b_X9_isAsTold_2
  refine T_fx1 (fun l1 => 0 ≤ l1.toInt ∧ l1.toInt ≤ 12) (fun l1 => (12 - l1.toInt).toNat) ?_ _ _ ⟨by decide, by decide⟩ (by unfold FU; decide)
  rintro rec l1 ⟨g0, g1⟩ hrec
  refine T_rw rfl (T_i (fun _ => T_some.mpr trivial) (fun _ => T_le (fun _ => T_some.mpr trivial) (fun g => ?_)))
  have e1 := inc1 (a := l1) (by omega) (by omega)
  have go : T (rec (l1 + 1)) (fun _ => True) := hrec _ ⟨by omega, by omega⟩ (by omega)
  have v : vin l1 12 := ⟨g0, by show l1.toInt < 12; omega⟩
  unfold b_X9_isAsTold_48
  exact T_p v (T_i (fun _ => go) (fun _ => T_p v (T_b (xT_hold h l1) (fun _ _ => T_i (fun _ => go) (fun _ => T_some.mpr trivial)))))
theorem xT_bc (q : SS) (a : Int32) : T (f_J6_bitCount_0f7a4 q a) (fun _ => True) := by
  unfold f_J6_bitCount_0f7a4
  exact T_nm (T_nm (T_nm (T_nm (T_nm (T_some.mpr trivial)))))
/-- the same eve, and what holds -/
def IE (q r : SS) : Prop := INV r ∧ r.1 37 = q.1 37
theorem IE_s {q r : SS} (h : IE q r) {k i : Nat} {x : Int32} (hw : wX k i = true) (hk : k ≠ 37) : IE q (sI r k i x) := ⟨INV_sX h.1 hw hk, (sI_ro (Ne.symm hk)).trans h.2⟩
theorem IE_l {q r : SS} (h : IE q r) {k i : Nat} {x : Int64} (hk : vX k = true) : IE q (sL r k i x) := ⟨INV_sLX h.1 hk, h.2⟩
theorem xT_arrive {q r : SS} (h : IE q r) (a : Int32) (b : Int64) : T (f_X9_arrive r a b) (fun s => IE q s) := by
  have w39 : ∀ i, wX 39 i = true := fun i => by unfold wX; simp
  have t100 : ∀ z, IE q z → T (b_X9_arrive_100 z a) (fun s => IE q s) := fun z hz => by
    unfold b_X9_arrive_100
    exact T_nm (T_nm (T_some.mpr (IE_s (IE_s hz (w39 _) (by decide)) (w39 _) (by decide))))
  have t90 : ∀ z, IE q z → T (b_X9_arrive_90 z a b) (fun s => IE q s) := fun z hz => by
    unfold b_X9_arrive_90
    exact T_nm (T_nm (t100 _ (IE_s (IE_l hz rfl) (w39 _) (by decide))))
  have t58 : ∀ z, IE q z → T (b_X9_arrive_58 z a b) (fun s => IE q s) := fun z hz => by
    unfold b_X9_arrive_58
    exact T_i (fun _ => t90 z hz) (fun _ => T_i (fun _ => t100 z hz) (fun _ => T_i (fun _ => T_i (fun _ => t100 z hz) (fun _ => t90 z hz)) (fun _ => t100 z hz)))
  have t47 : ∀ z u, IE q z → T (b_X9_arrive_47 z a b u) (fun s => IE q s) := fun z u hz => by
    unfold b_X9_arrive_47
    exact T_nm (T_nm (t58 _ (IE_s (IE_s hz (w39 _) (by decide)) (w39 _) (by decide))))
  unfold f_X9_arrive
  exact T_b (xT_asTold h.1) (fun _ _ => T_i (fun _ => T_some.mpr h) (fun _ => T_b (xT_bc r a) (fun _ _ => T_i (fun _ => t47 _ _ h) (fun _ => T_i (fun _ => t47 _ _ h) (fun _ => T_i (fun _ => T_i (fun _ => t58 _ h) (fun _ => t47 _ _ h)) (fun _ => t58 _ h))))))
theorem xT_oddsAt {q r : SS} (h : IE q r) (a b c : Int32) : T (f_X9_oddsAt r a b c) (fun s => IE q s.2) := by
  have pk := PK_Y (INV_RY h.1)
  have l0 : (0 : Int32).toInt = 0 := rfl
  have l864 : (864 : Int32).toInt = 864 := rfl
  unfold f_X9_oddsAt b_X9_oddsAt_99
  refine T_b (xT_hold h.1 b) (fun r1 _ => T_b (xT_held h.1 c) (fun r2 _ => T_nm ?_))
  refine T_lt (fun _ => T_some.mpr h) (fun g => T_lt (fun g2 => ?_) (fun _ => T_some.mpr h))
  generalize (((a * (6 : Int32)) + r1) * (12 : Int32)) + r2 = v at *
  have vv : vin v 864 := ⟨by omega, by show v.toInt < 864; omega⟩
  refine T_p vv (T_i (fun _ => T_rw (x_get6 pk.2.2 b) (T_rw (x_hourNow r) (T_b (x_oddsBy pk _ _ _ _ _) (fun s hs => T_p vv (T_nm (T_p vv (T_some.mpr ?_))))))) (fun _ => T_p vv (T_some.mpr h)))
  exact IE_s ⟨INV_wE hs.1 h.1, (Fr_r hs.1 (fun _ => rfl)).trans h.2⟩ (by unfold wX; simp) (by decide)
theorem xT_spread {q : SS} (hs : (q.1 37 3).toInt ≤ 12) : ∀ (n : Nat) (k : Int32), 0 ≤ k.toInt → k.toInt ≤ 12 → 13 - k.toInt ≤ (n : Int) → ∀ r, IE q r → ∀ a b, T (g_X9_spread n r k a b) (fun s => IE q s)
  | 0, k, k0, k1, hn, r, h, a, b => absurd hn (by omega)
  | n + 1, k, k0, k1, hn, r, h, a, b => by
    show T (fb_X9_spread (g_X9_spread n) r k a b) _
    unfold fb_X9_spread f_X2_size
    refine T_rw rfl ?_
    rw [h.2]
    refine T_lt (fun g => ?_) (fun _ => T_b (xT_arrive h a b) (fun s hs => T_some.mpr hs))
    have e1 := inc1 (a := k) (by omega) (by omega)
    have ih : ∀ r, IE q r → ∀ a b, T (g_X9_spread n r (k + 1) a b) (fun s => IE q s) := fun r h a b => xT_spread hs n (k + 1) (by omega) (by omega) (by omega) r h a b
    have give : ∀ (z : SS) (x y : Int32), IE q z → T (f_X8_give z x y) (fun s => IE q s) := fun z x y hz => T_mono (xT_give hz.1 x y) (fun s hs => ⟨hs.1, hs.2.trans hz.2⟩)
    have t90 : ∀ (z : SS) (x y o : Int32), IE q z → T (b_X9_spread_90 (g_X9_spread n) z k a b x y o) (fun s => IE q s) := fun z x y o hz => by
      unfold b_X9_spread_90
      exact T_b (xT_hold hz.1 x) (fun f _ => T_b (ih z hz _ _) (fun z2 h2 => T_b (give z2 _ _ h2) (fun z3 h3 => T_b (ih z3 h3 _ _) (fun z4 h4 => T_b (give z4 _ _ h4) (fun z5 h5 => T_some.mpr h5)))))
    exact T_b (xT_tAt h.1 k) (fun t _ => T_b (xT_oAt h.1 k) (fun o _ => T_b (xT_can h.1 t o) (fun c _ => T_i (fun _ => T_b (ih r h _ _) (fun s hs => T_some.mpr hs)) (fun _ => T_i (fun _ => t90 _ _ _ _ h) (fun _ => T_b (xT_oddsAt h k t o) (fun s hs => t90 _ _ _ _ hs))))))
theorem xT_go {q : SS} (h : INV q) (a b : Int32) (hb : b = 0 ∨ b = 1) : T (f_X9_goThrough q a b) (fun s => INV s) := by
  have w39 : ∀ i, wX 39 i = true := fun i => by unfold wX; simp
  have w40 : ∀ i, wX 40 i = true := fun i => by unfold wX; simp
  have w41 : ∀ i, wX 41 i = true := fun i => by unfold wX; simp
  have s12 := RJ_e12 (INV_RJ h)
  have l12 : (12 : Int32).toInt = 12 := rfl
  have l864 : (864 : Int32).toInt = 864 := rfl
  have fin : ∀ z, IE q z → T (b_X9_goThrough_76 z b) (fun s => INV s) := fun z hz => by
    unfold b_X9_goThrough_76
    refine T_p hb (T_nm (T_nm (T_nm (T_nm (T_nm (T_nm (T_nm ?_)))))))
    have h7 := IE_s (IE_l (IE_s (IE_s (IE_s (IE_s (IE_s hz (x := b) (w39 5) (by decide)) (x := 0) (w39 6) (by decide)) (x := -2) (w39 7) (by decide)) (x := -2) (w39 8) (by decide)) (x := 4095) (w39 9) (by decide)) (k := 39) (i := 10) (x := 0) rfl) (x := -2) (w39 11) (by decide)
    exact T_b (xT_spread s12 60 0 (by decide) (by decide) (by decide) _ h7 0 1) (fun s hs => T_some.mpr hs.1)
  have mid : ∀ z, IE q z → T (b_X9_goThrough_48 z b 0) (fun s => INV s) := fun z hz => by
    unfold b_X9_goThrough_48
    refine T_fx3 (fun z l3 l4 => IE q z ∧ l3 = b ∧ 0 ≤ l4.toInt ∧ l4.toInt ≤ 864) (fun _ _ l4 => (864 - l4.toInt).toNat) ?_ _ _ _ _ ⟨hz, rfl, by decide, by decide⟩ (by unfold FU; decide)
    rintro rec z l3 l4 ⟨hz, rfl, g0, g1⟩ hrec
    refine T_le (fun _ => fin z hz) (fun g => T_i (fun _ => fin z hz) (fun _ => T_vp g0 (by show l4.toInt < 864; omega) (T_nm ?_)))
    have e1 := inc1 (a := l4) (by omega) (by omega)
    exact hrec _ _ _ ⟨IE_s hz (w41 _) (by decide), rfl, by omega, by omega⟩ (by omega)
  unfold f_X9_goThrough b_X9_goThrough_3
  refine T_fx4 (fun z l2 l3 l4 => IE q z ∧ l3 = b ∧ 0 ≤ l4.toInt ∧ l4.toInt ≤ 12) (fun _ _ _ l4 => (12 - l4.toInt).toNat) ?_ _ _ _ _ _ ⟨⟨h, rfl⟩, rfl, by decide, by decide⟩ (by unfold FU; decide)
  rintro rec z l2 l3 l4 ⟨hz, rfl, g0, g1⟩ hrec
  refine T_le (fun _ => mid z hz) (fun g => ?_)
  have e1 := inc1 (a := l4) (by omega) (by omega)
  have v : vin l4 12 := ⟨g0, by show l4.toInt < 12; omega⟩
  unfold b_X9_goThrough_38
  exact T_rw (x_sizeOf z l2) (T_i (fun _ => T_p v (T_nm (hrec _ _ _ _ ⟨IE_s hz (w40 _) (by decide), rfl, by omega, by omega⟩ (by omega)))) (fun _ => T_rw (x_get7 z l2 l4 (sz60 hz.1 l2).2) (T_p v (T_nm (hrec _ _ _ _ ⟨IE_s hz (w40 _) (by decide), rfl, by omega, by omega⟩ (by omega))))))
theorem xo_behind {q : SS} (h : INV q) (a b c : Int32) : T (f_X11_behind q a b c) (fun r => INV r.2) := by
  have fin : ∀ (z : SS) (x : Int32), INV z → x = 0 ∨ x = 1 → T (b_X11_behind_114 z c x b) (fun r => INV r.2) := fun z x hz hx => by
    unfold b_X11_behind_114
    refine T_b (xT_go hz b x hx) (fun s hs => ?_)
    refine T_sw (fun _ => T_rw rfl (T_some.mpr hs)) (fun _ => T_sw (fun _ => T_rw rfl (T_some.mpr hs)) (fun _ => T_sw (fun _ => T_rw rfl (T_some.mpr hs)) (fun _ => T_sw (fun _ => ?_) (fun _ => T_sw0 (T_rw rfl (T_some.mpr hs))))))
    unfold f_X9_certain
    exact T_b (T_i (fun _ => T_some.mpr trivial) (fun _ => T_some.mpr trivial) : T _ (fun _ => True)) (fun _ _ => T_some.mpr hs)
  unfold f_X11_behind
  exact T_rw (x_isShelf q a) (T_i (fun _ => T_some.mpr h) (fun _ => T_rw (x_isShelf q b) (T_i (fun _ => T_some.mpr h) (fun _ => T_i (fun _ => T_some.mpr h) (fun _ => T_i (fun _ => T_rw (x_isEmpty q a) (T_i (fun _ => T_rw (x_isEmpty q b) (T_i (fun _ => T_rw (x_refBytes q a) (T_i (fun _ => T_rw (x_refBytes q b) (T_i (fun _ => T_b (xT_begin h a) (fun s hs => T_i (fun _ => fin _ _ hs (Or.inr rfl)) (fun _ => fin _ _ hs (Or.inl rfl)))) (fun _ => T_some.mpr h))) (fun _ => T_some.mpr h))) (fun _ => T_some.mpr h))) (fun _ => T_some.mpr h))) (fun _ => T_some.mpr h))))))

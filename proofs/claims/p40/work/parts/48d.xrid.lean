/-! ===== rid, first, hire: the class answers ===== -/
def IR (q r : SS) : Prop := INV r ∧ r.1 42 = q.1 42
theorem IR_s {q r : SS} (h : IR q r) {k i : Nat} {x : Int32} (hw : wX k i = true) (hk : k ≠ 37) (h42 : k ≠ 42) : IR q (sI r k i x) := ⟨INV_sX h.1 hw hk, (sI_ro (Ne.symm h42)).trans h.2⟩
theorem w4 {k : Nat} (h : k = 42 ∨ k = 43 ∨ k = 44 ∨ k = 45 ∨ k = 46) (i : Nat) : wX k i = true := by
  rcases h with rfl | rfl | rfl | rfl | rfl <;> (unfold wX; simp)
theorem xT_sort {q : SS} (h : INV q) : T (f_X6_sortTickets q) (fun r => IR q r) := by
  have l4 : (4 : Int32).toInt = 4 := rfl
  have l0 : (0 : Int32).toInt = 0 := rfl
  have lm : (-1 : Int32).toInt = -1 := rfl
  unfold f_X6_sortTickets b_X6_sortTickets_2
  refine T_fx2 (fun z l1 => IR q z ∧ 0 ≤ l1.toInt ∧ l1.toInt ≤ 4) (fun _ l1 => (4 - l1.toInt).toNat) ?_ _ _ _ ⟨⟨h, rfl⟩, by decide, by decide⟩ (by unfold FU; decide)
  rintro rec z l1 ⟨hz, g0, g1⟩ hrec
  refine T_le (fun _ => T_rw rfl (T_nm ?_)) (fun g => ?_)
  · have pk := PK_Y (INV_RY hz.1)
    have ed := dec1 (a := z.1 1 2) pk.2.1
    have k12 := pk.2.2
    have k0 := pk.2.1
    have kk := RY_k (INV_RY hz.1)
    unfold b_X6_sortTickets_38
    refine T_fx2 (fun y m => IR q y ∧ -1 ≤ m.toInt ∧ m.toInt < 12) (fun _ m => (m.toInt + 1).toNat) ?_ _ _ _ ⟨hz, by omega, by omega⟩ (by unfold FU; omega)
    rintro rec2 y m ⟨hy, f0, f1⟩ hrec2
    refine T_lt (fun _ => T_some.mpr hy) (fun f => ?_)
    have hY := INV_RY hy.1
    have pky := PK_Y hY
    have em : (m + -1).toInt = m.toInt - 1 := by rw [tadd (by omega) (by omega), lm]; omega
    have go : ∀ u, IR q u → T (rec2 u (m + -1)) (fun r => IR q r) := fun u hu => hrec2 _ _ ⟨hu, by omega, by omega⟩ (by omega)
    unfold b_X6_sortTickets_101
    refine T_rw (x_get6 pky.2.2 m) ?_
    by_cases c : 0 ≤ m.toInt ∧ m.toInt < (y.1 1 2).toInt
    · rw [if_pos c, RY_folds hY]
      have rf := RY_rfolds hY m.toNatClampNeg (by rw [cnI c.1, ← RY_k hY]; exact c.2)
      refine T_le (fun _ => go y hy) (fun e => T_rw (x_isReal pky.2.2 m) (T_i (fun _ => go y hy) (fun _ => T_b (xT_hold hy.1 m) (fun _ _ => T_i (fun _ => ?_) (fun _ => go y hy)))))
      have v : vin (y.1 67 m.toNatClampNeg) 4 := ⟨rf.1, by show (y.1 67 m.toNatClampNeg).toInt < 4; omega⟩
      exact T_p v (T_p v (T_nm (T_p v (T_nm (go _ (IR_s (IR_s hy (w4 (by decide) _) (by decide) (by decide)) (w4 (by decide) _) (by decide) (by decide)))))))
    · rw [if_neg c]
      refine T_len (by decide) (T_rw (x_isReal pky.2.2 m) (T_bn (fun x => c ⟨x.1, x.2.1⟩) (go y hy)))
  · have e1 := inc1 (a := l1) (by omega) (by omega)
    have v : vin l1 4 := ⟨g0, by show l1.toInt < 4; omega⟩
    exact T_p v (T_nm (T_p v (T_nm (hrec _ _ ⟨IR_s (IR_s hz (w4 (by decide) _) (by decide) (by decide)) (w4 (by decide) _) (by decide) (by decide), by omega, by omega⟩ (by omega)))))
theorem pl {a b c d : Int32} (ha : 0 ≤ a.toInt ∧ a.toInt ≤ 2) (hb : 0 ≤ b.toInt ∧ b.toInt ≤ 5) (hc : 0 ≤ c.toInt ∧ c.toInt ≤ 2) (hd : 0 ≤ d.toInt ∧ d.toInt ≤ 3) : 0 ≤ ((((((a * (6 : Int32)) + b) * (3 : Int32)) + c) * (4 : Int32)) + d).toInt ∧ ((((((a * (6 : Int32)) + b) * (3 : Int32)) + c) * (4 : Int32)) + d).toInt < 216 := by
  have l6 : (6 : Int32).toInt = 6 := rfl
  have l3 : (3 : Int32).toInt = 3 := rfl
  have l4 : (4 : Int32).toInt = 4 := rfl
  have e1 : (a * 6).toInt = a.toInt * 6 := by rw [tmul (by rw [l6]; omega) (by rw [l6]; omega), l6]
  have e2 : (a * 6 + b).toInt = a.toInt * 6 + b.toInt := by rw [tadd (by omega) (by omega), e1]
  have e3 : ((a * 6 + b) * 3).toInt = (a.toInt * 6 + b.toInt) * 3 := by rw [tmul (by rw [l3, e2]; omega) (by rw [l3, e2]; omega), l3, e2]
  have e4 : ((a * 6 + b) * 3 + c).toInt = (a.toInt * 6 + b.toInt) * 3 + c.toInt := by rw [tadd (by omega) (by omega), e3]
  have e5 : (((a * 6 + b) * 3 + c) * 4).toInt = ((a.toInt * 6 + b.toInt) * 3 + c.toInt) * 4 := by rw [tmul (by rw [l4, e4]; omega) (by rw [l4, e4]; omega), l4, e4]
  rw [tadd (by omega) (by omega), e5]
  omega
theorem xT_hourW {q : SS} (h : INV q) {a : Int32} (ha : 0 ≤ a.toInt ∧ a.toInt ≤ 2) : T (f_X6_workOutHour q a) (fun r => IR q r) := by
  have l4 : (4 : Int32).toInt = 4 := rfl
  unfold f_X6_workOutHour
  refine T_rw (x_hourNow q) (T_nm ?_)
  unfold b_X6_workOutHour_17
  refine T_fx4 (fun z l1 _ l3 => IR q z ∧ l1 = a ∧ 0 ≤ l3.toInt ∧ l3.toInt ≤ 6) (fun _ _ _ l3 => (6 - l3.toInt).toNat) ?_ _ _ _ _ _ ⟨⟨h, rfl⟩, rfl, by decide, by decide⟩ (by unfold FU; decide)
  rintro rec z l1 l2 l3 ⟨hz, rfl, g0, g1⟩ hrec
  refine T_rw rfl (T_le (fun _ => T_some.mpr hz) (fun g => T_b (xT_held hz.1 l3) (fun hb _ => ?_)))
  have g' : l3.toInt < (z.1 1 1).toInt := g
  have p6 := (PK_Y (INV_RY hz.1)).1.2
  have e3 := inc1 (a := l3) (by omega) (by omega)
  have go : ∀ y, IR q y → T (rec y l1 l2 (l3 + 1)) (fun r => IR q r) := fun y hy => hrec _ _ _ _ ⟨hy, rfl, by omega, by omega⟩ (by omega)
  unfold b_X6_workOutHour_41
  refine T_fx6 (fun y m1 m2 m3 _ l5 => IR q y ∧ m1 = l1 ∧ m2 = l2 ∧ m3 = l3 ∧ 0 ≤ l5.toInt ∧ l5.toInt ≤ 3) (fun _ _ _ _ _ l5 => (3 - l5.toInt).toNat) ?_ _ _ _ _ _ _ _ ⟨hz, rfl, rfl, rfl, by decide, by decide⟩ (by unfold FU; decide)
  rintro rec2 y m1 m2 m3 m4 l5 ⟨hy, rfl, rfl, rfl, f0, f1⟩ hrec2
  refine T_lt (fun _ => go y hy) (fun f => ?_)
  have e5 := inc1 (a := l5) (by omega) (by omega)
  have go2 : ∀ u, IR q u → T (rec2 u m1 m2 m3 m4 (l5 + 1)) (fun r => IR q r) := fun u hu => hrec2 _ _ _ _ _ _ ⟨hu, rfl, rfl, rfl, by omega, by omega⟩ (by omega)
  unfold b_X6_workOutHour_50
  refine T_fx7 (fun u n1 n2 n3 n4 n5 l6 => IR q u ∧ n1 = m1 ∧ n2 = m2 ∧ n3 = m3 ∧ n4 = m4 ∧ n5 = l5 ∧ 0 ≤ l6.toInt ∧ l6.toInt ≤ 4) (fun _ _ _ _ _ _ l6 => (4 - l6.toInt).toNat) ?_ _ _ _ _ _ _ _ _ ⟨hy, rfl, rfl, rfl, rfl, rfl, by decide, by decide⟩ (by unfold FU; decide)
  rintro rec3 u n1 n2 n3 n4 n5 l6 ⟨hu, rfl, rfl, rfl, rfl, rfl, d0, d1⟩ hrec3
  refine T_le (fun _ => go2 u hu) (fun d => T_rw rfl ?_)
  have e6 := inc1 (a := l6) (by omega) (by omega)
  have go3 : ∀ v, IR q v → T (rec3 v n1 n2 n3 n4 n5 (l6 + 1)) (fun r => IR q r) := fun v hv => hrec3 _ _ _ _ _ _ _ ⟨hv, rfl, rfl, rfl, rfl, rfl, by omega, by omega⟩ (by omega)
  have pp := pl (a := n1) (b := n3) (c := n5) (d := l6) ha ⟨g0, by omega⟩ ⟨f0, by omega⟩ ⟨d0, by omega⟩
  unfold b_X6_workOutHour_114
  refine T_i (fun _ => go3 u hu) (fun _ => T_vp d0 (by show l6.toInt < 4; omega) (T_i (fun _ => go3 u hu) (fun _ => T_b (x_oddsBy (PK_Y (INV_RY hu.1)) _ _ _ _ _) (fun s hs => T_vp pp.1 pp.2 (T_nm (go3 _ (IR_s ⟨INV_wE hs.1 hu.1, (Fr_r hs.1 (fun _ => rfl)).trans hu.2⟩ (w4 (by decide) _) (by decide) (by decide)))))))) 
theorem xT_ridB {q : SS} (h : INV q) {a b : Int32} (hb : 0 ≤ b.toInt ∧ b.toInt ≤ 3) : T (f_X6_begin q a b) (fun r => INV r ∧ r.1 42 7 = b) := by
  unfold f_X6_begin
  refine T_b (xT_now h) (fun r hr => T_nm (T_nm ?_))
  have h3 : INV (sI (sI r 42 6 a) 42 7 b) := INV_sX (INV_sX hr (w4 (by decide) _) (by decide)) (w4 (by decide) _) (by decide)
  refine T_b (xT_reals h3) (fun x _ => T_nm ?_)
  have h5 : INV (sI (sI (sI r 42 6 a) 42 7 b) 42 8 x) := INV_sX h3 (w4 (by decide) _) (by decide)
  refine T_b (xT_real h5 a) (fun y _ => T_nm ?_)
  have h7 : INV (sI (sI (sI (sI r 42 6 a) 42 7 b) 42 8 x) 42 9 (x - y)) := INV_sX h5 (w4 (by decide) _) (by decide)
  have e7 : (sI (sI (sI (sI r 42 6 a) 42 7 b) 42 8 x) 42 9 (x - y)).1 42 7 = b := rfl
  show T (b_X6_begin_47 (sI (sI (sI (sI r 42 6 a) 42 7 b) 42 8 x) 42 9 (x - y)) 0) _
  generalize sI (sI (sI (sI r 42 6 a) 42 7 b) 42 8 x) 42 9 (x - y) = Q at *
  have l6 : (6 : Int32).toInt = 6 := rfl
  unfold b_X6_begin_47
  refine T_fx2 (fun z l3 => IR Q z ∧ 0 ≤ l3.toInt ∧ l3.toInt ≤ 6) (fun _ l3 => (6 - l3.toInt).toNat) ?_ _ _ _ ⟨⟨h7, rfl⟩, by decide, by decide⟩ (by unfold FU; decide)
  rintro rec z l3 ⟨hz, g0, g1⟩ hrec
  have e1 := inc1 (a := l3)
  refine T_le (fun _ => T_b (xT_sort hz.1) (fun s hs => ?_)) (fun g => T_vp g0 (by show l3.toInt < 6; omega) (T_nm (hrec _ _ ⟨IR_s hz (w4 (by decide) _) (by decide) (by decide), by have := e1 (by omega) (by omega); omega, by have := e1 (by omega) (by omega); omega⟩ (by have := e1 (by omega) (by omega); omega))))
  have hs2 : IR Q s := ⟨hs.1, hs.2.trans hz.2⟩
  unfold b_X6_begin_72
  refine T_fx2 (fun z l => IR Q z ∧ 0 ≤ l.toInt ∧ l.toInt ≤ 3) (fun _ l => (3 - l.toInt).toNat) ?_ _ _ _ ⟨hs2, by decide, by decide⟩ (by unfold FU; decide)
  rintro rec2 z l ⟨hz, f0, f1⟩ hrec2
  have e42 : z.1 42 7 = b := by rw [hz.2]; exact e7
  rw [e42]
  refine T_le (fun _ => T_some.mpr ⟨hz.1, e42⟩) (fun f => T_b (xT_hourW hz.1 ⟨f0, by omega⟩) (fun y hy => ?_))
  have e2 := inc1 (a := l) (by omega) (by omega)
  exact hrec2 _ _ ⟨⟨hy.1, hy.2.trans hz.2⟩, by omega, by omega⟩ (by omega)
theorem xT_then {q : SS} (h : INV q) {a b c : Int32} (hb : 0 ≤ b.toInt ∧ b.toInt ≤ 3) (hc : 0 ≤ c.toInt ∧ c.toInt ≤ 5) : T (f_X6_oddsThen q a b c) (fun _ => True) := by
  have l0 : (0 : Int32).toInt = 0 := rfl
  have l216 : (216 : Int32).toInt = 216 := rfl
  unfold f_X6_oddsThen f_X6_placeOf
  refine T_vp hc.1 (by show c.toInt < 6; omega) (T_rw rfl (T_vp hb.1 (by show b.toInt < 4; omega) (T_i (fun _ => T_some.mpr trivial) (fun _ => T_lt (fun _ => T_some.mpr trivial) (fun g => T_le (fun _ => T_some.mpr trivial) (fun g2 => T_vp (by omega) (by omega) (T_some.mpr trivial)))))))
/-- best and tried, with enough depth -/
theorem xT_best {q : SS} (h7 : (q.1 42 7).toInt ≤ 3) : ∀ n : Nat, (∀ hh : Int32, 0 ≤ hh.toInt → hh.toInt ≤ 3 → 2 * (3 - hh.toInt) + 1 ≤ (n : Int) → ∀ r g, IR q r → T ((g_X6_best n).1 r hh g) (fun s => IR q s.2)) ∧ (∀ hh b c : Int32, 0 ≤ hh.toInt → hh.toInt ≤ 2 → 2 * (3 - hh.toInt) ≤ (n : Int) → (0 ≤ b.toInt ∧ b.toInt ≤ 3) → (0 ≤ c.toInt ∧ c.toInt ≤ 5) → ∀ r g s, IR q r → T ((g_X6_best n).2 r hh g b c s) (fun s => IR q s.2))
  | 0 => ⟨fun hh h0 h1 h2 => absurd h2 (by omega), fun hh b c h0 h1 h2 => absurd h2 (by omega)⟩
  | n + 1 => by
    obtain ⟨ih1, ih2⟩ := xT_best h7 n
    have l3 : (3 : Int32).toInt = 3 := rfl
    have l4 : (4 : Int32).toInt = 4 := rfl
    constructor
    · intro hh h0 h1 hn r g hr
      show T (fb_X6_best (g_X6_best n) r hh g) _
      unfold fb_X6_best b_X6_best_13
      refine T_i (fun _ => T_some.mpr hr) (fun _ => T_lt (fun g3 => ?_) (fun _ => T_some.mpr hr))
      have e1 := inc1 (a := hh) (by omega) (by omega)
      refine T_b (ih1 (hh + 1) (by omega) (by omega) (by omega) r g hr) (fun s hs => T_nm ?_)
      unfold b_X6_best_38
      refine T_fx6 (fun z l1 l2 _ _ l5 => IR q z ∧ l1 = hh ∧ l2 = g ∧ 0 ≤ l5.toInt ∧ l5.toInt ≤ 4) (fun _ _ _ _ _ l5 => (4 - l5.toInt).toNat) ?_ _ _ _ _ _ _ _ ⟨hs, rfl, rfl, by decide, by decide⟩ (by unfold FU; decide)
      rintro rec z l1 l2 l3' l4' l5 ⟨hz, rfl, rfl, g0, g1⟩ hrec
      refine T_le (fun _ => T_some.mpr hz) (fun g5 => ?_)
      have e5 := inc1 (a := l5) (by omega) (by omega)
      unfold b_X6_best_47
      refine T_fx7 (fun y m1 m2 _ _ m5 l6 => IR q y ∧ m1 = l1 ∧ m2 = l2 ∧ m5 = l5 ∧ 0 ≤ l6.toInt ∧ l6.toInt ≤ 6) (fun _ _ _ _ _ _ l6 => (6 - l6.toInt).toNat) ?_ _ _ _ _ _ _ _ _ ⟨hz, rfl, rfl, rfl, by decide, by decide⟩ (by unfold FU; decide)
      rintro rec2 y m1 m2 m3 m4 m5 l6 ⟨hy, rfl, rfl, rfl, f0, f1⟩ hrec2
      have p6 := (PK_Y (INV_RY hy.1)).1.2
      refine T_rw rfl (T_le (fun _ => hrec _ _ _ _ _ _ ⟨hy, rfl, rfl, by omega, by omega⟩ (by omega)) (fun g6 => ?_))
      have g6' : l6.toInt < (y.1 1 1).toInt := g6
      have e6 := inc1 (a := l6) (by omega) (by omega)
      exact T_b (ih2 m1 m5 l6 (by omega) (by omega) (by omega) ⟨by omega, by omega⟩ ⟨by omega, by omega⟩ y m2 m3 hy) (fun u hu => T_nm (hrec2 _ _ _ _ _ _ _ ⟨hu, rfl, rfl, rfl, by omega, by omega⟩ (by omega)))
    · intro hh b c h0 h1 hn hb hc r g s hr
      show T (fb_X6_tried (g_X6_best n) r hh g b c s) _
      unfold fb_X6_tried
      have vb : vin b 4 := ⟨hb.1, by show b.toInt < 4; omega⟩
      have vc : vin c 6 := ⟨hc.1, by show c.toInt < 6; omega⟩
      have e1 := inc1 (a := hh) (by omega) (by omega)
      refine T_b (xT_then hr.1 hb hc) (fun o _ => T_i (fun _ => T_some.mpr hr) (fun _ => T_p vb (T_p vb (T_nm (T_p vc (T_p vc (T_nm ?_)))))))
      refine T_b (ih1 (hh + 1) (by omega) (by omega) (by omega) _ (g + 1) (IR_s (IR_s hr (w4 (by decide) _) (by decide) (by decide)) (w4 (by decide) _) (by decide) (by decide))) (fun u hu => T_p vb (T_p vb (T_nm (T_p vc (T_p vc (T_nm (T_some.mpr (IR_s (IR_s hu (w4 (by decide) _) (by decide) (by decide)) (w4 (by decide) _) (by decide) (by decide)))))))))
theorem xo_first {q : SS} (h : INV q) (a b : Int32) : T (f_X11_first q a b) (fun r => INV r.2) := by
  have l3 : (3 : Int32).toInt = 3 := rfl
  have l4 : (4 : Int32).toInt = 4 := rfl
  unfold f_X11_first
  refine T_rw (x_isPerson q a) (T_i (fun _ => T_some.mpr h) (fun _ => T_lt (fun _ => T_some.mpr h) (fun g0 => T_le (fun g3 => ?_) (fun _ => T_some.mpr h))))
  have hb : 0 ≤ b.toInt ∧ b.toInt ≤ 3 := ⟨g0, by omega⟩
  refine T_b (xT_ridB h hb) (fun r hr => ?_)
  obtain ⟨hI, e7⟩ := hr
  have h7 : (r.1 42 7).toInt ≤ 3 := by rw [e7]; exact hb.2
  refine T_b (Q := fun s => INV s.2) ?_ (fun s hs => T_some.mpr hs)
  unfold f_X6_firstSlipping
  refine T_i (fun _ => T_some.mpr hI) (fun _ => T_b ((xT_best h7 60).1 1 (by decide) (by decide) (by decide) r 0 ⟨hI, rfl⟩) (fun s hs => T_nm ?_))
  unfold b_X6_firstSlipping_28
  refine T_fx5 (fun z _ _ _ l4 => IR r z ∧ 0 ≤ l4.toInt ∧ l4.toInt ≤ 4) (fun _ _ _ _ l4 => (4 - l4.toInt).toNat) ?_ _ _ _ _ _ _ ⟨hs, by decide, by decide⟩ (by unfold FU; decide)
  rintro rec z l1 l2 l3' l4' ⟨hz, f0, f1⟩ hrec
  refine T_le (fun _ => T_some.mpr hz.1) (fun f => ?_)
  have e4 := inc1 (a := l4') (by omega) (by omega)
  unfold b_X6_firstSlipping_37
  refine T_fx6 (fun y _ _ _ m4 l5 => IR r y ∧ m4 = l4' ∧ 0 ≤ l5.toInt ∧ l5.toInt ≤ 6) (fun _ _ _ _ _ l5 => (6 - l5.toInt).toNat) ?_ _ _ _ _ _ _ _ ⟨hz, rfl, by decide, by decide⟩ (by unfold FU; decide)
  rintro rec2 y m1 m2 m3 m4 l5 ⟨hy, rfl, d0, d1⟩ hrec2
  have p6 := (PK_Y (INV_RY hy.1)).1.2
  refine T_rw rfl (T_le (fun _ => hrec _ _ _ _ _ ⟨hy, by omega, by omega⟩ (by omega)) (fun d => ?_))
  have d' : l5.toInt < (y.1 1 1).toInt := d
  have e5 := inc1 (a := l5) (by omega) (by omega)
  refine T_b ((xT_best h7 60).2 0 m4 l5 (by decide) (by decide) (by decide) ⟨f0, by omega⟩ ⟨d0, by omega⟩ y 0 m1 hy) (fun u hu => T_vp f0 (by show m4.toInt < 4; omega) (T_nm ?_))
  have go : ∀ p o : Int32, T (rec2 u.2 m1 p o m4 (l5 + 1)) (fun s => INV s.2) := fun p o => hrec2 _ _ _ _ _ _ ⟨hu, rfl, by omega, by omega⟩ (by omega)
  unfold b_X6_firstSlipping_99 b_X6_firstSlipping_105
  exact T_i (fun _ => go _ _) (fun _ => T_i (fun _ => T_i (fun _ => go _ _) (fun _ => T_i (fun _ => go _ _) (fun _ => go _ _))) (fun _ => go _ _))
theorem xo_rid {q : SS} (h : INV q) (a b c : Int32) : T (f_X11_rid q a b c) (fun r => INV r.2) := by
  have l3 : (3 : Int32).toInt = 3 := rfl
  unfold f_X11_rid
  refine T_rw (x_isPerson q a) (T_i (fun _ => T_some.mpr h) (fun _ => T_lt (fun _ => T_some.mpr h) (fun g0 => T_lt (fun _ => T_some.mpr h) (fun g3 => T_rw (isPart_x q c) (T_i (fun _ => T_some.mpr h) (fun _ => ?_))))))
  have hb : 0 ≤ b.toInt ∧ b.toInt ≤ 3 := ⟨g0, by omega⟩
  refine T_b (xT_ridB h hb) (fun r hr => ?_)
  obtain ⟨hI, e7⟩ := hr
  have h7 : (r.1 42 7).toInt ≤ 3 := by rw [e7]; exact hb.2
  have A : T (f_X6_freeAtBest r) (fun s => IR r s.2) := by
    unfold f_X6_freeAtBest
    exact T_i (fun _ => T_some.mpr ⟨hI, rfl⟩) (fun _ => T_b ((xT_best h7 60).1 0 (by decide) (by decide) (by decide) r 0 ⟨hI, rfl⟩) (fun s hs => T_some.mpr hs))
  refine T_b A (fun s hs => ?_)
  have B : T (f_X6_freeAtMost s.2) (fun _ => True) := by
    unfold f_X6_freeAtMost
    refine T_nm ?_
    unfold b_X6_freeAtMost_11
    refine T_fx2 (fun _ l2 => 0 ≤ l2.toInt ∧ l2.toInt ≤ 3) (fun _ l2 => (3 - l2.toInt).toNat) ?_ _ _ _ ⟨by decide, by decide⟩ (by unfold FU; decide)
    rintro rec l1 l2 ⟨f0, f1⟩ hrec
    rw [hs.2, e7]
    refine T_le (fun _ => T_some.mpr trivial) (fun f => T_i (fun _ => T_some.mpr trivial) (fun _ => T_nm ?_))
    have e2 := inc1 (a := l2) (by omega) (by omega)
    exact hrec _ _ ⟨by omega, by omega⟩ (by omega)
  exact T_b B (fun v _ => T_b (xT_part s.2 _ _ c) (fun w _ => T_some.mpr hs.1))
theorem xT_takes {q : SS} (h : INV q) (a b c : Int32) : T (f_X11_takesFor q a b c) (fun _ => True) := by
  have pk := PK_Y (INV_RY h)
  unfold f_X11_takesFor b_X11_takesFor_34 b_X11_takesFor_35
  have t : ∀ s0 : Int32, T (if s0 = 0 then (some (0 : Int32)) else ((f_X10_get q (3 : Int32) b).bind fun r1 => some r1)) (fun _ => True) := fun s0 => T_i (fun _ => T_some.mpr trivial) (fun _ => T_rw (x_get3 pk.1.2 b) (T_some.mpr trivial))
  exact T_i (fun _ => t 0) (fun _ => T_rw (x_get1 pk.1.2 b) (T_i (fun _ => T_rw (x_get2 pk.1.2 b) (T_i (fun _ => t 1) (fun _ => t 0))) (fun _ => t 0)))
theorem xo_hire {q : SS} (h : INV q) (a b c : Int32) : T (f_X11_hire q a b c) (fun r => INV r.2) := by
  have l99 : (99 : Int32).toInt = 99 := rfl
  unfold f_X11_hire
  refine T_rw (x_isPerson q a) (T_i (fun _ => T_some.mpr h) (fun _ => T_i (fun _ => T_some.mpr h) (fun _ => T_i (fun _ => T_some.mpr h) (fun _ => T_i (fun _ => T_some.mpr h) (fun _ => T_i (fun _ => ?_) (fun _ => T_some.mpr h))))))
  refine T_b (x_now (INV_RY h)) (fun r hr => ?_)
  have hI := NWX_I h hr
  have pk := PK_Y (INV_RY hI)
  refine T_rw (x_looseOf pk.2.1 pk.2.2 a) (T_i (fun _ => ?_) (fun _ => T_some.mpr hI))
  unfold b_X11_hire_60
  have fin : ∀ u v w x : Int32, T (b_X11_hire_146 r u v w x) (fun s => INV s.2) := fun u v w x => by
    unfold b_X11_hire_146
    exact T_i (fun _ => T_i (fun _ => T_some.mpr hI) (fun _ => T_some.mpr hI)) (fun _ => T_some.mpr hI)
  refine T_fx7 (fun z _ _ _ _ _ l7 => z = r ∧ 0 ≤ l7.toInt ∧ l7.toInt ≤ 100) (fun _ _ _ _ _ _ l7 => (100 - l7.toInt).toNat) ?_ _ _ _ _ _ _ _ _ ⟨rfl, by decide, by decide⟩ (by unfold FU; decide)
  rintro rec z l1 l3 l4 l5 l6 l7 ⟨rfl, g0, g1⟩ hrec
  refine T_lt (fun _ => fin _ _ _ _) (fun g => T_i (fun _ => fin _ _ _ _) (fun _ => ?_))
  have e7 := inc1 (a := l7) (by omega) (by omega)
  have go : ∀ u v w x y : Int32, T (rec z u v w x y (l7 + 1)) (fun s => INV s.2) := fun u v w x y => hrec _ _ _ _ _ _ _ ⟨rfl, by omega, by omega⟩ (by omega)
  unfold b_X11_hire_75
  refine T_fx8 (fun y _ _ _ _ _ m7 l8 => y = z ∧ m7 = l7 ∧ 0 ≤ l8.toInt ∧ l8.toInt ≤ 6) (fun _ _ _ _ _ _ _ l8 => (6 - l8.toInt).toNat) ?_ _ _ _ _ _ _ _ _ _ ⟨rfl, rfl, by decide, by decide⟩ (by unfold FU; decide)
  rintro rec2 y m1 m3 m4 m5 m6 m7 l8 ⟨rfl, rfl, f0, f1⟩ hrec2
  have p6 := pk.1.2
  unfold b_X11_hire_140
  refine T_rw rfl (T_le (fun _ => go _ _ _ _ _) (fun f => T_i (fun _ => go _ _ _ _ _) (fun _ => T_b (xT_takes hI _ _ _) (fun t _ => T_nm ?_))))
  have f' : l8.toInt < (y.1 1 1).toInt := f
  have e8 := inc1 (a := l8) (by omega) (by omega)
  have go2 : ∀ u v w x t : Int32, T (rec2 y u v w x t m7 (l8 + 1)) (fun s => INV s.2) := fun u v w x t => hrec2 _ _ _ _ _ _ _ _ ⟨rfl, rfl, by omega, by omega⟩ (by omega)
  unfold b_X11_hire_134
  exact T_i (fun _ => go2 _ _ _ _ _) (fun _ => T_nm (T_nm (go2 _ _ _ _ _)))

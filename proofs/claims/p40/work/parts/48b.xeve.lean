/-! ===== the class's queries answer, and leave what holds ===== -/
theorem INV_sX {q : SS} (h : INV q) {k i : Nat} {x : Int32} (hw : wX k i = true) (hk : k ≠ 37) : INV (sI q k i x) := by
  have h81 : (81 : Nat) ≠ k := by
    rintro rfl
    cases hw
  have j := INV_RJ h
  refine INV_wX (Fr_sI (Fr_refl q) hw) ⟨?_, ?_, ?_⟩ h
  · rw [sI_ro (Ne.symm hk)]; exact RJ_e0 j
  · rw [sI_ro (Ne.symm hk)]; exact RJ_e12 j
  · rw [sI_ro h81]; exact RJ_h1 j
theorem INV_s37 {q : SS} (h : INV q) {i : Nat} {x : Int32} (hi : i = 3 → 0 ≤ x.toInt ∧ x.toInt ≤ 12) : INV (sI q 37 i x) := by
  have j := INV_RJ h
  have e : 0 ≤ ((sI q 37 i x).1 37 3).toInt ∧ ((sI q 37 i x).1 37 3).toInt ≤ 12 := by
    rw [sI_rd]
    by_cases c : i = 3
    · rw [if_pos ⟨rfl, c.symm⟩]; exact hi c
    · rw [if_neg (fun y => c y.2.symm)]; exact ⟨RJ_e0 j, RJ_e12 j⟩
  exact INV_wX (Fr_sI (Fr_refl q) (by unfold wX; simp)) ⟨e.1, e.2, by have a := RJ_h1 j; exact a⟩ h
theorem INV_sLX {q : SS} (h : INV q) {k i : Nat} {x : Int64} (hk : vX k = true) : INV (sL q k i x) := INV_wX (Fr_sL (Fr_refl q) hk) (by have a := INV_RJ h; exact a) h
theorem xT_give {q : SS} (h : INV q) (a b : Int32) : T (f_X8_give q a b) (fun r => INV r ∧ r.1 37 = q.1 37) := by
  have pk := PK_Y (INV_RY h)
  unfold f_X8_give
  refine T_rw (x_isTicket q a) (T_bi (fun _ => T_some.mpr ⟨h, rfl⟩) (fun g => T_vp g.1 (by have := pk.2.2; show a.toInt < 12; omega) (T_nm (T_some.mpr ⟨INV_sX h (by unfold wX; simp) (by decide), rfl⟩))))
theorem xT_odds {q : SS} (h : INV q) (a b : Int32) : T (f_X8_oddsOf q a b) (fun r => (INV r.2 ∧ r.2.1 37 = q.1 37) ∧ 0 ≤ r.1.toInt ∧ r.1.toInt ≤ 12) := T_mono (x_oddsOf (PK_Y (INV_RY h)) a b) (fun r hr => ⟨⟨INV_wE hr.1 h, Fr_r hr.1 (fun _ => rfl)⟩, hr.2⟩)
theorem xT_can {q : SS} (h : INV q) (a b : Int32) : T (f_X8_canSlip q a b) (fun _ => True) := T_of (x_canSlip (PK_Y (INV_RY h)).1.2 (PK_Y (INV_RY h)).2.2 a b) trivial
theorem xT_hold {q : SS} (h : INV q) (a : Int32) : T (f_X8_holderOf q a) (fun _ => True) := T_of (x_holderOf (PK_Y (INV_RY h)).2.2 a) trivial
theorem xT_held {q : SS} (h : INV q) (a : Int32) : T (f_X8_heldBy q a) (fun _ => True) := T_of (x_heldBy (PK_Y (INV_RY h)).2.1 (PK_Y (INV_RY h)).2.2 a) trivial
theorem xT_tAt {q : SS} (h : INV q) (a : Int32) : T (f_X2_ticketAt q a) (fun _ => True) := by
  have j := RJ_e12 (INV_RJ h)
  have l0 : (0 : Int32).toInt = 0 := rfl
  unfold f_X2_ticketAt
  exact T_lt (fun _ => T_some.mpr trivial) (fun g => T_le (fun _ => T_some.mpr trivial) (fun g2 => T_vp (by omega) (by show a.toInt < 12; omega) (T_some.mpr trivial)))
theorem xT_oAt {q : SS} (h : INV q) (a : Int32) : T (f_X2_toAt q a) (fun _ => True) := by
  have j := RJ_e12 (INV_RJ h)
  have l0 : (0 : Int32).toInt = 0 := rfl
  unfold f_X2_toAt
  exact T_lt (fun _ => T_some.mpr trivial) (fun g => T_le (fun _ => T_some.mpr trivial) (fun g2 => T_vp (by omega) (by show a.toInt < 12; omega) (T_some.mpr trivial)))
theorem sz60 {q : SS} (h : INV q) (a : Int32) : 0 ≤ szX q a ∧ szX q a ≤ 60 := by
  unfold szX
  by_cases c : 0 ≤ a.toInt ∧ a.toInt < 6 ∧ 0 ≤ (q.1 27 a.toNatClampNeg).toInt ∧ (q.1 27 a.toNatClampNeg).toInt ≤ 4
  · rw [if_pos c, RS_size (INV_RS h)]
    exact RS_size0 (INV_RS h) _ (cnL c.1 c.2.1)
  · rw [if_neg c]
    omega
theorem xT_now {q : SS} (h : INV q) : T (f_X8_begin q) (fun r => INV r) := T_mono (x_begin (INV_RY h)) (fun r hr => INV_begin h hr.1 hr.2.1)
theorem xT_begin {q : SS} (h : INV q) (a : Int32) : T (f_X2_begin q a) (fun r => INV r) := by
  unfold f_X2_begin
  refine T_b (xT_now h) (fun r hr => T_rw (x_sizeOf r a) (T_nm (T_nm ?_)))
  have l0 : (0 : Int32).toInt = 0 := rfl
  have l12 : (12 : Int32).toInt = 12 := rfl
  have m12 : ∀ x : Int32, (jmin (12 : Int32) x).toInt ≤ 12 := by
    intro x
    unfold jmin
    simp only [Int32.lt_iff_toInt_lt]
    split <;> omega
  generalize hm : jmin (12 : Int32) (if 0 ≤ a.toInt ∧ a.toInt < 6 ∧ 0 ≤ (r.1 27 a.toNatClampNeg).toInt ∧ (r.1 27 a.toNatClampNeg).toInt ≤ 4 then r.1 28 a.toNatClampNeg else 0) = m
  have hm12 : m.toInt ≤ 12 := by rw [← hm]; exact m12 _
  unfold b_X2_begin_26
  refine T_fx4 (fun z l2 l3 l4 => INV z ∧ l3.toInt ≤ 12 ∧ 0 ≤ l4.toInt ∧ l4.toInt ≤ 12) (fun _ _ _ l4 => (12 - l4.toInt).toNat) ?_ _ _ _ _ _ ⟨INV_s37 hr (fun _ => z012), hm12, by decide, by decide⟩ (by unfold FU; decide)
  rintro rec z l2 l3 l4 ⟨hz, g2, g0, g1⟩ hrec
  refine T_le (fun _ => T_some.mpr hz) (fun g => ?_)
  have e1 := inc1 (a := l4) (by omega) (by omega)
  refine T_rw (x_get7 z l2 l4 (sz60 hz l2).2) (T_nm (T_rw (x_isSlipping z _) (T_i (fun _ => T_some.mpr hz) (fun _ => T_vp g0 (by show l4.toInt < 12; omega) (T_nm (T_nm (hrec _ _ _ _ ⟨INV_s37 (INV_sX hz (by unfold wX; simp) (by decide)) (fun _ => by omega), g2, by omega, by omega⟩ (by omega))))))))
theorem xT_well {q : SS} (h : INV q) (n : Int32) : T (f_X2_goByWell q n) (fun r => INV r) := by
  unfold f_X2_goByWell
  refine T_nm (T_nm ?_)
  have h2 : INV (sI (sI q 37 4 0) 37 5 0) := INV_s37 (INV_s37 h (fun x => absurd x (by decide))) (fun x => absurd x (by decide))
  unfold b_X2_goByWell_12
  refine T_fx3 (fun z l1 l2 => INV z ∧ 0 ≤ l2.toInt ∧ l2.toInt ≤ 12) (fun _ _ l2 => (12 - l2.toInt).toNat) ?_ _ _ _ _ ⟨h2, by decide, by decide⟩ (by unfold FU; decide)
  rintro rec z l1 l2 ⟨hz, g0, g1⟩ hrec
  have j := RJ_e12 (INV_RJ hz)
  refine T_le (fun _ => T_some.mpr hz) (fun _ => T_le (fun _ => T_some.mpr hz) (fun g => ?_))
  have e1 := inc1 (a := l2) (by omega) (by omega)
  have go : ∀ y : SS, INV y → T (rec y l1 (l2 + 1)) (fun r => INV r) := fun y hy => hrec _ _ _ ⟨hy, by omega, by omega⟩ (by omega)
  unfold b_X2_goByWell_109
  refine T_b (xT_tAt hz l2) (fun t _ => T_b (xT_oAt hz l2) (fun o _ => T_b (xT_can hz t o) (fun c _ => T_i (fun _ => T_nm (go _ (INV_s37 hz (fun x => absurd x (by decide))))) (fun _ => ?_))))
  refine T_b (xT_tAt hz l2) (fun t2 _ => T_b (xT_oAt hz l2) (fun o2 _ => T_b (xT_odds hz t2 o2) (fun r hr => T_i (fun _ => go _ hr.1.1) (fun _ => T_nm ?_))))
  have h3 : INV (sI r.2 37 4 (r.2.1 37 4 + 1)) := INV_s37 hr.1.1 (fun x => absurd x (by decide))
  exact T_b (xT_tAt h3 l2) (fun t3 _ => T_b (xT_oAt h3 l2) (fun o3 _ => T_b (xT_give h3 t3 o3) (fun s hs => go _ hs.1)))
theorem xT_step {q : SS} (h : INV q) (a b : Int32) : T (f_X2_weighStep q a b) (fun r => INV r ∧ r.1 37 = q.1 37) := by
  unfold f_X2_weighStep b_X2_weighStep_37
  have fin : ∀ (z : SS) (x y : Int64), INV z ∧ z.1 37 = q.1 37 → T (nm (sL z 37 6 (y * x)) fun q4 => nm (sL q4 37 7 ((q4.2 37 7) * (12 : Int64))) fun q5 => if b = 0 then (some q5) else ((f_X2_ticketAt q5 a).bind fun r6 => (f_X2_toAt q5 a).bind fun r7 => (f_X8_give q5 r6 r7).bind fun r8 => some r8)) (fun r => INV r ∧ r.1 37 = q.1 37) := by
    intro z x y hz
    refine T_nm (T_nm ?_)
    have h2 : INV (sL (sL z 37 6 (y * x)) 37 7 (((sL z 37 6 (y * x)).2 37 7) * (12 : Int64))) := INV_sLX (INV_sLX hz.1 rfl) rfl
    exact T_i (fun _ => T_some.mpr ⟨h2, hz.2⟩) (fun _ => T_b (xT_tAt h2 a) (fun t _ => T_b (xT_oAt h2 a) (fun o _ => T_b (xT_give h2 t o) (fun s hs => T_some.mpr ⟨hs.1, hs.2.trans hz.2⟩))))
  refine T_b (xT_tAt h a) (fun t _ => T_b (xT_oAt h a) (fun o _ => T_b (xT_odds h t o) (fun r hr => T_i (fun _ => fin _ _ _ hr.1) (fun _ => fin _ _ _ hr.1))))
theorem xT_all {q : SS} (h : INV q) : T (f_X2_weighAllThatCan q) (fun r => INV r) := by
  unfold f_X2_weighAllThatCan
  refine T_nm (T_nm ?_)
  unfold b_X2_weighAllThatCan_12
  refine T_fx2 (fun z l1 => INV z ∧ 0 ≤ l1.toInt ∧ l1.toInt ≤ 12) (fun _ l1 => (12 - l1.toInt).toNat) ?_ _ _ _ ⟨INV_sLX (INV_sLX h rfl) rfl, by decide, by decide⟩ (by unfold FU; decide)
  rintro rec z l1 ⟨hz, g0, g1⟩ hrec
  have j := RJ_e12 (INV_RJ hz)
  refine T_le (fun _ => T_some.mpr hz) (fun g => ?_)
  have e1 := inc1 (a := l1) (by omega) (by omega)
  have go : ∀ y : SS, INV y → T (rec y (l1 + 1)) (fun r => INV r) := fun y hy => hrec _ _ ⟨hy, by omega, by omega⟩ (by omega)
  unfold b_X2_weighAllThatCan_46
  exact T_b (xT_tAt hz l1) (fun t _ => T_b (xT_oAt hz l1) (fun o _ => T_b (xT_can hz t o) (fun c _ => T_i (fun _ => go _ hz) (fun _ => T_b (xT_step hz l1 1) (fun s hs => go _ hs.1)))))
theorem xT_set {q : SS} (h : INV q) (a : Int32) : T (f_X2_weighSet q a) (fun r => INV r) := by
  unfold f_X2_weighSet b_X2_weighSet_14
  have fin : ∀ x : Int32, T (nm (sL q 37 6 (1 : Int64)) fun q1 => nm (sL q1 37 7 (1 : Int64)) fun q2 => b_X2_weighSet_27 q2 a x (0 : Int32)) (fun r => INV r) := by
    intro x
    refine T_nm (T_nm ?_)
    unfold b_X2_weighSet_27
    refine T_fx4 (fun z l1 l2 l3 => INV z ∧ 0 ≤ l3.toInt ∧ l3.toInt ≤ 12) (fun _ _ _ l3 => (12 - l3.toInt).toNat) ?_ _ _ _ _ _ ⟨INV_sLX (INV_sLX h rfl) rfl, by decide, by decide⟩ (by unfold FU; decide)
    rintro rec z l1 l2 l3 ⟨hz, g0, g1⟩ hrec
    have j := RJ_e12 (INV_RJ hz)
    refine T_le (fun _ => T_i (fun _ => T_nm (T_some.mpr (INV_sLX hz rfl))) (fun _ => T_some.mpr hz)) (fun g => ?_)
    have e1 := inc1 (a := l3) (by omega) (by omega)
    have go : ∀ (y : SS) (u : Int32), INV y → T (rec y l1 u (l3 + 1)) (fun r => INV r) := fun y u hy => hrec _ _ _ _ ⟨hy, by omega, by omega⟩ (by omega)
    unfold b_X2_weighSet_49 b_X2_weighSet_88
    exact T_i (fun _ => T_b (xT_tAt hz l3) (fun t _ => T_b (xT_oAt hz l3) (fun o _ => T_b (xT_can hz t o) (fun c _ => T_i (fun _ => T_i (fun _ => go _ _ hz) (fun _ => go _ _ hz)) (fun _ => T_b (xT_step hz l3 _) (fun s hs => go _ _ hs.1)))))) (fun _ => T_b (xT_tAt hz l3) (fun t _ => T_b (xT_oAt hz l3) (fun o _ => T_b (xT_can hz t o) (fun c _ => T_i (fun _ => T_i (fun _ => go _ _ hz) (fun _ => go _ _ hz)) (fun _ => T_b (xT_step hz l3 _) (fun s hs => go _ _ hs.1))))))
  exact T_i (fun _ => fin 1) (fun _ => fin 0)
theorem xT_part (q : SS) (a b : Int64) (p : Int32) : T (f_X11_partOf q a b p) (fun _ => True) := by
  have l200 : (200 : Int32).toInt = 200 := rfl
  unfold f_X11_partOf
  refine T_i (fun _ => T_some.mpr trivial) (fun _ => T_i (fun _ => T_some.mpr trivial) (fun _ => ?_))
  unfold b_X11_partOf_25
  have fin : ∀ x : Int64, T (b_X11_partOf_61 q a b p x) (fun _ => True) := by
    intro x
    unfold b_X11_partOf_61
    by_cases z : x = 0
    · exact T_p (lgc_z.mpr z) (T_some.mpr trivial)
    · exact T_q (fun y => z (lgc_z.mp y)) (T_i (fun _ => T_n z (T_some.mpr trivial)) (fun _ => T_n z (T_some.mpr trivial)))
  refine T_fx6 (fun l0 l2 l4 _ _ l9 => l0 = a ∧ l2 = b ∧ l4 = p ∧ 0 ≤ l9.toInt ∧ l9.toInt ≤ 200) (fun _ _ _ _ _ l9 => (200 - l9.toInt).toNat) ?_ _ _ _ _ _ _ _ ⟨rfl, rfl, rfl, by decide, by decide⟩ (by unfold FU; decide)
  rintro rec l0 l2 l4 l5 l7 l9 ⟨rfl, rfl, rfl, g0, g1⟩ hrec
  refine T_le (fun _ => fin _) (fun g => ?_)
  have e1 := inc1 (a := l9) (by omega) (by omega)
  by_cases z : l7 = 0
  · exact T_p (lgc_z.mpr z) (fin _)
  · exact T_q (fun y => z (lgc_z.mp y)) (T_n z (T_nm (hrec _ _ _ _ _ _ ⟨rfl, rfl, rfl, by omega, by omega⟩ (by omega))))
theorem xT_real {q : SS} (h : INV q) (a : Int32) : T (f_X8_realsOf q a) (fun _ => True) := T_of (x_realsOf (PK_Y (INV_RY h)).2.1 (PK_Y (INV_RY h)).2.2 a) trivial
theorem xo_later {q : SS} (h : INV q) (a b c : Int32) : T (f_X11_later q a b c) (fun r => INV r.2) := by
  unfold f_X11_later
  refine T_rw (x_isShelf q a) (T_i (fun _ => T_some.mpr h) (fun _ => T_i (fun _ => T_some.mpr h) (fun _ => T_i (fun _ => T_some.mpr h) (fun _ => T_rw (x_isTicket q c) (T_i (fun _ => T_some.mpr h) (fun _ => T_rw (x_refBytes q a) (T_i (fun _ => ?_) (fun _ => T_some.mpr h))))))))
  exact T_b (xT_begin h a) (fun r hr => T_b (xT_well hr b) (fun s hs => T_b (xT_hold hs c) (fun v _ => T_some.mpr hs)))
theorem xo_eve {q : SS} (h : INV q) (a b c : Int32) : T (f_X11_eve q a b c) (fun r => INV r.2) := by
  have fin : T (b_X11_eve_45 q a b c) (fun r => INV r.2) := by
    unfold b_X11_eve_45
    refine T_rw (x_refBytes q a) (T_i (fun _ => ?_) (fun _ => T_some.mpr h))
    exact T_b (xT_begin h a) (fun r hr => T_b (xT_well hr b) (fun s hs => T_i (fun _ => T_rw rfl (T_some.mpr hs)) (fun _ => T_i (fun _ => T_rw rfl (T_some.mpr hs)) (fun _ => T_b (xT_real hs c) (fun v _ => T_some.mpr hs)))))
  unfold f_X11_eve
  exact T_rw (x_isShelf q a) (T_i (fun _ => T_some.mpr h) (fun _ => T_i (fun _ => T_some.mpr h) (fun _ => T_i (fun _ => T_some.mpr h) (fun _ => T_i (fun _ => fin) (fun _ => T_i (fun _ => fin) (fun _ => T_rw (x_isPerson q c) (T_i (fun _ => T_some.mpr h) (fun _ => fin))))))))
theorem xo_likely {q : SS} (h : INV q) (a b c : Int32) : T (f_X11_likely q a b c) (fun r => INV r.2) := by
  unfold f_X11_likely
  refine T_rw (x_refBytes q a) (T_i (fun _ => T_i (fun _ => T_some.mpr h) (fun _ => T_i (fun _ => T_some.mpr h) (fun _ => T_rw (isPart_x q c) (T_i (fun _ => T_some.mpr h) (fun _ => ?_))))) (fun _ => T_some.mpr h))
  exact T_b (xT_begin h a) (fun r hr => T_b (xT_set hr b) (fun s hs => T_rw rfl (T_rw rfl (T_b (xT_part s _ _ c) (fun v _ => T_some.mpr hs)))))
theorem xo_all {q : SS} (h : INV q) (a b : Int32) : T (f_X11_all q a b) (fun r => INV r.2) := by
  unfold f_X11_all
  refine T_rw (x_refBytes q a) (T_i (fun _ => T_rw (isPart_x q b) (T_i (fun _ => T_some.mpr h) (fun _ => ?_))) (fun _ => T_some.mpr h))
  exact T_b (xT_begin h a) (fun r hr => T_b (xT_all hr) (fun s hs => T_rw rfl (T_rw rfl (T_b (xT_part s _ _ b) (fun v _ => T_some.mpr hs)))))

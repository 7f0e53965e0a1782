/-! ===== the class's odds: it answers, and writes no more than its stack ===== -/
theorem x_pop (q : SS) : T (f_X4_pop q) (fun r => Fr wE v0 q r.2) := by
  have l121 : (121 : Int32).toInt = 121 := rfl
  have l0 : (0 : Int32).toInt = 0 := rfl
  unfold f_X4_pop
  refine T_le (fun _ => T_some.mpr (Fr_refl q)) (fun g => T_le (fun g2 => T_nm ?_) (fun _ => T_some.mpr (Fr_refl q)))
  have e := dec1 (a := q.1 12 5) (by omega)
  exact T_vp (by rw [rds]; omega) (by rw [rds]; show (q.1 12 5 - 1).toInt < 121; omega) (T_some.mpr (Fr_sI (Fr_refl q) rfl))
theorem x_push (q : SS) (a : Int32) : T (f_X4_push q a) (fun r => Fr wE v0 q r) := by
  have l121 : (121 : Int32).toInt = 121 := rfl
  have l0 : (0 : Int32).toInt = 0 := rfl
  unfold f_X4_push
  refine T_lt (fun _ => T_some.mpr (Fr_refl q)) (fun g => T_le (fun _ => T_some.mpr (Fr_refl q)) (fun g2 => T_vp (by omega) (by show (q.1 12 5).toInt < 121; omega) (T_nm (T_nm (T_some.mpr (Fr_sI (Fr_sI (Fr_refl q) rfl) rfl))))))
theorem x_join (q : SS) (a b c : Int32) : T (f_X4_join q a b c) (fun _ => True) := by
  unfold f_X4_join b_X4_join_100
  refine T_sw (fun _ => ?_) (fun _ => ?_)
  · by_cases z : c = 0
    · exact T_p z (T_some.mpr trivial)
    · exact T_q z (T_n z (T_some.mpr trivial))
  refine T_sw (fun _ => T_i (fun _ => T_some.mpr trivial) (fun _ => T_i (fun _ => T_some.mpr trivial) (fun _ => T_some.mpr trivial))) (fun _ => ?_)
  refine T_sw (fun _ => T_some.mpr trivial) (fun _ => ?_)
  refine T_sw (fun _ => T_some.mpr trivial) (fun _ => ?_)
  refine T_sw (fun _ => T_some.mpr trivial) (fun _ => ?_)
  refine T_sw (fun _ => ?_) (fun _ => ?_)
  · by_cases z : c = 0
    · exact T_p z (T_some.mpr trivial)
    · exact T_q z (T_n z (T_some.mpr trivial))
  refine T_sw (fun _ => T_i (fun _ => T_some.mpr trivial) (fun _ => T_some.mpr trivial)) (fun _ => ?_)
  refine T_sw (fun _ => T_i (fun _ => T_some.mpr trivial) (fun _ => T_some.mpr trivial)) (fun _ => ?_)
  refine T_sw (fun _ => T_i (fun _ => T_some.mpr trivial) (fun _ => T_some.mpr trivial)) (fun _ => ?_)
  refine T_sw (fun _ => T_i (fun _ => T_i (fun _ => T_some.mpr trivial) (fun _ => T_some.mpr trivial)) (fun _ => T_some.mpr trivial)) (fun _ => ?_)
  exact T_sw0 (T_some.mpr trivial)
theorem x_doStep (q : SS) (a b : Int32) : T (f_X4_doStep q a b) (fun r => Fr wE v0 q r) := by
  unfold f_X4_doStep b_X4_doStep_43 b_X4_doStep_44 b_X4_doStep_87
  refine T_i (fun _ => T_b (x_push q b) (fun r hr => T_some.mpr hr)) (fun _ => T_i (fun _ => ?_) (fun _ => T_i (fun _ => ?_) (fun _ => T_i (fun _ => ?_) (fun _ => ?_))))
  · refine T_lt (fun _ => T_b (x_push q 0) (fun r hr => T_some.mpr hr)) (fun g => T_le (fun _ => T_b (x_push q 0) (fun r hr => T_some.mpr hr)) (fun g2 => T_vp g (by show b.toInt < (6 : Int32).toInt; exact g2) (T_b (x_push q _) (fun r hr => T_some.mpr hr))))
  · exact T_b (x_pop q) (fun r hr => T_b (x_push r.2 _) (fun s hs => T_some.mpr (Fr_tr hr hs)))
  · exact T_b (x_pop q) (fun r hr => T_i (fun _ => T_b (x_push r.2 _) (fun s hs => T_some.mpr (Fr_tr hr hs))) (fun _ => T_b (x_push r.2 _) (fun s hs => T_some.mpr (Fr_tr hr hs))))
  · exact T_b (x_pop q) (fun r hr => T_b (x_pop r.2) (fun s hs => T_b (x_join s.2 a s.1 r.1) (fun v _ => T_b (x_push s.2 v) (fun u hu => T_some.mpr (Fr_tr (Fr_tr hr hs) hu)))))
theorem x_workOut (q : SS) (a1 a2 a3 a4 a5 a6 : Int32) : T (f_X4_workOut q a1 a2 a3 a4 a5 a6) (fun r => Fr wE v0 q r.2) := by
  unfold f_X4_workOut
  refine T_vp (by decide) (by decide) (T_nm (T_vp (by decide) (by decide) (T_nm (T_vp (by decide) (by decide) (T_nm (T_vp (by decide) (by decide) (T_nm (T_vp (by decide) (by decide) (T_nm (T_vp (by decide) (by decide) (T_nm (T_nm ?_))))))))))))
  unfold b_X4_workOut_56
  have l121 : (121 : Int32).toInt = 121 := rfl
  refine T_fx3 (fun z _ l8 => Fr wE v0 q z ∧ 0 ≤ l8.toInt ∧ l8.toInt ≤ 121) (fun _ _ l8 => (121 - l8.toInt).toNat) ?_ _ _ _ _ ⟨Fr_sI (Fr_sI (Fr_sI (Fr_sI (Fr_sI (Fr_sI (Fr_sI (Fr_refl q) rfl) rfl) rfl) rfl) rfl) rfl) rfl, by decide, by decide⟩ (by unfold FU; decide)
  rintro rec z l7 l8 ⟨hf, g0, g1⟩ hr
  refine T_le (fun _ => T_some.mpr hf) (fun _ => T_le (fun _ => T_some.mpr hf) (fun g => T_vp g0 (by show l8.toInt < 121; omega) (T_nm ?_)))
  have e1 := inc1 (a := l8) (by omega) (by omega)
  have go : ∀ (y : SS) (v : Int32), Fr wE v0 z y → T (rec y v (l8 + 1)) (fun r => Fr wE v0 q r.2) := fun y v hy => hr _ _ _ ⟨Fr_tr hf hy, by omega, by omega⟩ (by omega)
  unfold b_X4_workOut_100 b_X4_workOut_145
  refine T_i (fun _ => T_b (x_pop z) (fun r hy => T_i (fun _ => go _ _ hy) (fun _ => go _ _ hy))) (fun _ => T_i (fun _ => T_b (x_pop z) (fun r hy => T_i (fun _ => go _ _ hy) (fun _ => T_some.mpr (Fr_tr hf hy)))) (fun _ => T_vp g0 (by show l8.toInt < 121; omega) (T_b (x_doStep z _ _) (fun r hy => go _ _ hy))))
theorem clamp12 (v : Int32) : 0 ≤ (jmax (0 : Int32) (jmin (12 : Int32) v)).toInt ∧ (jmax (0 : Int32) (jmin (12 : Int32) v)).toInt ≤ 12 := by
  have l0 : (0 : Int32).toInt = 0 := rfl
  have l12 : (12 : Int32).toInt = 12 := rfl
  unfold jmax jmin
  simp only [Int32.lt_iff_toInt_lt]
  split <;> split <;> omega
/-- P and K as they may be -/
def PK (q : SS) : Prop := (0 ≤ (q.1 1 1).toInt ∧ (q.1 1 1).toInt ≤ 6) ∧ 0 ≤ (q.1 1 2).toInt ∧ (q.1 1 2).toInt ≤ 12
theorem PK_Y {q : SS} (h : RY q) : PK q := by
  unfold PK
  rw [RY_p h, RY_k h]
  exact ⟨⟨RY_p0 h, RY_p6 h⟩, RY_k0 h, RY_k12 h⟩
theorem PK_E {q r : SS} (f : Fr wE v0 q r) (h : PK q) : PK r := by
  unfold PK at *
  rw [f.1 1 1 rfl, f.1 1 2 rfl]
  exact h
theorem PK_X {q r : SS} (f : Fr wX vX q r) (h : PK q) : PK r := by
  unfold PK at *
  rw [f.1 1 1 rfl, f.1 1 2 rfl]
  exact h
theorem z012 : 0 ≤ (0 : Int32).toInt ∧ (0 : Int32).toInt ≤ 12 := by decide
theorem x_oddsBy {q : SS} (h : PK q) (a1 a2 a3 a4 a5 : Int32) : T (f_X8_oddsBy q a1 a2 a3 a4 a5) (fun r => Fr wE v0 q r.2 ∧ 0 ≤ r.1.toInt ∧ r.1.toInt ≤ 12) := by
  unfold f_X8_oddsBy b_X8_oddsBy_87
  refine T_rw (x_canGive h.1.2 a1 a2) (T_i (fun _ => T_some.mpr ⟨Fr_refl q, z012⟩) (fun _ => T_i (fun _ => ?_) (fun _ => T_some.mpr ⟨Fr_refl q, z012⟩)))
  refine T_rw (x_get0 h.1.2 a2) (T_rw (x_get80 q) (T_nm ?_))
  have it : T (f_X4_isTold q) (fun _ => True) := by
    unfold f_X4_isTold
    exact T_i (fun _ => T_some.mpr trivial) (fun _ => T_some.mpr trivial)
  refine T_b it (fun r5 _ => T_i (fun _ => T_some.mpr ⟨Fr_refl q, clamp12 _⟩) (fun _ => T_rw (x_get0 h.1.2 a1) (T_b (x_workOut q _ _ _ _ _ _) (fun r hr => T_some.mpr ⟨hr, clamp12 _⟩))))
theorem x_oddsOf {q : SS} (h : PK q) (a b : Int32) : T (f_X8_oddsOf q a b) (fun r => Fr wE v0 q r.2 ∧ 0 ≤ r.1.toInt ∧ r.1.toInt ≤ 12) := by
  unfold f_X8_oddsOf
  refine T_rw (x_canSlip h.1.2 h.2.2 a b) (T_i (fun _ => T_some.mpr ⟨Fr_refl q, z012⟩) (fun _ => T_rw (x_holderOf h.2.2 a) (T_rw (x_heldBy h.2.1 h.2.2 b) (T_rw (x_get6 h.2.2 a) (T_rw (x_hourNow q) (T_b (x_oddsBy h _ _ _ _ _) (fun r hr => T_some.mpr hr)))))))
/-! the class's queries by odds: odds, watch, drawn -/
theorem FrX_now {q r : SS} (n : NWX q r) : Fr wX vX q r := ⟨fun k i e => by
    have : k ≠ 25 := by
      rintro rfl
      exact absurd e (by unfold wX wE; simp)
    rw [n.2.1 k this], fun k _ => by rw [n.1]⟩
theorem xo_odds {q : SS} (h : INV q) (a : Int32) : T (f_X11_odds q a) (fun r => INV r.2) := by
  have hY := INV_RY h
  unfold f_X11_odds
  refine T_rw (x_isSlipping q a) (T_i (fun _ => T_some.mpr h) (fun _ => T_b (x_now hY) (fun r hr => ?_)))
  have hI := NWX_I h hr
  exact T_b (x_oddsOf (PK_Y (INV_RY hI)) _ _) (fun s hs => T_some.mpr (INV_wE hs.1 hI))
theorem xo_watch {q : SS} (h : INV q) (a : Int32) : T (f_X11_watch q a) (fun r => INV r.2) := by
  have hY := INV_RY h
  unfold f_X11_watch
  refine T_rw (x_isPerson q a) (T_i (fun _ => T_some.mpr h) (fun _ => T_b (x_now hY) (fun r hr => ?_)))
  have hI := NWX_I h hr
  unfold b_X11_watch_27
  refine T_fx5 (fun z l1 _ _ l5 => INV z ∧ 0 ≤ l5.toInt ∧ l5.toInt ≤ 12) (fun _ _ _ _ l5 => (12 - l5.toInt).toNat) ?_ _ _ _ _ _ _ ⟨hI, by decide, by decide⟩ (by unfold FU; decide)
  rintro rec z l1 l3 l4 l5 ⟨hz, g0, g1⟩ hrec
  have pk := PK_Y (INV_RY hz)
  refine T_rw rfl (T_le (fun _ => T_i (fun _ => T_some.mpr hz) (fun _ => T_some.mpr hz)) (fun g => ?_))
  have g' : l5.toInt < (z.1 1 2).toInt := g
  have k12 := pk.2.2
  have e1 := inc1 (a := l5) (by omega) (by omega)
  have go : ∀ (y : SS) (u v : Int32), INV y → T (rec y l1 u v (l5 + 1)) (fun r => INV r.2) := fun y u v hy => hrec _ _ _ _ _ ⟨hy, by omega, by omega⟩ (by omega)
  unfold b_X11_watch_85 b_X11_watch_92
  refine T_rw (x_canSlip pk.1.2 pk.2.2 _ _) (T_i (fun _ => go _ _ _ hz) (fun _ => T_b (x_oddsOf pk _ _) (fun s hs => ?_)))
  have hs2 := INV_wE hs.1 hz
  exact T_rw (x_holderOf (PK_Y (INV_RY hs2)).2.2 _) (T_i (fun _ => go _ _ _ hs2) (fun _ => T_i (fun _ => T_i (fun _ => go _ _ _ hs2) (fun _ => go _ _ _ hs2)) (fun _ => go _ _ _ hs2)))

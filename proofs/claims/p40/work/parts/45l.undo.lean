/-! ===== mend, undo, redo ===== -/
def wC (k i : Nat) : Bool := (Nat.ble 52 k && Nat.ble k 56) || (Nat.ble 69 k && Nat.ble k 72) || (k == 60 && (i == 11 || i == 12))
def wY (k _ : Nat) : Bool := (Nat.ble 3 k && Nat.ble k 11) || (Nat.ble 61 k && Nat.ble k 68)
def wD (k i : Nat) : Bool := (Nat.ble 47 k && Nat.ble k 51) || (Nat.ble 83 k && Nat.ble k 86) || (k == 60 && (i == 46 || i == 47 || i == 48))
theorem RY_wC {q q' : SS} (f : Fr wC v0 q q') (h : RY q) : RY q' := RY_fr (Fr_r f fun _ => rfl) (Fr_r f fun _ => rfl) (Fr_r f fun _ => rfl) (Fr_r f fun _ => rfl) (Fr_r f fun _ => rfl) (Fr_r f fun _ => rfl) (Fr_r f fun _ => rfl) (Fr_r f fun _ => rfl) (Fr_r f fun _ => rfl) (Fr_r f fun _ => rfl) (Fr_r f fun _ => rfl) (Fr_r f fun _ => rfl) (Fr_r f fun _ => rfl) (Fr_r f fun _ => rfl) (f.1 _ _ rfl) (f.1 _ _ rfl) (f.1 _ _ rfl) (f.1 _ _ rfl) (f.1 _ _ rfl) (f.1 _ _ rfl) (f.1 _ _ rfl) (f.1 _ _ rfl) h
theorem RD_wC {q q' : SS} (f : Fr wC v0 q q') (h : RD q) : RD q' := RD_fr (Fr_r f fun _ => rfl) (Fr_r f fun _ => rfl) (Fr_r f fun _ => rfl) (Fr_r f fun _ => rfl) (Fr_r f fun _ => rfl) (Fr_r f fun _ => rfl) (Fr_r f fun _ => rfl) (Fr_r f fun _ => rfl) (f.1 _ _ rfl) (f.1 _ _ rfl) (f.1 _ _ rfl) (f.1 _ _ rfl) (f.1 _ _ rfl) (f.1 _ _ rfl) (f.1 _ _ rfl) (f.1 _ _ rfl) h
theorem RT_wC {q q' : SS} (f : Fr wC v0 q q') (h : RT q) : RT q' := RT_fr (Fr_r f fun _ => rfl) (Fr_r f fun _ => rfl) (f.1 _ _ rfl) (f.1 _ _ rfl) h
theorem RH_wC {q q' : SS} (f : Fr wC v0 q q') (h : RH q) : RH q' := RH_fr (Fr_r f fun _ => rfl) (Fr_r f fun _ => rfl) (Fr_r f fun _ => rfl) (Fr_r f fun _ => rfl) (f.1 _ _ rfl) (f.1 _ _ rfl) (f.1 _ _ rfl) (f.1 _ _ rfl) h
theorem RS_wC {q q' : SS} (f : Fr wC v0 q q') (h : RS q) : RS q' := RS_fr (Fr_r f fun _ => rfl) (Fr_r f fun _ => rfl) (Fr_r f fun _ => rfl) (Fr_r f fun _ => rfl) (Fr_r f fun _ => rfl) (f.1 _ _ rfl) (f.2 _ rfl) (fun s _ => f.2 _ rfl) h
theorem RW_wC {q q' : SS} (f : Fr wC v0 q q') (h : RW q) : RW q' := RW_fr (Fr_r f fun _ => rfl) (Fr_r f fun _ => rfl) (Fr_r f fun _ => rfl) (Fr_r f fun _ => rfl) (f.1 _ _ rfl) (f.1 _ _ rfl) h
theorem RJ_wC {q q' : SS} (f : Fr wC v0 q q') (h : RJ q) : RJ q' := RJ_fr (Fr_r f fun _ => rfl) (f.1 _ _ rfl) h
theorem RC_wY {q q' : SS} (f : Fr wY v0 q q') (h : RC q) : RC q' := RC_fr (Fr_r f fun _ => rfl) (Fr_r f fun _ => rfl) (Fr_r f fun _ => rfl) (Fr_r f fun _ => rfl) (Fr_r f fun _ => rfl) (Fr_r f fun _ => rfl) (Fr_r f fun _ => rfl) (Fr_r f fun _ => rfl) (f.1 _ _ rfl) (f.1 _ _ rfl) (f.1 _ _ rfl) (f.1 _ _ rfl) (f.1 _ _ rfl) (f.1 _ _ rfl) h
theorem RD_wY {q q' : SS} (f : Fr wY v0 q q') (h : RD q) : RD q' := RD_fr (Fr_r f fun _ => rfl) (Fr_r f fun _ => rfl) (Fr_r f fun _ => rfl) (Fr_r f fun _ => rfl) (Fr_r f fun _ => rfl) (Fr_r f fun _ => rfl) (Fr_r f fun _ => rfl) (Fr_r f fun _ => rfl) (f.1 _ _ rfl) (f.1 _ _ rfl) (f.1 _ _ rfl) (f.1 _ _ rfl) (f.1 _ _ rfl) (f.1 _ _ rfl) (f.1 _ _ rfl) (f.1 _ _ rfl) h
theorem RT_wY {q q' : SS} (f : Fr wY v0 q q') (h : RT q) : RT q' := RT_fr (Fr_r f fun _ => rfl) (Fr_r f fun _ => rfl) (f.1 _ _ rfl) (f.1 _ _ rfl) h
theorem RH_wY {q q' : SS} (f : Fr wY v0 q q') (h : RH q) : RH q' := RH_fr (Fr_r f fun _ => rfl) (Fr_r f fun _ => rfl) (Fr_r f fun _ => rfl) (Fr_r f fun _ => rfl) (f.1 _ _ rfl) (f.1 _ _ rfl) (f.1 _ _ rfl) (f.1 _ _ rfl) h
theorem RS_wY {q q' : SS} (f : Fr wY v0 q q') (h : RS q) : RS q' := RS_fr (Fr_r f fun _ => rfl) (Fr_r f fun _ => rfl) (Fr_r f fun _ => rfl) (Fr_r f fun _ => rfl) (Fr_r f fun _ => rfl) (f.1 _ _ rfl) (f.2 _ rfl) (fun s _ => f.2 _ rfl) h
theorem RW_wY {q q' : SS} (f : Fr wY v0 q q') (h : RW q) : RW q' := RW_fr (Fr_r f fun _ => rfl) (Fr_r f fun _ => rfl) (Fr_r f fun _ => rfl) (Fr_r f fun _ => rfl) (f.1 _ _ rfl) (f.1 _ _ rfl) h
theorem RJ_wY {q q' : SS} (f : Fr wY v0 q q') (h : RJ q) : RJ q' := RJ_fr (Fr_r f fun _ => rfl) (f.1 _ _ rfl) h
theorem RY_wD {q q' : SS} (f : Fr wD v0 q q') (h : RY q) : RY q' := RY_fr (Fr_r f fun _ => rfl) (Fr_r f fun _ => rfl) (Fr_r f fun _ => rfl) (Fr_r f fun _ => rfl) (Fr_r f fun _ => rfl) (Fr_r f fun _ => rfl) (Fr_r f fun _ => rfl) (Fr_r f fun _ => rfl) (Fr_r f fun _ => rfl) (Fr_r f fun _ => rfl) (Fr_r f fun _ => rfl) (Fr_r f fun _ => rfl) (Fr_r f fun _ => rfl) (Fr_r f fun _ => rfl) (f.1 _ _ rfl) (f.1 _ _ rfl) (f.1 _ _ rfl) (f.1 _ _ rfl) (f.1 _ _ rfl) (f.1 _ _ rfl) (f.1 _ _ rfl) (f.1 _ _ rfl) h
theorem RC_wD {q q' : SS} (f : Fr wD v0 q q') (h : RC q) : RC q' := RC_fr (Fr_r f fun _ => rfl) (Fr_r f fun _ => rfl) (Fr_r f fun _ => rfl) (Fr_r f fun _ => rfl) (Fr_r f fun _ => rfl) (Fr_r f fun _ => rfl) (Fr_r f fun _ => rfl) (Fr_r f fun _ => rfl) (f.1 _ _ rfl) (f.1 _ _ rfl) (f.1 _ _ rfl) (f.1 _ _ rfl) (f.1 _ _ rfl) (f.1 _ _ rfl) h
theorem RT_wD {q q' : SS} (f : Fr wD v0 q q') (h : RT q) : RT q' := RT_fr (Fr_r f fun _ => rfl) (Fr_r f fun _ => rfl) (f.1 _ _ rfl) (f.1 _ _ rfl) h
theorem RH_wD {q q' : SS} (f : Fr wD v0 q q') (h : RH q) : RH q' := RH_fr (Fr_r f fun _ => rfl) (Fr_r f fun _ => rfl) (Fr_r f fun _ => rfl) (Fr_r f fun _ => rfl) (f.1 _ _ rfl) (f.1 _ _ rfl) (f.1 _ _ rfl) (f.1 _ _ rfl) h
theorem RS_wD {q q' : SS} (f : Fr wD v0 q q') (h : RS q) : RS q' := RS_fr (Fr_r f fun _ => rfl) (Fr_r f fun _ => rfl) (Fr_r f fun _ => rfl) (Fr_r f fun _ => rfl) (Fr_r f fun _ => rfl) (f.1 _ _ rfl) (f.2 _ rfl) (fun s _ => f.2 _ rfl) h
theorem RW_wD {q q' : SS} (f : Fr wD v0 q q') (h : RW q) : RW q' := RW_fr (Fr_r f fun _ => rfl) (Fr_r f fun _ => rfl) (Fr_r f fun _ => rfl) (Fr_r f fun _ => rfl) (f.1 _ _ rfl) (f.1 _ _ rfl) h
theorem RJ_wD {q q' : SS} (f : Fr wD v0 q q') (h : RJ q) : RJ q' := RJ_fr (Fr_r f fun _ => rfl) (f.1 _ _ rfl) h
theorem wC_r {k i : Nat} (h : (52 ≤ k ∧ k ≤ 56) ∨ (69 ≤ k ∧ k ≤ 72)) : wC k i = true := by
  unfold wC
  rcases h with ⟨h1, h2⟩ | ⟨h1, h2⟩
  · rw [Nat.ble_eq_true_of_le h1, Nat.ble_eq_true_of_le h2]; rfl
  · rw [Nat.ble_eq_true_of_le h1, Nat.ble_eq_true_of_le h2]; simp
theorem wY_r {k i : Nat} (h : (3 ≤ k ∧ k ≤ 11) ∨ (61 ≤ k ∧ k ≤ 68)) : wY k i = true := by
  unfold wY
  rcases h with ⟨h1, h2⟩ | ⟨h1, h2⟩
  · rw [Nat.ble_eq_true_of_le h1, Nat.ble_eq_true_of_le h2]; rfl
  · rw [Nat.ble_eq_true_of_le h1, Nat.ble_eq_true_of_le h2]; simp
theorem Fr_sR {w : Nat → Nat → Bool} {v : Nat → Bool} {a b : SS} {k : Nat} {g : Nat → Int32} (h : Fr w v a b) (hw : ∀ i, w k i = true) : Fr w v a (sR b k g) := by
  refine ⟨fun k2 i2 e => ?_, h.2⟩
  rw [sR_rd, if_neg]
  · exact h.1 k2 i2 e
  · rintro rfl
    rw [hw] at e
    cases e
theorem Fr_LAY2 {w : Nat → Nat → Bool} {v : Nat → Bool} {a b : SS} {u n x : Int32} (h : Fr w v a b) : Fr w v (LAY a u n x) (LAY b u n x) := by
  unfold LAY
  split
  · exact Fr_sI2 h
  · split
    · exact Fr_sI2 h
    · exact Fr_sI2 h
theorem Fr_base {q : SS} {w n v : Int32} (h0 : 0 ≤ w.toInt) (h8 : w.toInt ≤ 8) : Fr wY v0 q (LAY (sI q (3 + w.toNatClampNeg) n.toNatClampNeg v) w n v) := by
  have c := cnI h0
  have f1 : Fr wY v0 q (sI q (3 + w.toNatClampNeg) n.toNatClampNeg v) := Fr_sI (Fr_refl q) (wY_r (by omega))
  unfold LAY
  split
  · exact Fr_sI f1 (wY_r (by omega))
  · split
    · exact Fr_sI f1 (wY_r (by omega))
    · exact Fr_sI f1 (wY_r (by omega))
/-- all but the changes' own group -/
theorem INV_set {q s : SS} (h : INV q) {w n v : Int32} (hn : okN (q.1 60 1).toInt (q.1 60 6).toInt w.toInt n.toInt) (hv : okV (q.1 60 1).toInt w.toInt v.toInt) (f : Fr wC v0 (LAY (sI q (3 + w.toNatClampNeg) n.toNatClampNeg v) w n v) s) (hC : RC s) : INV s := by
  have b := Fr_base (q := q) (w := w) (n := n) (v := v) (by omega) (by omega)
  exact ⟨RY_wC f (RY_set (INV_RY h) hn hv), hC, RD_wC f (RD_wY b (INV_RD h)), RT_wC f (RT_wY b (INV_RT h)), RH_wC f (RH_wY b (INV_RH h)), RS_wC f (RS_wY b (INV_RS h)), RW_wC f (RW_wY b (INV_RW h)), RJ_wC f (RJ_wY b (INV_RJ h))⟩
/-- the changes' group behind undo and redo: told rows stay -/
theorem RC_ud {q s : SS} (h : RC q) (r : ∀ k, (53 ≤ k ∧ k ≤ 56) ∨ (69 ≤ k ∧ k ≤ 72) → s.1 k = q.1 k) (p1 : s.1 60 1 = q.1 60 1) (p6 : s.1 60 6 = q.1 60 6) (e1 : s.1 52 5 = s.1 60 11) (e2 : s.1 52 6 = s.1 60 12) (d0 : 0 ≤ (s.1 60 11).toInt) (u0 : 0 ≤ (s.1 60 12).toInt) (du : (s.1 60 11).toInt + (s.1 60 12).toInt = (q.1 60 11).toInt + (q.1 60 12).toInt) : RC s := by
  obtain ⟨h1, h2, h3, h4, h5, h6, h7, h8, h9, h10⟩ := h
  unfold RC
  rw [r 53 (by decide), r 54 (by decide), r 55 (by decide), r 56 (by decide), r 69 (by decide), r 70 (by decide), r 71 (by decide), r 72 (by decide), p1, p6, du]
  exact ⟨e1, e2, d0, u0, by omega, h6, h7, h8, h9, h10⟩
theorem LAY_r {a : SS} {u n x : Int32} {k : Nat} (h0 : 0 ≤ u.toInt) (h8 : u.toInt ≤ 8) (hk : k < 61 ∨ 68 < k) : (LAY a u n x).1 k = a.1 k := by
  have c := cnI h0
  unfold LAY
  split
  · exact sI_ro (by omega)
  · split
    · exact sI_ro (by omega)
    · exact sI_ro (by omega)
theorem op_undo {q : SS} (h : INV q) : T (f_X11_undo q) (fun r => T (f_X12_undo r.2) (fun s => INV s.2 ∧ r.1 = s.1)) := by
  have hC := INV_RC h
  have hY := INV_RY h
  have ed := RC_done hC
  have eu := RC_undone hC
  have d0 := RC_d0 hC
  have u0 := RC_u0 hC
  have du := RC_du hC
  unfold f_X11_undo f_X0_done f_X0_undoLatest
  refine T_rw rfl ?_
  rw [ed]
  refine T_eq (fun g => T_some.mpr ?_) (fun g => ?_)
  · unfold f_X12_undo
    exact T_p g (T_some.mpr ⟨h, rfl⟩)
  · have l0 : (0 : Int32).toInt = 0 := rfl
    have g1 : 0 < (q.1 60 11).toInt := by omega
    have e1 : (q.1 60 11 - 1).toInt = (q.1 60 11).toInt - 1 := dec1 d0
    have e2 : (q.1 60 12 + 1).toInt = (q.1 60 12).toInt + 1 := inc1 (by omega) (by omega)
    have ok := RC_ok hC (q.1 60 11 - 1).toNatClampNeg (by rw [cnI (by omega)]; omega)
    generalize hD : q.1 60 11 - 1 = D at *
    have w1 : q.1 53 D.toNatClampNeg = q.1 69 D.toNatClampNeg := congrFun (RC_what hC) _
    have w2 : q.1 54 D.toNatClampNeg = q.1 70 D.toNatClampNeg := congrFun (RC_num hC) _
    have w3 : q.1 55 D.toNatClampNeg = q.1 71 D.toNatClampNeg := congrFun (RC_bef hC) _
    generalize hw : q.1 69 D.toNatClampNeg = w at *
    generalize hn : q.1 70 D.toNatClampNeg = n at *
    generalize hv : q.1 71 D.toNatClampNeg = v at *
    have vD : ∀ {m : Nat}, 40 ≤ m → D.toInt < (m : Int) := fun hm => by omega
    have st : f_X10_set (sI (sI q 52 5 D) 52 6 (q.1 60 12 + 1)) w n v = some (sI (sI (sI q 52 5 D) 52 6 (q.1 60 12 + 1)) (3 + w.toNatClampNeg) n.toNatClampNeg v) := by
      rw [x_set (q := sI (sI q 52 5 D) 52 6 (q.1 60 12 + 1)) (by show (q.1 1 1).toInt ≤ 6; rw [RY_p hY]; exact RY_p6 hY) (by show (q.1 1 2).toInt ≤ 12; rw [RY_k hY]; exact RY_k12 hY) w n v]
      rw [if_pos]
      show okN (q.1 1 1).toInt (q.1 1 2).toInt w.toInt n.toInt
      rw [RY_p hY, RY_k hY]
      exact ok.1
    have c0 : 0 ≤ w.toInt ∧ w.toInt ≤ 8 := by have := ok.1; omega
    have cw := cnI c0.1
    refine T_b (P := _) (T_len g1 (T_nm (T_nm ?_))) (Q := fun r => r = sI (sI (sI q 52 5 D) 52 6 (q.1 60 12 + 1)) (3 + w.toNatClampNeg) n.toNatClampNeg v) (fun r hr => ?_)
    · show T (if vin D 40 then if vin D 40 then if vin D 40 then (f_X10_set (sI (sI q 52 5 D) 52 6 (q.1 52 6 + 1)) (q.1 53 D.toNatClampNeg) (q.1 54 D.toNatClampNeg) (q.1 55 D.toNatClampNeg)).bind fun r3 => some r3 else none else none else none) _
      rw [w1, w2, w3, eu]
      exact T_vp (by omega) (vD (by decide)) (T_vp (by omega) (vD (by decide)) (T_vp (by omega) (vD (by decide)) (T_rw st (T_some.mpr rfl))))
    · subst hr
      refine T_rw rfl (T_some.mpr ?_)
      have q60 : (sI (sI (sI q 52 5 D) 52 6 (q.1 60 12 + 1)) (3 + w.toNatClampNeg) n.toNatClampNeg v).1 60 = q.1 60 := by rw [sI_ro (by omega), sI_ro (by decide), sI_ro (by decide)]
      have qk : ∀ k, 60 < k → (sI (sI (sI q 52 5 D) 52 6 (q.1 60 12 + 1)) (3 + w.toNatClampNeg) n.toNatClampNeg v).1 k = q.1 k := fun k hk => by rw [sI_ro (by omega), sI_ro (by omega), sI_ro (by omega)]
      have q5 : (sI (sI (sI q 52 5 D) 52 6 (q.1 60 12 + 1)) (3 + w.toNatClampNeg) n.toNatClampNeg v).1 52 5 = D := by rw [sI_ro (by omega)]; rfl
      have q6 : (sI (sI (sI q 52 5 D) 52 6 (q.1 60 12 + 1)) (3 + w.toNatClampNeg) n.toNatClampNeg v).1 52 6 = q.1 60 12 + 1 := by rw [sI_ro (by omega)]; rfl
      rw [q5]
      have fB : Fr wC v0 (sI q (3 + w.toNatClampNeg) n.toNatClampNeg v) (sI (sI (sI q 52 5 D) 52 6 (q.1 60 12 + 1)) (3 + w.toNatClampNeg) n.toNatClampNeg v) := Fr_sI2 (Fr_sI (Fr_sI (Fr_refl q) rfl) rfl)
      generalize hz : sI (sI (sI q 52 5 D) 52 6 (q.1 60 12 + 1)) (3 + w.toNatClampNeg) n.toNatClampNeg v = z at *
      unfold f_X12_undo
      rw [q60]
      refine T_q (by intro k; exact g (by rw [k])) (T_nm (T_nm ?_))
      show T (if vin ((sI (sI z 60 11 (q.1 60 11 - 1)) 60 12 (z.1 60 12 + 1)).1 60 11) 40 then if vin ((sI (sI z 60 11 (q.1 60 11 - 1)) 60 12 (z.1 60 12 + 1)).1 60 11) 40 then if vin ((sI (sI z 60 11 (q.1 60 11 - 1)) 60 12 (z.1 60 12 + 1)).1 60 11) 40 then (f_X12_lays (sI (sI z 60 11 (q.1 60 11 - 1)) 60 12 (z.1 60 12 + 1)) ((sI (sI z 60 11 (q.1 60 11 - 1)) 60 12 (z.1 60 12 + 1)).1 69 ((sI (sI z 60 11 (q.1 60 11 - 1)) 60 12 (z.1 60 12 + 1)).1 60 11).toNatClampNeg) ((sI (sI z 60 11 (q.1 60 11 - 1)) 60 12 (z.1 60 12 + 1)).1 70 ((sI (sI z 60 11 (q.1 60 11 - 1)) 60 12 (z.1 60 12 + 1)).1 60 11).toNatClampNeg) ((sI (sI z 60 11 (q.1 60 11 - 1)) 60 12 (z.1 60 12 + 1)).1 71 ((sI (sI z 60 11 (q.1 60 11 - 1)) 60 12 (z.1 60 12 + 1)).1 60 11).toNatClampNeg)).bind fun r3 => some ((r3.1 60 11), r3) else none else none else none) _
      rw [q60, hD]
      have y11 : (sI (sI z 60 11 D) 60 12 (q.1 60 12 + 1)).1 60 11 = D := rfl
      have y69 : ∀ k, 60 < k → (sI (sI z 60 11 D) 60 12 (q.1 60 12 + 1)).1 k = q.1 k := fun k hk => by rw [sI_ro (by omega), sI_ro (by omega), qk k hk]
      rw [y11, y69 69 (by decide), y69 70 (by decide), y69 71 (by decide), hw, hn, hv]
      refine T_vp (by omega) (vD (by decide)) (T_vp (by omega) (vD (by decide)) (T_vp (by omega) (vD (by decide)) (T_rw (m_lays (RY_p6 hY) (RY_k12 hY) v ok.1) (T_some.mpr ⟨?_, ?_⟩))))
      · refine INV_set h ok.1 ok.2.1 (Fr_LAY2 (Fr_sI (Fr_sI fB rfl) rfl)) (RC_ud hC (fun k hk => ?_) ?_ ?_ ?_ ?_ ?_ ?_ ?_)
        · rw [LAY_r c0.1 c0.2 (by omega), sI_ro (by omega), sI_ro (by omega), ← hz, sI_ro (by omega), sI_ro (by omega), sI_ro (by omega)]
        · rw [LAY_r c0.1 c0.2 (by omega)]
          show z.1 60 1 = _
          rw [q60]
        · rw [LAY_r c0.1 c0.2 (by omega)]
          show z.1 60 6 = _
          rw [q60]
        · rw [LAY_r c0.1 c0.2 (by omega), LAY_r c0.1 c0.2 (by omega)]
          show z.1 52 5 = D
          exact q5
        · rw [LAY_r c0.1 c0.2 (by omega), LAY_r c0.1 c0.2 (by omega)]
          show z.1 52 6 = q.1 60 12 + 1
          exact q6
        · rw [LAY_r c0.1 c0.2 (by omega)]
          show 0 ≤ D.toInt
          omega
        · rw [LAY_r c0.1 c0.2 (by omega)]
          show 0 ≤ (q.1 60 12 + 1).toInt
          omega
        · rw [LAY_r c0.1 c0.2 (by omega)]
          show D.toInt + (q.1 60 12 + 1).toInt = _
          omega
      · rw [LAY_r c0.1 c0.2 (by omega)]
        rfl
theorem op_redo {q : SS} (h : INV q) : T (f_X11_redo q) (fun r => T (f_X12_redo r.2) (fun s => INV s.2 ∧ r.1 = s.1)) := by
  have hC := INV_RC h
  have hY := INV_RY h
  have ed := RC_done hC
  have eu := RC_undone hC
  have d0 := RC_d0 hC
  have u0 := RC_u0 hC
  have du := RC_du hC
  unfold f_X11_redo f_X0_undone f_X0_redoNext
  refine T_rw rfl ?_
  rw [eu]
  refine T_eq (fun g => T_some.mpr ?_) (fun g => ?_)
  · unfold f_X12_redo
    exact T_p g (T_some.mpr ⟨h, rfl⟩)
  · have l0 : (0 : Int32).toInt = 0 := rfl
    have g1 : 0 < (q.1 60 12).toInt := by omega
    have d39 : (q.1 60 11).toInt < 40 := by omega
    have e1 : (q.1 60 12 - 1).toInt = (q.1 60 12).toInt - 1 := dec1 u0
    have e2 : (q.1 60 11 + 1).toInt = (q.1 60 11).toInt + 1 := inc1 (by omega) (by omega)
    have ok := RC_ok hC (q.1 60 11).toNatClampNeg (by rw [cnI (by omega)]; omega)
    have w1 : q.1 53 (q.1 60 11).toNatClampNeg = q.1 69 (q.1 60 11).toNatClampNeg := congrFun (RC_what hC) _
    have w2 : q.1 54 (q.1 60 11).toNatClampNeg = q.1 70 (q.1 60 11).toNatClampNeg := congrFun (RC_num hC) _
    have w3 : q.1 56 (q.1 60 11).toNatClampNeg = q.1 72 (q.1 60 11).toNatClampNeg := congrFun (RC_aft hC) _
    generalize hw : q.1 69 (q.1 60 11).toNatClampNeg = w at *
    generalize hn : q.1 70 (q.1 60 11).toNatClampNeg = n at *
    generalize hv : q.1 72 (q.1 60 11).toNatClampNeg = v at *
    have vD : ∀ {m : Nat}, 40 ≤ m → (q.1 60 11).toInt < (m : Int) := fun hm => by omega
    have st : f_X10_set q w n v = some (sI q (3 + w.toNatClampNeg) n.toNatClampNeg v) := by
      rw [x_set (by rw [RY_p hY]; exact RY_p6 hY) (by rw [RY_k hY]; exact RY_k12 hY) w n v]
      rw [if_pos]
      rw [RY_p hY, RY_k hY]
      exact ok.1
    have c0 : 0 ≤ w.toInt ∧ w.toInt ≤ 8 := by have := ok.1; omega
    have cw := cnI c0.1
    refine T_b (P := _) (T_len g1 (T_len (by rw [ed]; exact d39) ?_)) (Q := fun r => r = sI (sI (sI q (3 + w.toNatClampNeg) n.toNatClampNeg v) 52 5 (q.1 60 11 + 1)) 52 6 (q.1 60 12 - 1)) (fun r hr => ?_)
    · rw [ed, w1, w2, w3]
      refine T_vp (by omega) (vD (by decide)) (T_vp (by omega) (vD (by decide)) (T_vp (by omega) (vD (by decide)) (T_rw st (T_nm (T_nm (T_some.mpr ?_))))))
      have r5 : (sI q (3 + w.toNatClampNeg) n.toNatClampNeg v).1 52 = q.1 52 := sI_ro (by omega)
      rw [r5, ed, sI_rd, if_neg (by decide), r5, eu]
    · subst hr
      refine T_rw rfl (T_some.mpr ?_)
      have q60 : (sI (sI (sI q (3 + w.toNatClampNeg) n.toNatClampNeg v) 52 5 (q.1 60 11 + 1)) 52 6 (q.1 60 12 - 1)).1 60 = q.1 60 := by rw [sI_ro (by decide), sI_ro (by decide), sI_ro (by omega)]
      have qk : ∀ k, 60 < k → (sI (sI (sI q (3 + w.toNatClampNeg) n.toNatClampNeg v) 52 5 (q.1 60 11 + 1)) 52 6 (q.1 60 12 - 1)).1 k = q.1 k := fun k hk => by rw [sI_ro (by omega), sI_ro (by omega), sI_ro (by omega)]
      have q5 : (sI (sI (sI q (3 + w.toNatClampNeg) n.toNatClampNeg v) 52 5 (q.1 60 11 + 1)) 52 6 (q.1 60 12 - 1)).1 52 5 = q.1 60 11 + 1 := rfl
      have q6 : (sI (sI (sI q (3 + w.toNatClampNeg) n.toNatClampNeg v) 52 5 (q.1 60 11 + 1)) 52 6 (q.1 60 12 - 1)).1 52 6 = q.1 60 12 - 1 := rfl
      have fB : Fr wC v0 (sI q (3 + w.toNatClampNeg) n.toNatClampNeg v) (sI (sI (sI q (3 + w.toNatClampNeg) n.toNatClampNeg v) 52 5 (q.1 60 11 + 1)) 52 6 (q.1 60 12 - 1)) := Fr_sI (Fr_sI (Fr_refl _) rfl) rfl
      rw [q6]
      have q4 : ∀ k, 53 ≤ k ∧ k ≤ 56 → (sI (sI (sI q (3 + w.toNatClampNeg) n.toNatClampNeg v) 52 5 (q.1 60 11 + 1)) 52 6 (q.1 60 12 - 1)).1 k = q.1 k := fun k hk => by rw [sI_ro (by omega), sI_ro (by omega), sI_ro (by omega)]
      generalize hz : sI (sI (sI q (3 + w.toNatClampNeg) n.toNatClampNeg v) 52 5 (q.1 60 11 + 1)) 52 6 (q.1 60 12 - 1) = z at *
      unfold f_X12_redo
      rw [q60, qk 69 (by decide), qk 70 (by decide), qk 72 (by decide), hw, hn, hv]
      refine T_q (by intro k; exact g (by rw [k])) (T_vp (by omega) (vD (by decide)) (T_vp (by omega) (vD (by decide)) (T_vp (by omega) (vD (by decide)) (T_rw (m_lays (RY_p6 hY) (RY_k12 hY) v ok.1) (T_nm (T_nm (T_some.mpr ⟨?_, ?_⟩)))))))
      · have l60 : (LAY z w n v).1 60 = q.1 60 := by rw [LAY_r c0.1 c0.2 (by omega), q60]
        show INV (sI (sI (LAY z w n v) 60 11 ((LAY z w n v).1 60 11 + 1)) 60 12 ((LAY z w n v).1 60 12 - 1))
        rw [l60]
        refine INV_set h ok.1 ok.2.2 (Fr_sI (Fr_sI (Fr_LAY2 fB) rfl) rfl) (RC_ud hC (fun k hk => ?_) ?_ ?_ ?_ ?_ ?_ ?_ ?_)
        · rw [sI_ro (by omega), sI_ro (by omega), LAY_r c0.1 c0.2 (by omega)]
          rcases hk with hk | hk
          · exact q4 k hk
          · exact qk k (by omega)
        · show (LAY z w n v).1 60 1 = _
          rw [l60]
        · show (LAY z w n v).1 60 6 = _
          rw [l60]
        · show (LAY z w n v).1 52 5 = q.1 60 11 + 1
          rw [LAY_r c0.1 c0.2 (by omega)]
          exact q5
        · show (LAY z w n v).1 52 6 = q.1 60 12 - 1
          rw [LAY_r c0.1 c0.2 (by omega)]
          exact q6
        · show 0 ≤ (q.1 60 11 + 1).toInt
          omega
        · show 0 ≤ (q.1 60 12 - 1).toInt
          omega
        · show (q.1 60 11 + 1).toInt + (q.1 60 12 - 1).toInt = _
          omega
      · have l60 : (LAY z w n v).1 60 = q.1 60 := by rw [LAY_r c0.1 c0.2 (by omega), q60]
        show q.1 60 12 - 1 = (LAY z w n v).1 60 12 - 1
        rw [l60]

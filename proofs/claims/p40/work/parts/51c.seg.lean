/-! ===== the model reads its law: what a piece of a line lays ===== -/
def wS (k i : Nat) : Bool := (k == 74 && Nat.ble 130 i) || (k == 75 && Nat.ble 130 i) || (k == 60 && (Nat.ble 19 i && Nat.ble i 22))
def EN (q : SS) : Prop := 0 ≤ (q.1 60 19).toInt ∧ (q.1 60 19).toInt ≤ (q.1 60 18).toInt ∧ (q.1 60 18).toInt ≤ 120 ∧ 0 ≤ (q.1 60 22).toInt ∧ (q.1 60 22).toInt ≤ (q.1 60 19).toInt ∧ q.1 60 20 = -1 ∧ 0 ≤ (q.1 60 21).toInt ∧ (q.1 60 21).toInt ≤ 6
def SG (o : Int32) (c : Int) (d : Nat) (q z : SS) : Prop := Fr wS v0 q z ∧ ((q.1 60 19).toInt ≤ (z.1 60 19).toInt ∧ (z.1 60 19).toInt ≤ (q.1 60 18).toInt) ∧ (q.1 60 22).toInt ≤ (z.1 60 22).toInt ∧ (∀ k : Nat, (k : Int) < 130 + (q.1 60 22).toInt → z.1 74 k = q.1 74 k ∧ z.1 75 k = q.1 75 k) ∧ (∀ k : Nat, 130 + (q.1 60 22).toInt ≤ (k : Int) → (k : Int) < 130 + (z.1 60 22).toInt → (z.1 74 k).toInt8.toInt32 = z.1 74 k) ∧ ((z.1 60 20 = -1 ∧ z.1 60 21 = o ∧ (z.1 60 22).toInt + c ≤ (q.1 60 22).toInt + ((z.1 60 19).toInt - (q.1 60 19).toInt) ∧ dp (z.1 74) (z.1 75) ((z.1 60 22).toInt - (q.1 60 22).toInt).toNat (130 + (q.1 60 22).toInt).toNat 0 = some d) ∨ (0 ≤ (z.1 60 20).toInt ∧ (z.1 60 22).toInt + c ≤ (q.1 60 22).toInt + ((z.1 60 19).toInt - (q.1 60 19).toInt) + 1))
theorem m1i : (-1 : Int32).toInt = -1 := rfl
theorem SG_tp {o : Int32} {c : Int} {d : Nat} {q z : SS} (g : SG o c d q z) : z.1 60 18 = q.1 60 18 := g.1.1 60 18 rfl
theorem SG_nw {o : Int32} {c : Int} {d : Nat} {q z : SS} (g : SG o c d q z) (n : z.1 60 20 = -1) : z.1 60 21 = o ∧ (z.1 60 22).toInt + c ≤ (q.1 60 22).toInt + ((z.1 60 19).toInt - (q.1 60 19).toInt) ∧ dp (z.1 74) (z.1 75) ((z.1 60 22).toInt - (q.1 60 22).toInt).toNat (130 + (q.1 60 22).toInt).toNat 0 = some d := by
  rcases g.2.2.2.2.2 with h | h
  · exact h.2
  · rw [n, m1i] at h
    exact absurd h.1 (by omega)
theorem SG_no {o : Int32} {c : Int} {d : Nat} {q z : SS} (g : SG o c d q z) (n : (z.1 60 20).toInt < 0) : z.1 60 20 = -1 := by
  rcases g.2.2.2.2.2 with h | h
  · exact h.1
  · exact absurd h.1 (by omega)
theorem SG_w {o o' : Int32} {c : Int} {d d' : Nat} {q z : SS} (g : SG o c d q z) (n : 0 ≤ (z.1 60 20).toInt) : SG o' c d' q z := by
  refine ⟨g.1, g.2.1, g.2.2.1, g.2.2.2.1, g.2.2.2.2.1, Or.inr ?_⟩
  rcases g.2.2.2.2.2 with h | h
  · rw [h.1, m1i] at n
    exact absurd n (by omega)
  · exact h
theorem SG_le {o : Int32} {c c' : Int} {d : Nat} {q z : SS} (g : SG o c d q z) (n : c' ≤ c) : SG o c' d q z := by
  refine ⟨g.1, g.2.1, g.2.2.1, g.2.2.2.1, g.2.2.2.2.1, ?_⟩
  rcases g.2.2.2.2.2 with ⟨h1, h2, h3, h4⟩ | ⟨h1, h2⟩
  · exact Or.inl ⟨h1, h2, by omega, h4⟩
  · exact Or.inr ⟨h1, by omega⟩
theorem SG_refl {q : SS} (e : EN q) : SG (q.1 60 21) 0 0 q q := ⟨Fr_refl q, ⟨by omega, e.2.1⟩, by omega, fun _ _ => ⟨rfl, rfl⟩, fun k h1 h2 => absurd h1 (by omega), Or.inl ⟨e.2.2.2.2.2.1, rfl, by omega, by rw [Int.sub_self]; rfl⟩⟩
theorem SG_EN {o : Int32} {c : Int} {d : Nat} {q z : SS} (e : EN q) (g : SG o c d q z) (n : z.1 60 20 = -1) (h : 0 ≤ c) (ho : 0 ≤ o.toInt ∧ o.toInt ≤ 6) : EN z := by
  obtain ⟨e1, e2, e3, e4, e5, e6, e7, e8⟩ := e
  have t := SG_tp g
  obtain ⟨n1, n2, _⟩ := SG_nw g n
  obtain ⟨_, ⟨g1, g2⟩, g3, _⟩ := g
  refine ⟨by omega, by rw [t]; omega, by rw [t]; omega, by omega, by omega, n, by rw [n1]; omega, by rw [n1]; omega⟩
/-- a byte read -/
theorem SG_hr {o : Int32} {c : Int} {d : Nat} {q z : SS} (e : EN q) (g : SG o c d q z) (n : z.1 60 20 = -1) (h : (z.1 60 19).toInt < (z.1 60 18).toInt) : SG o (c + 1) d q (sI z 60 19 (z.1 60 19 + 1)) := by
  obtain ⟨e1, e2, e3, e4, e5, e6, e7, e8⟩ := e
  have t := SG_tp g
  obtain ⟨n1, n2, n3⟩ := SG_nw g n
  obtain ⟨g0, ⟨g1, g2⟩, g3, g4, g5, _⟩ := g
  rw [t] at h
  have i := inc1 (a := z.1 60 19) (by omega) (by omega)
  have r19 : (sI z 60 19 (z.1 60 19 + 1)).1 60 19 = z.1 60 19 + 1 := rfl
  have r22 : (sI z 60 19 (z.1 60 19 + 1)).1 60 22 = z.1 60 22 := rfl
  refine ⟨Fr_sI g0 rfl, ⟨by rw [r19]; omega, by rw [r19]; omega⟩, g3, g4, g5, Or.inl ⟨n, n1, ?_, n3⟩⟩
  rw [r19, r22]
  omega
/-- open brackets counted -/
theorem SG_op {o o' : Int32} {c : Int} {d : Nat} {q z : SS} {x : Int32} (g : SG o c d q z) (n : z.1 60 20 = -1 → x = o') : SG o' c d q (sI z 60 21 x) := by
  obtain ⟨g0, g1, g3, g4, g5, g6⟩ := g
  refine ⟨Fr_sI g0 rfl, g1, g3, g4, g5, ?_⟩
  rcases g6 with ⟨h1, h2, h3, h4⟩ | h
  · exact Or.inl ⟨h1, n h1, h3, h4⟩
  · exact Or.inr h
/-- refused -/
theorem SG_wr {o o' : Int32} {c : Int} {d d' : Nat} {q z : SS} (e : EN q) (g : SG o c d q z) (n : z.1 60 20 = -1) : T (f_X12_wrong z) (fun r => SG o' (c + 1) d' q r ∧ 0 ≤ (r.1 60 20).toInt) := by
  obtain ⟨e1, e2, e3, e4, e5, e6, e7, e8⟩ := e
  obtain ⟨n1, n2, n3⟩ := SG_nw g n
  obtain ⟨g0, ⟨g1, g2⟩, g3, g4, g5, _⟩ := g
  unfold f_X12_wrong
  refine T_q (by rw [n]; decide) (T_nm (T_some.mpr ?_))
  have w : 0 ≤ ((sI z 60 20 (z.1 60 19)).1 60 20).toInt := by
    show 0 ≤ (z.1 60 19).toInt
    omega
  refine ⟨⟨Fr_sI g0 rfl, ⟨g1, g2⟩, g3, g4, g5, Or.inr ⟨w, ?_⟩⟩, w⟩
  show (z.1 60 22).toInt + (c + 1) ≤ (q.1 60 22).toInt + ((z.1 60 19).toInt - (q.1 60 19).toInt) + 1
  omega
theorem n8 (a : Int32) : (a.toInt8.toInt32).toInt8.toInt32 = a.toInt8.toInt32 := by
  rw [Int8.toInt8_toInt32]
/-- a step laid -/
theorem SG_add {o : Int32} {c : Int} {d e' : Nat} {q z : SS} {a w : Int32} (e : EN q) (g : SG o (c + 1) d q z) (hc : -1 ≤ c) (s : z.1 60 20 = -1 → stepd (a.toInt8.toInt32) w d = some e') : T (f_X12_addStep z a w) (fun r => SG o c e' q r ∧ r.1 60 19 = z.1 60 19 ∧ r.1 60 20 = z.1 60 20 ∧ r.1 60 18 = z.1 60 18) := by
  obtain ⟨e1, e2, e3, e4, e5, e6, e7, e8⟩ := e
  obtain ⟨g0, ⟨g1, g2⟩, g3, g4, g5, g6⟩ := g
  have b : (z.1 60 22).toInt + c ≤ (q.1 60 22).toInt + ((z.1 60 19).toInt - (q.1 60 19).toInt) := by
    rcases g6 with h | h
    · have := h.2.2.1; omega
    · have := h.2; omega
  have l130 : (130 : Int32).toInt = 130 := rfl
  have ad : ((130 : Int32) + z.1 60 22).toInt = 130 + (z.1 60 22).toInt := by rw [tadd (by omega) (by omega), l130]
  have i := inc1 (a := z.1 60 22) (by omega) (by omega)
  have ix : ((130 : Int32) + z.1 60 22).toNatClampNeg = (130 + (z.1 60 22).toInt).toNat := congrArg Int.toNat ad
  unfold f_X12_addStep
  rw [n8]
  refine T_vp (by omega) (by omega) (T_nm (T_vp (n := 260) (by show 0 ≤ ((130 : Int32) + z.1 60 22).toInt; omega) (by show ((130 : Int32) + z.1 60 22).toInt < _; omega) (T_nm (T_nm (T_some.mpr ?_)))))
  show SG o c e' q (sI (sI (sI z 74 ((130 : Int32) + z.1 60 22).toNatClampNeg (a.toInt8.toInt32)) 75 ((130 : Int32) + z.1 60 22).toNatClampNeg w) 60 22 (z.1 60 22 + 1)) ∧ _
  rw [ix]
  have bl : Nat.ble 130 (130 + (z.1 60 22).toInt).toNat = true := Nat.ble_eq_true_of_le (by omega)
  refine ⟨?_, rfl, rfl, rfl⟩
  have c74 : ∀ k : Nat, (sI (sI (sI z 74 (130 + (z.1 60 22).toInt).toNat (a.toInt8.toInt32)) 75 (130 + (z.1 60 22).toInt).toNat w) 60 22 (z.1 60 22 + 1)).1 74 k = if k = (130 + (z.1 60 22).toInt).toNat then a.toInt8.toInt32 else z.1 74 k := fun k => by
    rw [sI_ro (by decide), sI_ro (by decide), sI_rd]
    simp
  have c75 : ∀ k : Nat, (sI (sI (sI z 74 (130 + (z.1 60 22).toInt).toNat (a.toInt8.toInt32)) 75 (130 + (z.1 60 22).toInt).toNat w) 60 22 (z.1 60 22 + 1)).1 75 k = if k = (130 + (z.1 60 22).toInt).toNat then w else z.1 75 k := fun k => by
    rw [sI_ro (by decide), sI_rd, sI_ro (by decide)]
    simp
  have lo74 : ∀ k : Nat, (k : Int) < 130 + (z.1 60 22).toInt → (sI (sI (sI z 74 (130 + (z.1 60 22).toInt).toNat (a.toInt8.toInt32)) 75 (130 + (z.1 60 22).toInt).toNat w) 60 22 (z.1 60 22 + 1)).1 74 k = z.1 74 k := fun k hk => by rw [c74, if_neg (by omega)]
  have lo75 : ∀ k : Nat, (k : Int) < 130 + (z.1 60 22).toInt → (sI (sI (sI z 74 (130 + (z.1 60 22).toInt).toNat (a.toInt8.toInt32)) 75 (130 + (z.1 60 22).toInt).toNat w) 60 22 (z.1 60 22 + 1)).1 75 k = z.1 75 k := fun k hk => by rw [c75, if_neg (by omega)]
  have r22 : (sI (sI (sI z 74 (130 + (z.1 60 22).toInt).toNat (a.toInt8.toInt32)) 75 (130 + (z.1 60 22).toInt).toNat w) 60 22 (z.1 60 22 + 1)).1 60 22 = z.1 60 22 + 1 := rfl
  refine ⟨Fr_sI (Fr_sI (Fr_sI g0 (by unfold wS; rw [bl]; rfl)) (by unfold wS; rw [bl]; rfl)) rfl, ⟨g1, g2⟩, by rw [r22]; omega, fun k hk => ?_, fun k h1 h2 => ?_, ?_⟩
  · rw [lo74 k (by omega), lo75 k (by omega)]
    exact g4 k hk
  · rw [r22, i] at h2
    by_cases x : k = (130 + (z.1 60 22).toInt).toNat
    · rw [c74, if_pos x, n8]
    · rw [lo74 k (by omega)]
      exact g5 k h1 (by omega)
  · rcases g6 with ⟨h1, h2, h3, h4⟩ | ⟨h1, h2⟩
    · refine Or.inl ⟨h1, h2, ?_, ?_⟩
      · show (z.1 60 22 + 1).toInt + c ≤ (q.1 60 22).toInt + ((z.1 60 19).toInt - (q.1 60 19).toInt)
        omega
      · rw [r22, i]
        have en : ((z.1 60 22).toInt + 1 - (q.1 60 22).toInt).toNat = ((z.1 60 22).toInt - (q.1 60 22).toInt).toNat + 1 := by omega
        rw [en, dp_add]
        rw [← dp_c (A := z.1 74) (W := z.1 75) _ _ _ (fun k hk hl => ⟨(lo74 k (by omega)).symm, (lo75 k (by omega)).symm⟩), h4]
        have ei : (130 + (q.1 60 22).toInt).toNat + ((z.1 60 22).toInt - (q.1 60 22).toInt).toNat = (130 + (z.1 60 22).toInt).toNat := by omega
        rw [ei]
        show (stepd _ _ d).bind (fun d' => some d') = some e'
        rw [c74, c75, if_pos rfl, if_pos rfl, s h1]
        rfl
    · refine Or.inr ⟨h1, ?_⟩
      show (z.1 60 22 + 1).toInt + c ≤ (q.1 60 22).toInt + ((z.1 60 19).toInt - (q.1 60 19).toInt) + 1
      omega
/-- one piece behind another -/
theorem SG_tr {o o2 : Int32} {c c2 : Int} {d d2 : Nat} {q z y : SS} (e : EN q) (g : SG o c d q z) (n : z.1 60 20 = -1) (k : SG o2 c2 d2 z y) : SG o2 (c + c2) (d + d2) q y := by
  have t := SG_tp g
  obtain ⟨n1, n2, n3⟩ := SG_nw g n
  obtain ⟨e1, e2, e3, e4, e5, e6, e7, e8⟩ := e
  obtain ⟨g0, ⟨g1, g2⟩, g3, g4, g5, _⟩ := g
  obtain ⟨k0, ⟨k1, k2⟩, k3, k4, k5, k6⟩ := k
  rw [t] at k2
  refine ⟨Fr_tr g0 k0, ⟨by omega, by omega⟩, by omega, fun j hj => ?_, fun j h1 h2 => ?_, ?_⟩
  · have a := k4 j (by omega)
    have b := g4 j hj
    exact ⟨a.1.trans b.1, a.2.trans b.2⟩
  · by_cases x : (j : Int) < 130 + (z.1 60 22).toInt
    · rw [(k4 j x).1]
      exact g5 j h1 x
    · exact k5 j (by omega) h2
  · rcases k6 with ⟨h1, h2, h3, h4⟩ | ⟨h1, h2⟩
    · refine Or.inl ⟨h1, h2, by omega, ?_⟩
      have en : ((y.1 60 22).toInt - (q.1 60 22).toInt).toNat = ((z.1 60 22).toInt - (q.1 60 22).toInt).toNat + ((y.1 60 22).toInt - (z.1 60 22).toInt).toNat := by omega
      rw [en, dp_add]
      rw [dp_c (A := y.1 74) (W := y.1 75) (A' := z.1 74) (W' := z.1 75) _ _ _ (fun j hj hl => k4 j (by omega)), n3]
      have ei : (130 + (q.1 60 22).toInt).toNat + ((z.1 60 22).toInt - (q.1 60 22).toInt).toNat = (130 + (z.1 60 22).toInt).toNat := by omega
      rw [ei]
      show dp (y.1 74) (y.1 75) ((y.1 60 22).toInt - (z.1 60 22).toInt).toNat (130 + (z.1 60 22).toInt).toNat d = some (d + d2)
      have := dp_l d _ _ _ _ h4
      rw [Nat.zero_add] at this
      rw [this, Nat.add_comm]
    · exact Or.inr ⟨h1, by omega⟩

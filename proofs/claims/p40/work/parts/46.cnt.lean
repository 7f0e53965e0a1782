/-! ===== counting ===== -/
theorem onI {i : Nat} (h : i < 2000000000) : (Int32.ofNat i).toInt = (i : Int) := Int32.toInt_ofNat_of_lt (by omega)
theorem onC {i : Nat} (h : i < 2000000000) : (Int32.ofNat i).toNatClampNeg = i := by
  simp only [cn_eq, onI h]
  omega
theorem oa (i : Nat) : Int32.ofNat i + 1 = Int32.ofNat (i + 1) := (Int32.ofNat_add i 1).symm
theorem oz (a : Int32) : a + 0 = a := Int32.add_zero a
def cntN (p : Nat → Bool) : Nat → Nat
  | 0 => 0
  | n + 1 => cntN p n + (if p n = true then 1 else 0)
theorem cntN_le (p : Nat → Bool) : ∀ n, cntN p n ≤ n
  | 0 => Nat.le_refl _
  | n + 1 => by
    have := cntN_le p n
    show cntN p n + (if p n = true then 1 else 0) ≤ n + 1
    split <;> omega
theorem cntN_c {p r : Nat → Bool} : ∀ {n : Nat}, (∀ i, i < n → p i = r i) → cntN p n = cntN r n
  | 0, _ => rfl
  | n + 1, h => by
    show cntN p n + _ = cntN r n + _
    rw [cntN_c (n := n) (fun i hi => h i (by omega)), h n (by omega)]
theorem T_e {ρ : Type} {o : Option ρ} {v : ρ} (h : T o (fun r => r = v)) : o = some v := by
  obtain ⟨r, h1, h2⟩ := h
  rw [h1, h2]
theorem cnt1 {p : Nat → Bool} {i : Nat} (h : p i = true) : Int32.ofNat (cntN p i) + 1 = Int32.ofNat (cntN p (i + 1)) := by
  rw [oa]
  show _ = Int32.ofNat (cntN p i + (if p i = true then 1 else 0))
  rw [if_pos h]
theorem cnt0 {p : Nat → Bool} {i : Nat} (h : p i = false) : Int32.ofNat (cntN p i) = Int32.ofNat (cntN p (i + 1)) := by
  show _ = Int32.ofNat (cntN p i + (if p i = true then 1 else 0))
  rw [if_neg (by rw [h]; decide)]
  rfl
theorem x_heldBy {z : SS} (k0 : 0 ≤ (z.1 1 2).toInt) (k12 : (z.1 1 2).toInt ≤ 12) (a : Int32) : f_X8_heldBy z a = some (Int32.ofNat (cntN (fun t => decide (z.1 25 t = a)) (z.1 1 2).toInt.toNat)) := by
  unfold f_X8_heldBy b_X8_heldBy_4
  refine T_e ?_
  refine T_fx3 (fun l1 l2 l3 => l1 = a ∧ ∃ i : Nat, l3 = Int32.ofNat i ∧ (i : Int) ≤ (z.1 1 2).toInt ∧ l2 = Int32.ofNat (cntN (fun t => decide (z.1 25 t = a)) i)) (fun _ _ l3 => (12 - l3.toInt).toNat) ?_ _ _ _ _ ⟨rfl, 0, rfl, by omega, rfl⟩ (by unfold FU; decide)
  rintro rec l1 l2 l3 ⟨rfl, i, rfl, hi, rfl⟩ hr
  have ei : (Int32.ofNat i).toInt = (i : Int) := onI (by omega)
  have ci : (Int32.ofNat i).toNatClampNeg = i := onC (by omega)
  refine T_rw rfl (T_le (fun g => T_some.mpr ?_) (fun g => ?_))
  · have : i = (z.1 1 2).toInt.toNat := by omega
    rw [this]
  · have e2 : (Int32.ofNat (i + 1)).toInt = ((i + 1 : Nat) : Int) := onI (by omega)
    rw [ei] at g
    unfold b_X8_heldBy_30
    have up : (fun t => decide (z.1 25 t = l1)) i = true → T (rec l1 (Int32.ofNat (cntN (fun t => decide (z.1 25 t = l1)) i) + 1) (Int32.ofNat i + 1)) (fun r => r = Int32.ofNat (cntN (fun t => decide (z.1 25 t = l1)) (z.1 1 2).toInt.toNat)) := fun hp => by
      rw [cnt1 (p := (fun t => decide (z.1 25 t = l1))) hp, oa]
      exact hr _ _ _ ⟨rfl, i + 1, rfl, by omega, rfl⟩ (by omega)
    have no : (fun t => decide (z.1 25 t = l1)) i = false → T (rec l1 (Int32.ofNat (cntN (fun t => decide (z.1 25 t = l1)) i) + 0) (Int32.ofNat i + 1)) (fun r => r = Int32.ofNat (cntN (fun t => decide (z.1 25 t = l1)) (z.1 1 2).toInt.toNat)) := fun hp => by
      rw [oz, cnt0 (p := (fun t => decide (z.1 25 t = l1))) hp, oa]
      exact hr _ _ _ ⟨rfl, i + 1, rfl, by omega, rfl⟩ (by omega)
    have eh := x_holderOf k12 (Int32.ofNat i)
    rw [ei, ci, if_pos ⟨by omega, g⟩] at eh
    refine T_rw eh ?_
    by_cases ch : z.1 25 i = l1
    · refine T_p ch ?_
      exact T_nm (up (by simp [ch]))
    · exact T_q ch (T_nm (no (by simp [ch])))
theorem x_realsOf {z : SS} (k0 : 0 ≤ (z.1 1 2).toInt) (k12 : (z.1 1 2).toInt ≤ 12) (a : Int32) : f_X8_realsOf z a = some (Int32.ofNat (cntN (fun t => decide (z.1 25 t = a) && decide (z.1 8 t = 0)) (z.1 1 2).toInt.toNat)) := by
  unfold f_X8_realsOf b_X8_realsOf_4
  refine T_e ?_
  refine T_fx3 (fun l1 l2 l3 => l1 = a ∧ ∃ i : Nat, l3 = Int32.ofNat i ∧ (i : Int) ≤ (z.1 1 2).toInt ∧ l2 = Int32.ofNat (cntN (fun t => decide (z.1 25 t = a) && decide (z.1 8 t = 0)) i)) (fun _ _ l3 => (12 - l3.toInt).toNat) ?_ _ _ _ _ ⟨rfl, 0, rfl, by omega, rfl⟩ (by unfold FU; decide)
  rintro rec l1 l2 l3 ⟨rfl, i, rfl, hi, rfl⟩ hr
  have ei : (Int32.ofNat i).toInt = (i : Int) := onI (by omega)
  have ci : (Int32.ofNat i).toNatClampNeg = i := onC (by omega)
  refine T_rw rfl (T_le (fun g => T_some.mpr ?_) (fun g => ?_))
  · have : i = (z.1 1 2).toInt.toNat := by omega
    rw [this]
  · have e2 : (Int32.ofNat (i + 1)).toInt = ((i + 1 : Nat) : Int) := onI (by omega)
    rw [ei] at g
    unfold b_X8_realsOf_40 b_X8_realsOf_41
    have up : (fun t => decide (z.1 25 t = l1) && decide (z.1 8 t = 0)) i = true → T (rec l1 (Int32.ofNat (cntN (fun t => decide (z.1 25 t = l1) && decide (z.1 8 t = 0)) i) + 1) (Int32.ofNat i + 1)) (fun r => r = Int32.ofNat (cntN (fun t => decide (z.1 25 t = l1) && decide (z.1 8 t = 0)) (z.1 1 2).toInt.toNat)) := fun hp => by
      rw [cnt1 (p := (fun t => decide (z.1 25 t = l1) && decide (z.1 8 t = 0))) hp, oa]
      exact hr _ _ _ ⟨rfl, i + 1, rfl, by omega, rfl⟩ (by omega)
    have no : (fun t => decide (z.1 25 t = l1) && decide (z.1 8 t = 0)) i = false → T (rec l1 (Int32.ofNat (cntN (fun t => decide (z.1 25 t = l1) && decide (z.1 8 t = 0)) i) + 0) (Int32.ofNat i + 1)) (fun r => r = Int32.ofNat (cntN (fun t => decide (z.1 25 t = l1) && decide (z.1 8 t = 0)) (z.1 1 2).toInt.toNat)) := fun hp => by
      rw [oz, cnt0 (p := (fun t => decide (z.1 25 t = l1) && decide (z.1 8 t = 0))) hp, oa]
      exact hr _ _ _ ⟨rfl, i + 1, rfl, by omega, rfl⟩ (by omega)
    have eh := x_holderOf k12 (Int32.ofNat i)
    rw [ei, ci, if_pos ⟨by omega, g⟩] at eh
    refine T_rw eh ?_
    by_cases ch : z.1 25 i = l1
    · refine T_p ch ?_
      refine T_rw (x_isReal k12 (Int32.ofNat i)) ?_
      rw [ei, ci]
      by_cases cr : z.1 8 i = 0
      · refine T_bp ⟨by omega, g, cr⟩ ?_
        exact T_nm (up (by simp [ch, cr]))
      · exact T_bn (fun x => cr x.2.2) (T_nm (no (by simp [cr])))
    · exact T_q ch (T_nm (no (by simp [ch])))
theorem x_reals {z : SS} (k0 : 0 ≤ (z.1 1 2).toInt) (k12 : (z.1 1 2).toInt ≤ 12) : f_X8_reals z = some (Int32.ofNat (cntN (fun t => decide (z.1 8 t = 0)) (z.1 1 2).toInt.toNat)) := by
  unfold f_X8_reals b_X8_reals_4
  refine T_e ?_
  refine T_fx2 (fun l2 l3 => ∃ i : Nat, l3 = Int32.ofNat i ∧ (i : Int) ≤ (z.1 1 2).toInt ∧ l2 = Int32.ofNat (cntN (fun t => decide (z.1 8 t = 0)) i)) (fun _ l3 => (12 - l3.toInt).toNat) ?_ _ _ _ ⟨0, rfl, by omega, rfl⟩ (by unfold FU; decide)
  rintro rec l2 l3 ⟨i, rfl, hi, rfl⟩ hr
  have ei : (Int32.ofNat i).toInt = (i : Int) := onI (by omega)
  have ci : (Int32.ofNat i).toNatClampNeg = i := onC (by omega)
  refine T_rw rfl (T_le (fun g => T_some.mpr ?_) (fun g => ?_))
  · have : i = (z.1 1 2).toInt.toNat := by omega
    rw [this]
  · have e2 : (Int32.ofNat (i + 1)).toInt = ((i + 1 : Nat) : Int) := onI (by omega)
    rw [ei] at g
    unfold b_X8_reals_32
    have up : (fun t => decide (z.1 8 t = 0)) i = true → T (rec (Int32.ofNat (cntN (fun t => decide (z.1 8 t = 0)) i) + 1) (Int32.ofNat i + 1)) (fun r => r = Int32.ofNat (cntN (fun t => decide (z.1 8 t = 0)) (z.1 1 2).toInt.toNat)) := fun hp => by
      rw [cnt1 (p := (fun t => decide (z.1 8 t = 0))) hp, oa]
      exact hr _ _ ⟨i + 1, rfl, by omega, rfl⟩ (by omega)
    have no : (fun t => decide (z.1 8 t = 0)) i = false → T (rec (Int32.ofNat (cntN (fun t => decide (z.1 8 t = 0)) i) + 0) (Int32.ofNat i + 1)) (fun r => r = Int32.ofNat (cntN (fun t => decide (z.1 8 t = 0)) (z.1 1 2).toInt.toNat)) := fun hp => by
      rw [oz, cnt0 (p := (fun t => decide (z.1 8 t = 0))) hp, oa]
      exact hr _ _ ⟨i + 1, rfl, by omega, rfl⟩ (by omega)
    refine T_rw (x_isReal k12 (Int32.ofNat i)) ?_
    rw [ei, ci]
    by_cases cr : z.1 8 i = 0
    · refine T_bp ⟨by omega, g, cr⟩ ?_
      exact T_nm (up (by simp [cr]))
    · exact T_bn (fun x => cr x.2.2) (T_nm (no (by simp [cr])))
theorem x_looseOf {z : SS} (k0 : 0 ≤ (z.1 1 2).toInt) (k12 : (z.1 1 2).toInt ≤ 12) (a : Int32) : f_X8_looseOf z a = some (Int32.ofNat (cntN (fun t => decide (z.1 25 t = a) && decide ((z.1 9 t).toInt < 4)) (z.1 1 2).toInt.toNat)) := by
  unfold f_X8_looseOf b_X8_looseOf_4
  refine T_e ?_
  refine T_fx3 (fun l1 l2 l3 => l1 = a ∧ ∃ i : Nat, l3 = Int32.ofNat i ∧ (i : Int) ≤ (z.1 1 2).toInt ∧ l2 = Int32.ofNat (cntN (fun t => decide (z.1 25 t = a) && decide ((z.1 9 t).toInt < 4)) i)) (fun _ _ l3 => (12 - l3.toInt).toNat) ?_ _ _ _ _ ⟨rfl, 0, rfl, by omega, rfl⟩ (by unfold FU; decide)
  rintro rec l1 l2 l3 ⟨rfl, i, rfl, hi, rfl⟩ hr
  have ei : (Int32.ofNat i).toInt = (i : Int) := onI (by omega)
  have ci : (Int32.ofNat i).toNatClampNeg = i := onC (by omega)
  refine T_rw rfl (T_le (fun g => T_some.mpr ?_) (fun g => ?_))
  · have : i = (z.1 1 2).toInt.toNat := by omega
    rw [this]
  · have e2 : (Int32.ofNat (i + 1)).toInt = ((i + 1 : Nat) : Int) := onI (by omega)
    rw [ei] at g
    unfold b_X8_looseOf_37 b_X8_looseOf_38
    have up : (fun t => decide (z.1 25 t = l1) && decide ((z.1 9 t).toInt < 4)) i = true → T (rec l1 (Int32.ofNat (cntN (fun t => decide (z.1 25 t = l1) && decide ((z.1 9 t).toInt < 4)) i) + 1) (Int32.ofNat i + 1)) (fun r => r = Int32.ofNat (cntN (fun t => decide (z.1 25 t = l1) && decide ((z.1 9 t).toInt < 4)) (z.1 1 2).toInt.toNat)) := fun hp => by
      rw [cnt1 (p := (fun t => decide (z.1 25 t = l1) && decide ((z.1 9 t).toInt < 4))) hp, oa]
      exact hr _ _ _ ⟨rfl, i + 1, rfl, by omega, rfl⟩ (by omega)
    have no : (fun t => decide (z.1 25 t = l1) && decide ((z.1 9 t).toInt < 4)) i = false → T (rec l1 (Int32.ofNat (cntN (fun t => decide (z.1 25 t = l1) && decide ((z.1 9 t).toInt < 4)) i) + 0) (Int32.ofNat i + 1)) (fun r => r = Int32.ofNat (cntN (fun t => decide (z.1 25 t = l1) && decide ((z.1 9 t).toInt < 4)) (z.1 1 2).toInt.toNat)) := fun hp => by
      rw [oz, cnt0 (p := (fun t => decide (z.1 25 t = l1) && decide ((z.1 9 t).toInt < 4))) hp, oa]
      exact hr _ _ _ ⟨rfl, i + 1, rfl, by omega, rfl⟩ (by omega)
    have eh := x_holderOf k12 (Int32.ofNat i)
    rw [ei, ci, if_pos ⟨by omega, g⟩] at eh
    refine T_rw eh ?_
    by_cases ch : z.1 25 i = l1
    · refine T_p ch ?_
      refine T_rw (x_isLoose k12 (Int32.ofNat i)) ?_
      rw [ei, ci]
      by_cases cl : (z.1 9 i).toInt < 4
      · refine T_bp (fun _ _ => cl) ?_
        exact T_nm (up (by simp [ch, cl]))
      · exact T_bn (fun x => cl (x (by omega) g)) (T_nm (no (by simp [cl])))
    · exact T_q ch (T_nm (no (by simp [ch])))
theorem x_looseRealsOf {z : SS} (k0 : 0 ≤ (z.1 1 2).toInt) (k12 : (z.1 1 2).toInt ≤ 12) (a : Int32) : f_X8_looseRealsOf z a = some (Int32.ofNat (cntN (fun t => decide (z.1 25 t = a) && decide ((z.1 9 t).toInt < 4) && decide (z.1 8 t = 0)) (z.1 1 2).toInt.toNat)) := by
  unfold f_X8_looseRealsOf b_X8_looseRealsOf_4
  refine T_e ?_
  refine T_fx3 (fun l1 l2 l3 => l1 = a ∧ ∃ i : Nat, l3 = Int32.ofNat i ∧ (i : Int) ≤ (z.1 1 2).toInt ∧ l2 = Int32.ofNat (cntN (fun t => decide (z.1 25 t = a) && decide ((z.1 9 t).toInt < 4) && decide (z.1 8 t = 0)) i)) (fun _ _ l3 => (12 - l3.toInt).toNat) ?_ _ _ _ _ ⟨rfl, 0, rfl, by omega, rfl⟩ (by unfold FU; decide)
  rintro rec l1 l2 l3 ⟨rfl, i, rfl, hi, rfl⟩ hr
  have ei : (Int32.ofNat i).toInt = (i : Int) := onI (by omega)
  have ci : (Int32.ofNat i).toNatClampNeg = i := onC (by omega)
  refine T_rw rfl (T_le (fun g => T_some.mpr ?_) (fun g => ?_))
  · have : i = (z.1 1 2).toInt.toNat := by omega
    rw [this]
  · have e2 : (Int32.ofNat (i + 1)).toInt = ((i + 1 : Nat) : Int) := onI (by omega)
    rw [ei] at g
    unfold b_X8_looseRealsOf_48 b_X8_looseRealsOf_49
    have up : (fun t => decide (z.1 25 t = l1) && decide ((z.1 9 t).toInt < 4) && decide (z.1 8 t = 0)) i = true → T (rec l1 (Int32.ofNat (cntN (fun t => decide (z.1 25 t = l1) && decide ((z.1 9 t).toInt < 4) && decide (z.1 8 t = 0)) i) + 1) (Int32.ofNat i + 1)) (fun r => r = Int32.ofNat (cntN (fun t => decide (z.1 25 t = l1) && decide ((z.1 9 t).toInt < 4) && decide (z.1 8 t = 0)) (z.1 1 2).toInt.toNat)) := fun hp => by
      rw [cnt1 (p := (fun t => decide (z.1 25 t = l1) && decide ((z.1 9 t).toInt < 4) && decide (z.1 8 t = 0))) hp, oa]
      exact hr _ _ _ ⟨rfl, i + 1, rfl, by omega, rfl⟩ (by omega)
    have no : (fun t => decide (z.1 25 t = l1) && decide ((z.1 9 t).toInt < 4) && decide (z.1 8 t = 0)) i = false → T (rec l1 (Int32.ofNat (cntN (fun t => decide (z.1 25 t = l1) && decide ((z.1 9 t).toInt < 4) && decide (z.1 8 t = 0)) i) + 0) (Int32.ofNat i + 1)) (fun r => r = Int32.ofNat (cntN (fun t => decide (z.1 25 t = l1) && decide ((z.1 9 t).toInt < 4) && decide (z.1 8 t = 0)) (z.1 1 2).toInt.toNat)) := fun hp => by
      rw [oz, cnt0 (p := (fun t => decide (z.1 25 t = l1) && decide ((z.1 9 t).toInt < 4) && decide (z.1 8 t = 0))) hp, oa]
      exact hr _ _ _ ⟨rfl, i + 1, rfl, by omega, rfl⟩ (by omega)
    have eh := x_holderOf k12 (Int32.ofNat i)
    rw [ei, ci, if_pos ⟨by omega, g⟩] at eh
    refine T_rw eh ?_
    by_cases ch : z.1 25 i = l1
    · refine T_p ch ?_
      refine T_rw (x_isLoose k12 (Int32.ofNat i)) ?_
      rw [ei, ci]
      by_cases cl : (z.1 9 i).toInt < 4
      · refine T_bp (fun _ _ => cl) ?_
        refine T_rw (x_isReal k12 (Int32.ofNat i)) ?_
        rw [ei, ci]
        by_cases cr : z.1 8 i = 0
        · refine T_bp ⟨by omega, g, cr⟩ ?_
          exact T_nm (up (by simp [ch, cl, cr]))
        · exact T_bn (fun x => cr x.2.2) (T_nm (no (by simp [cr])))
      · exact T_bn (fun x => cl (x (by omega) g)) (T_nm (no (by simp [cl])))
    · exact T_q ch (T_nm (no (by simp [ch])))
theorem x_looseReals {z : SS} (k0 : 0 ≤ (z.1 1 2).toInt) (k12 : (z.1 1 2).toInt ≤ 12) : f_X8_looseReals z = some (Int32.ofNat (cntN (fun t => decide ((z.1 9 t).toInt < 4) && decide (z.1 8 t = 0)) (z.1 1 2).toInt.toNat)) := by
  unfold f_X8_looseReals b_X8_looseReals_4
  refine T_e ?_
  refine T_fx2 (fun l2 l3 => ∃ i : Nat, l3 = Int32.ofNat i ∧ (i : Int) ≤ (z.1 1 2).toInt ∧ l2 = Int32.ofNat (cntN (fun t => decide ((z.1 9 t).toInt < 4) && decide (z.1 8 t = 0)) i)) (fun _ l3 => (12 - l3.toInt).toNat) ?_ _ _ _ ⟨0, rfl, by omega, rfl⟩ (by unfold FU; decide)
  rintro rec l2 l3 ⟨i, rfl, hi, rfl⟩ hr
  have ei : (Int32.ofNat i).toInt = (i : Int) := onI (by omega)
  have ci : (Int32.ofNat i).toNatClampNeg = i := onC (by omega)
  refine T_rw rfl (T_le (fun g => T_some.mpr ?_) (fun g => ?_))
  · have : i = (z.1 1 2).toInt.toNat := by omega
    rw [this]
  · have e2 : (Int32.ofNat (i + 1)).toInt = ((i + 1 : Nat) : Int) := onI (by omega)
    rw [ei] at g
    unfold b_X8_looseReals_39 b_X8_looseReals_40
    have up : (fun t => decide ((z.1 9 t).toInt < 4) && decide (z.1 8 t = 0)) i = true → T (rec (Int32.ofNat (cntN (fun t => decide ((z.1 9 t).toInt < 4) && decide (z.1 8 t = 0)) i) + 1) (Int32.ofNat i + 1)) (fun r => r = Int32.ofNat (cntN (fun t => decide ((z.1 9 t).toInt < 4) && decide (z.1 8 t = 0)) (z.1 1 2).toInt.toNat)) := fun hp => by
      rw [cnt1 (p := (fun t => decide ((z.1 9 t).toInt < 4) && decide (z.1 8 t = 0))) hp, oa]
      exact hr _ _ ⟨i + 1, rfl, by omega, rfl⟩ (by omega)
    have no : (fun t => decide ((z.1 9 t).toInt < 4) && decide (z.1 8 t = 0)) i = false → T (rec (Int32.ofNat (cntN (fun t => decide ((z.1 9 t).toInt < 4) && decide (z.1 8 t = 0)) i) + 0) (Int32.ofNat i + 1)) (fun r => r = Int32.ofNat (cntN (fun t => decide ((z.1 9 t).toInt < 4) && decide (z.1 8 t = 0)) (z.1 1 2).toInt.toNat)) := fun hp => by
      rw [oz, cnt0 (p := (fun t => decide ((z.1 9 t).toInt < 4) && decide (z.1 8 t = 0))) hp, oa]
      exact hr _ _ ⟨i + 1, rfl, by omega, rfl⟩ (by omega)
    refine T_rw (x_isLoose k12 (Int32.ofNat i)) ?_
    rw [ei, ci]
    by_cases cl : (z.1 9 i).toInt < 4
    · refine T_bp (fun _ _ => cl) ?_
      refine T_rw (x_isReal k12 (Int32.ofNat i)) ?_
      rw [ei, ci]
      by_cases cr : z.1 8 i = 0
      · refine T_bp ⟨by omega, g, cr⟩ ?_
        exact T_nm (up (by simp [cl, cr]))
      · exact T_bn (fun x => cr x.2.2) (T_nm (no (by simp [cr])))
    · exact T_bn (fun x => cl (x (by omega) g)) (T_nm (no (by simp [cl])))
theorem m_manyOf {z : SS} (k0 : 0 ≤ (z.1 60 6).toInt) (k12 : (z.1 60 6).toInt ≤ 12) (a : Int32) : f_X12_manyOf z a = some (Int32.ofNat (cntN (fun t => decide (z.1 81 t = a)) (z.1 60 6).toInt.toNat)) := by
  unfold f_X12_manyOf b_X12_manyOf_4
  refine T_e ?_
  refine T_fx3 (fun l1 l2 l3 => l1 = a ∧ ∃ i : Nat, l3 = Int32.ofNat i ∧ (i : Int) ≤ (z.1 60 6).toInt ∧ l2 = Int32.ofNat (cntN (fun t => decide (z.1 81 t = a)) i)) (fun _ _ l3 => (12 - l3.toInt).toNat) ?_ _ _ _ _ ⟨rfl, 0, rfl, by omega, rfl⟩ (by unfold FU; decide)
  rintro rec l1 l2 l3 ⟨rfl, i, rfl, hi, rfl⟩ hr
  have ei : (Int32.ofNat i).toInt = (i : Int) := onI (by omega)
  have ci : (Int32.ofNat i).toNatClampNeg = i := onC (by omega)
  refine T_le (fun g => T_some.mpr ?_) (fun g => T_vp (by omega) (by show (Int32.ofNat i).toInt < 12; omega) ?_)
  · have : i = (z.1 60 6).toInt.toNat := by omega
    rw [this]
  · have e2 : (Int32.ofNat (i + 1)).toInt = ((i + 1 : Nat) : Int) := onI (by omega)
    rw [ei] at g
    unfold b_X12_manyOf_25
    have up : (fun t => decide (z.1 81 t = l1)) i = true → T (rec l1 (Int32.ofNat (cntN (fun t => decide (z.1 81 t = l1)) i) + 1) (Int32.ofNat i + 1)) (fun r => r = Int32.ofNat (cntN (fun t => decide (z.1 81 t = l1)) (z.1 60 6).toInt.toNat)) := fun hp => by
      rw [cnt1 (p := (fun t => decide (z.1 81 t = l1))) hp, oa]
      exact hr _ _ _ ⟨rfl, i + 1, rfl, by omega, rfl⟩ (by omega)
    have no : (fun t => decide (z.1 81 t = l1)) i = false → T (rec l1 (Int32.ofNat (cntN (fun t => decide (z.1 81 t = l1)) i)) (Int32.ofNat i + 1)) (fun r => r = Int32.ofNat (cntN (fun t => decide (z.1 81 t = l1)) (z.1 60 6).toInt.toNat)) := fun hp => by
      rw [cnt0 (p := (fun t => decide (z.1 81 t = l1))) hp, oa]
      exact hr _ _ _ ⟨rfl, i + 1, rfl, by omega, rfl⟩ (by omega)
    rw [ci]
    by_cases ch : z.1 81 i = l1
    · refine T_p ch ?_
      exact up (by simp [ch])
    · exact T_q ch (no (by simp [ch]))
theorem m_realOf {z : SS} (k0 : 0 ≤ (z.1 60 6).toInt) (k12 : (z.1 60 6).toInt ≤ 12) (a : Int32) : f_X12_realOf z a = some (Int32.ofNat (cntN (fun t => decide (z.1 81 t = a) && decide (z.1 66 t = 0)) (z.1 60 6).toInt.toNat)) := by
  unfold f_X12_realOf b_X12_realOf_4
  refine T_e ?_
  refine T_fx3 (fun l1 l2 l3 => l1 = a ∧ ∃ i : Nat, l3 = Int32.ofNat i ∧ (i : Int) ≤ (z.1 60 6).toInt ∧ l2 = Int32.ofNat (cntN (fun t => decide (z.1 81 t = a) && decide (z.1 66 t = 0)) i)) (fun _ _ l3 => (12 - l3.toInt).toNat) ?_ _ _ _ _ ⟨rfl, 0, rfl, by omega, rfl⟩ (by unfold FU; decide)
  rintro rec l1 l2 l3 ⟨rfl, i, rfl, hi, rfl⟩ hr
  have ei : (Int32.ofNat i).toInt = (i : Int) := onI (by omega)
  have ci : (Int32.ofNat i).toNatClampNeg = i := onC (by omega)
  refine T_le (fun g => T_some.mpr ?_) (fun g => T_vp (by omega) (by show (Int32.ofNat i).toInt < 12; omega) ?_)
  · have : i = (z.1 60 6).toInt.toNat := by omega
    rw [this]
  · have e2 : (Int32.ofNat (i + 1)).toInt = ((i + 1 : Nat) : Int) := onI (by omega)
    rw [ei] at g
    unfold b_X12_realOf_34
    have up : (fun t => decide (z.1 81 t = l1) && decide (z.1 66 t = 0)) i = true → T (rec l1 (Int32.ofNat (cntN (fun t => decide (z.1 81 t = l1) && decide (z.1 66 t = 0)) i) + 1) (Int32.ofNat i + 1)) (fun r => r = Int32.ofNat (cntN (fun t => decide (z.1 81 t = l1) && decide (z.1 66 t = 0)) (z.1 60 6).toInt.toNat)) := fun hp => by
      rw [cnt1 (p := (fun t => decide (z.1 81 t = l1) && decide (z.1 66 t = 0))) hp, oa]
      exact hr _ _ _ ⟨rfl, i + 1, rfl, by omega, rfl⟩ (by omega)
    have no : (fun t => decide (z.1 81 t = l1) && decide (z.1 66 t = 0)) i = false → T (rec l1 (Int32.ofNat (cntN (fun t => decide (z.1 81 t = l1) && decide (z.1 66 t = 0)) i)) (Int32.ofNat i + 1)) (fun r => r = Int32.ofNat (cntN (fun t => decide (z.1 81 t = l1) && decide (z.1 66 t = 0)) (z.1 60 6).toInt.toNat)) := fun hp => by
      rw [cnt0 (p := (fun t => decide (z.1 81 t = l1) && decide (z.1 66 t = 0))) hp, oa]
      exact hr _ _ _ ⟨rfl, i + 1, rfl, by omega, rfl⟩ (by omega)
    rw [ci]
    by_cases ch : z.1 81 i = l1
    · refine T_p ch ?_
      refine T_vp (by omega) (by show (Int32.ofNat i).toInt < 12; omega) ?_
      by_cases cr : z.1 66 i = 0
      · refine T_p cr ?_
        exact up (by simp [ch, cr])
      · exact T_q cr (no (by simp [cr]))
    · exact T_q ch (no (by simp [ch]))
theorem m_allReal {z : SS} (k0 : 0 ≤ (z.1 60 6).toInt) (k12 : (z.1 60 6).toInt ≤ 12) : f_X12_allReal z = some (Int32.ofNat (cntN (fun t => decide (z.1 66 t = 0)) (z.1 60 6).toInt.toNat)) := by
  unfold f_X12_allReal b_X12_allReal_4
  refine T_e ?_
  refine T_fx2 (fun l2 l3 => ∃ i : Nat, l3 = Int32.ofNat i ∧ (i : Int) ≤ (z.1 60 6).toInt ∧ l2 = Int32.ofNat (cntN (fun t => decide (z.1 66 t = 0)) i)) (fun _ l3 => (12 - l3.toInt).toNat) ?_ _ _ _ ⟨0, rfl, by omega, rfl⟩ (by unfold FU; decide)
  rintro rec l2 l3 ⟨i, rfl, hi, rfl⟩ hr
  have ei : (Int32.ofNat i).toInt = (i : Int) := onI (by omega)
  have ci : (Int32.ofNat i).toNatClampNeg = i := onC (by omega)
  refine T_le (fun g => T_some.mpr ?_) (fun g => T_vp (by omega) (by show (Int32.ofNat i).toInt < 12; omega) ?_)
  · have : i = (z.1 60 6).toInt.toNat := by omega
    rw [this]
  · have e2 : (Int32.ofNat (i + 1)).toInt = ((i + 1 : Nat) : Int) := onI (by omega)
    rw [ei] at g
    unfold b_X12_allReal_24
    have up : (fun t => decide (z.1 66 t = 0)) i = true → T (rec (Int32.ofNat (cntN (fun t => decide (z.1 66 t = 0)) i) + 1) (Int32.ofNat i + 1)) (fun r => r = Int32.ofNat (cntN (fun t => decide (z.1 66 t = 0)) (z.1 60 6).toInt.toNat)) := fun hp => by
      rw [cnt1 (p := (fun t => decide (z.1 66 t = 0))) hp, oa]
      exact hr _ _ ⟨i + 1, rfl, by omega, rfl⟩ (by omega)
    have no : (fun t => decide (z.1 66 t = 0)) i = false → T (rec (Int32.ofNat (cntN (fun t => decide (z.1 66 t = 0)) i)) (Int32.ofNat i + 1)) (fun r => r = Int32.ofNat (cntN (fun t => decide (z.1 66 t = 0)) (z.1 60 6).toInt.toNat)) := fun hp => by
      rw [cnt0 (p := (fun t => decide (z.1 66 t = 0))) hp, oa]
      exact hr _ _ ⟨i + 1, rfl, by omega, rfl⟩ (by omega)
    rw [ci]
    by_cases cr : z.1 66 i = 0
    · refine T_p cr ?_
      exact up (by simp [cr])
    · exact T_q cr (no (by simp [cr]))

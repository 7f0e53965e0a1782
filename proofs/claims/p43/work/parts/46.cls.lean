/-! ===== counting ===== -/
theorem onI {i : Nat} (h : i < 2000000000) : (Int32.ofNat i).toInt = (i : Int) := Int32.toInt_ofNat_of_lt (by omega)
theorem onC {i : Nat} (h : i < 2000000000) : (Int32.ofNat i).toNatClampNeg = i := by
  simp only [cn_eq, onI h]
  omega
theorem oa (i : Nat) : Int32.ofNat i + 1 = Int32.ofNat (i + 1) := (Int32.ofNat_add i 1).symm
theorem oz (a : Int32) : a + 0 = a := Int32.add_zero a
def cntN (p : Nat → Bool) : Nat → Nat
  | 0 => 0
  | n + 1 => cntN p n + (if p n = true then 1 else 0)
theorem cntN_le (p : Nat → Bool) : ∀ n, cntN p n ≤ n
  | 0 => Nat.le_refl _
  | n + 1 => by
    have := cntN_le p n
    show cntN p n + (if p n = true then 1 else 0) ≤ n + 1
    split <;> omega
theorem cntN_c {p r : Nat → Bool} : ∀ {n : Nat}, (∀ i, i < n → p i = r i) → cntN p n = cntN r n
  | 0, _ => rfl
  | n + 1, h => by
    show cntN p n + _ = cntN r n + _
    rw [cntN_c (n := n) (fun i hi => h i (by omega)), h n (by omega)]
theorem T_e {ρ : Type} {o : Option ρ} {v : ρ} (h : T o (fun r => r = v)) : o = some v := by
  obtain ⟨r, h1, h2⟩ := h
  rw [h1, h2]
theorem cnt1 {p : Nat → Bool} {i : Nat} (h : p i = true) : Int32.ofNat (cntN p i) + 1 = Int32.ofNat (cntN p (i + 1)) := by
  rw [oa]
  show _ = Int32.ofNat (cntN p i + (if p i = true then 1 else 0))
  rw [if_pos h]
theorem cnt0 {p : Nat → Bool} {i : Nat} (h : p i = false) : Int32.ofNat (cntN p i) = Int32.ofNat (cntN p (i + 1)) := by
  show _ = Int32.ofNat (cntN p i + (if p i = true then 1 else 0))
  rw [if_neg (by rw [h]; decide)]
  rfl
theorem x_heldBy {z : SS} (k0 : 0 ≤ (z.1 1 2).toInt) (k12 : (z.1 1 2).toInt ≤ 12) (a : Int32) : f_X8_heldBy z a = some (Int32.ofNat (cntN (fun t => decide (z.1 25 t = a)) (z.1 1 2).toInt.toNat)) := by
  unfold f_X8_heldBy b_X8_heldBy_4
  refine T_e ?_
  refine T_fx3 (fun l1 l2 l3 => l1 = a ∧ ∃ i : Nat, l3 = Int32.ofNat i ∧ (i : Int) ≤ (z.1 1 2).toInt ∧ l2 = Int32.ofNat (cntN (fun t => decide (z.1 25 t = a)) i)) (fun _ _ l3 => (12 - l3.toInt).toNat) ?_ _ _ _ _ ⟨rfl, 0, rfl, by omega, rfl⟩ (by unfold FU; decide)
  rintro rec l1 l2 l3 ⟨rfl, i, rfl, hi, rfl⟩ hr
  have ei : (Int32.ofNat i).toInt = (i : Int) := onI (by omega)
  have ci : (Int32.ofNat i).toNatClampNeg = i := onC (by omega)
  refine T_rw rfl (T_le (fun g => T_some.mpr ?_) (fun g => ?_))
  · have : i = (z.1 1 2).toInt.toNat := by omega
    rw [this]
  · have e2 : (Int32.ofNat (i + 1)).toInt = ((i + 1 : Nat) : Int) := onI (by omega)
    rw [ei] at g
    unfold b_X8_heldBy_30
    have up : (fun t => decide (z.1 25 t = l1)) i = true → T (rec l1 (Int32.ofNat (cntN (fun t => decide (z.1 25 t = l1)) i) + 1) (Int32.ofNat i + 1)) (fun r => r = Int32.ofNat (cntN (fun t => decide (z.1 25 t = l1)) (z.1 1 2).toInt.toNat)) := fun hp => by
      rw [cnt1 (p := (fun t => decide (z.1 25 t = l1))) hp, oa]
      exact hr _ _ _ ⟨rfl, i + 1, rfl, by omega, rfl⟩ (by omega)
    have no : (fun t => decide (z.1 25 t = l1)) i = false → T (rec l1 (Int32.ofNat (cntN (fun t => decide (z.1 25 t = l1)) i) + 0) (Int32.ofNat i + 1)) (fun r => r = Int32.ofNat (cntN (fun t => decide (z.1 25 t = l1)) (z.1 1 2).toInt.toNat)) := fun hp => by
      rw [oz, cnt0 (p := (fun t => decide (z.1 25 t = l1))) hp, oa]
      exact hr _ _ _ ⟨rfl, i + 1, rfl, by omega, rfl⟩ (by omega)
    have eh := x_holderOf k12 (Int32.ofNat i)
    rw [ei, ci, if_pos ⟨by omega, g⟩] at eh
    refine T_rw eh ?_
    by_cases ch : z.1 25 i = l1
    · refine T_p ch ?_
      exact T_nm (up (by simp [ch]))
    · exact T_q ch (T_nm (no (by simp [ch])))
theorem x_realsOf {z : SS} (k0 : 0 ≤ (z.1 1 2).toInt) (k12 : (z.1 1 2).toInt ≤ 12) (a : Int32) : f_X8_realsOf z a = some (Int32.ofNat (cntN (fun t => decide (z.1 25 t = a) && decide (z.1 8 t = 0)) (z.1 1 2).toInt.toNat)) := by
  unfold f_X8_realsOf b_X8_realsOf_4
  refine T_e ?_
  refine T_fx3 (fun l1 l2 l3 => l1 = a ∧ ∃ i : Nat, l3 = Int32.ofNat i ∧ (i : Int) ≤ (z.1 1 2).toInt ∧ l2 = Int32.ofNat (cntN (fun t => decide (z.1 25 t = a) && decide (z.1 8 t = 0)) i)) (fun _ _ l3 => (12 - l3.toInt).toNat) ?_ _ _ _ _ ⟨rfl, 0, rfl, by omega, rfl⟩ (by unfold FU; decide)
  rintro rec l1 l2 l3 ⟨rfl, i, rfl, hi, rfl⟩ hr
  have ei : (Int32.ofNat i).toInt = (i : Int) := onI (by omega)
  have ci : (Int32.ofNat i).toNatClampNeg = i := onC (by omega)
  refine T_rw rfl (T_le (fun g => T_some.mpr ?_) (fun g => ?_))
  · have : i = (z.1 1 2).toInt.toNat := by omega
    rw [this]
  · have e2 : (Int32.ofNat (i + 1)).toInt = ((i + 1 : Nat) : Int) := onI (by omega)
    rw [ei] at g
    unfold b_X8_realsOf_40 b_X8_realsOf_41
    have up : (fun t => decide (z.1 25 t = l1) && decide (z.1 8 t = 0)) i = true → T (rec l1 (Int32.ofNat (cntN (fun t => decide (z.1 25 t = l1) && decide (z.1 8 t = 0)) i) + 1) (Int32.ofNat i + 1)) (fun r => r = Int32.ofNat (cntN (fun t => decide (z.1 25 t = l1) && decide (z.1 8 t = 0)) (z.1 1 2).toInt.toNat)) := fun hp => by
      rw [cnt1 (p := (fun t => decide (z.1 25 t = l1) && decide (z.1 8 t = 0))) hp, oa]
      exact hr _ _ _ ⟨rfl, i + 1, rfl, by omega, rfl⟩ (by omega)
    have no : (fun t => decide (z.1 25 t = l1) && decide (z.1 8 t = 0)) i = false → T (rec l1 (Int32.ofNat (cntN (fun t => decide (z.1 25 t = l1) && decide (z.1 8 t = 0)) i) + 0) (Int32.ofNat i + 1)) (fun r => r = Int32.ofNat (cntN (fun t => decide (z.1 25 t = l1) && decide (z.1 8 t = 0)) (z.1 1 2).toInt.toNat)) := fun hp => by
      rw [oz, cnt0 (p := (fun t => decide (z.1 25 t = l1) && decide (z.1 8 t = 0))) hp, oa]
      exact hr _ _ _ ⟨rfl, i + 1, rfl, by omega, rfl⟩ (by omega)
    have eh := x_holderOf k12 (Int32.ofNat i)
    rw [ei, ci, if_pos ⟨by omega, g⟩] at eh
    refine T_rw eh ?_
    by_cases ch : z.1 25 i = l1
    · refine T_p ch ?_
      refine T_rw (x_isReal k12 (Int32.ofNat i)) ?_
      rw [ei, ci]
      by_cases cr : z.1 8 i = 0
      · refine T_bp ⟨by omega, g, cr⟩ ?_
        exact T_nm (up (by simp [ch, cr]))
      · exact T_bn (fun x => cr x.2.2) (T_nm (no (by simp [cr])))
    · exact T_q ch (T_nm (no (by simp [ch])))
theorem x_reals {z : SS} (k0 : 0 ≤ (z.1 1 2).toInt) (k12 : (z.1 1 2).toInt ≤ 12) : f_X8_reals z = some (Int32.ofNat (cntN (fun t => decide (z.1 8 t = 0)) (z.1 1 2).toInt.toNat)) := by
  unfold f_X8_reals b_X8_reals_4
  refine T_e ?_
  refine T_fx2 (fun l2 l3 => ∃ i : Nat, l3 = Int32.ofNat i ∧ (i : Int) ≤ (z.1 1 2).toInt ∧ l2 = Int32.ofNat (cntN (fun t => decide (z.1 8 t = 0)) i)) (fun _ l3 => (12 - l3.toInt).toNat) ?_ _ _ _ ⟨0, rfl, by omega, rfl⟩ (by unfold FU; decide)
  rintro rec l2 l3 ⟨i, rfl, hi, rfl⟩ hr
  have ei : (Int32.ofNat i).toInt = (i : Int) := onI (by omega)
  have ci : (Int32.ofNat i).toNatClampNeg = i := onC (by omega)
  refine T_rw rfl (T_le (fun g => T_some.mpr ?_) (fun g => ?_))
  · have : i = (z.1 1 2).toInt.toNat := by omega
    rw [this]
  · have e2 : (Int32.ofNat (i + 1)).toInt = ((i + 1 : Nat) : Int) := onI (by omega)
    rw [ei] at g
    unfold b_X8_reals_32
    have up : (fun t => decide (z.1 8 t = 0)) i = true → T (rec (Int32.ofNat (cntN (fun t => decide (z.1 8 t = 0)) i) + 1) (Int32.ofNat i + 1)) (fun r => r = Int32.ofNat (cntN (fun t => decide (z.1 8 t = 0)) (z.1 1 2).toInt.toNat)) := fun hp => by
      rw [cnt1 (p := (fun t => decide (z.1 8 t = 0))) hp, oa]
      exact hr _ _ ⟨i + 1, rfl, by omega, rfl⟩ (by omega)
    have no : (fun t => decide (z.1 8 t = 0)) i = false → T (rec (Int32.ofNat (cntN (fun t => decide (z.1 8 t = 0)) i) + 0) (Int32.ofNat i + 1)) (fun r => r = Int32.ofNat (cntN (fun t => decide (z.1 8 t = 0)) (z.1 1 2).toInt.toNat)) := fun hp => by
      rw [oz, cnt0 (p := (fun t => decide (z.1 8 t = 0))) hp, oa]
      exact hr _ _ ⟨i + 1, rfl, by omega, rfl⟩ (by omega)
    refine T_rw (x_isReal k12 (Int32.ofNat i)) ?_
    rw [ei, ci]
    by_cases cr : z.1 8 i = 0
    · refine T_bp ⟨by omega, g, cr⟩ ?_
      exact T_nm (up (by simp [cr]))
    · exact T_bn (fun x => cr x.2.2) (T_nm (no (by simp [cr])))
theorem x_looseOf {z : SS} (k0 : 0 ≤ (z.1 1 2).toInt) (k12 : (z.1 1 2).toInt ≤ 12) (a : Int32) : f_X8_looseOf z a = some (Int32.ofNat (cntN (fun t => decide (z.1 25 t = a) && decide ((z.1 9 t).toInt < 4)) (z.1 1 2).toInt.toNat)) := by
  unfold f_X8_looseOf b_X8_looseOf_4
  refine T_e ?_
  refine T_fx3 (fun l1 l2 l3 => l1 = a ∧ ∃ i : Nat, l3 = Int32.ofNat i ∧ (i : Int) ≤ (z.1 1 2).toInt ∧ l2 = Int32.ofNat (cntN (fun t => decide (z.1 25 t = a) && decide ((z.1 9 t).toInt < 4)) i)) (fun _ _ l3 => (12 - l3.toInt).toNat) ?_ _ _ _ _ ⟨rfl, 0, rfl, by omega, rfl⟩ (by unfold FU; decide)
  rintro rec l1 l2 l3 ⟨rfl, i, rfl, hi, rfl⟩ hr
  have ei : (Int32.ofNat i).toInt = (i : Int) := onI (by omega)
  have ci : (Int32.ofNat i).toNatClampNeg = i := onC (by omega)
  refine T_rw rfl (T_le (fun g => T_some.mpr ?_) (fun g => ?_))
  · have : i = (z.1 1 2).toInt.toNat := by omega
    rw [this]
  · have e2 : (Int32.ofNat (i + 1)).toInt = ((i + 1 : Nat) : Int) := onI (by omega)
    rw [ei] at g
    unfold b_X8_looseOf_37 b_X8_looseOf_38
    have up : (fun t => decide (z.1 25 t = l1) && decide ((z.1 9 t).toInt < 4)) i = true → T (rec l1 (Int32.ofNat (cntN (fun t => decide (z.1 25 t = l1) && decide ((z.1 9 t).toInt < 4)) i) + 1) (Int32.ofNat i + 1)) (fun r => r = Int32.ofNat (cntN (fun t => decide (z.1 25 t = l1) && decide ((z.1 9 t).toInt < 4)) (z.1 1 2).toInt.toNat)) := fun hp => by
      rw [cnt1 (p := (fun t => decide (z.1 25 t = l1) && decide ((z.1 9 t).toInt < 4))) hp, oa]
      exact hr _ _ _ ⟨rfl, i + 1, rfl, by omega, rfl⟩ (by omega)
    have no : (fun t => decide (z.1 25 t = l1) && decide ((z.1 9 t).toInt < 4)) i = false → T (rec l1 (Int32.ofNat (cntN (fun t => decide (z.1 25 t = l1) && decide ((z.1 9 t).toInt < 4)) i) + 0) (Int32.ofNat i + 1)) (fun r => r = Int32.ofNat (cntN (fun t => decide (z.1 25 t = l1) && decide ((z.1 9 t).toInt < 4)) (z.1 1 2).toInt.toNat)) := fun hp => by
      rw [oz, cnt0 (p := (fun t => decide (z.1 25 t = l1) && decide ((z.1 9 t).toInt < 4))) hp, oa]
      exact hr _ _ _ ⟨rfl, i + 1, rfl, by omega, rfl⟩ (by omega)
    have eh := x_holderOf k12 (Int32.ofNat i)
    rw [ei, ci, if_pos ⟨by omega, g⟩] at eh
    refine T_rw eh ?_
    by_cases ch : z.1 25 i = l1
    · refine T_p ch ?_
      refine T_rw (x_isLoose k12 (Int32.ofNat i)) ?_
      rw [ei, ci]
      by_cases cl : (z.1 9 i).toInt < 4
      · refine T_bp (fun _ _ => cl) ?_
        exact T_nm (up (by simp [ch, cl]))
      · exact T_bn (fun x => cl (x (by omega) g)) (T_nm (no (by simp [cl])))
    · exact T_q ch (T_nm (no (by simp [ch])))
theorem x_looseRealsOf {z : SS} (k0 : 0 ≤ (z.1 1 2).toInt) (k12 : (z.1 1 2).toInt ≤ 12) (a : Int32) : f_X8_looseRealsOf z a = some (Int32.ofNat (cntN (fun t => decide (z.1 25 t = a) && decide ((z.1 9 t).toInt < 4) && decide (z.1 8 t = 0)) (z.1 1 2).toInt.toNat)) := by
  unfold f_X8_looseRealsOf b_X8_looseRealsOf_4
  refine T_e ?_
  refine T_fx3 (fun l1 l2 l3 => l1 = a ∧ ∃ i : Nat, l3 = Int32.ofNat i ∧ (i : Int) ≤ (z.1 1 2).toInt ∧ l2 = Int32.ofNat (cntN (fun t => decide (z.1 25 t = a) && decide ((z.1 9 t).toInt < 4) && decide (z.1 8 t = 0)) i)) (fun _ _ l3 => (12 - l3.toInt).toNat) ?_ _ _ _ _ ⟨rfl, 0, rfl, by omega, rfl⟩ (by unfold FU; decide)
  rintro rec l1 l2 l3 ⟨rfl, i, rfl, hi, rfl⟩ hr
  have ei : (Int32.ofNat i).toInt = (i : Int) := onI (by omega)
  have ci : (Int32.ofNat i).toNatClampNeg = i := onC (by omega)
  refine T_rw rfl (T_le (fun g => T_some.mpr ?_) (fun g => ?_))
  · have : i = (z.1 1 2).toInt.toNat := by omega
    rw [this]
  · have e2 : (Int32.ofNat (i + 1)).toInt = ((i + 1 : Nat) : Int) := onI (by omega)
    rw [ei] at g
    unfold b_X8_looseRealsOf_48 b_X8_looseRealsOf_49
    have up : (fun t => decide (z.1 25 t = l1) && decide ((z.1 9 t).toInt < 4) && decide (z.1 8 t = 0)) i = true → T (rec l1 (Int32.ofNat (cntN (fun t => decide (z.1 25 t = l1) && decide ((z.1 9 t).toInt < 4) && decide (z.1 8 t = 0)) i) + 1) (Int32.ofNat i + 1)) (fun r => r = Int32.ofNat (cntN (fun t => decide (z.1 25 t = l1) && decide ((z.1 9 t).toInt < 4) && decide (z.1 8 t = 0)) (z.1 1 2).toInt.toNat)) := fun hp => by
      rw [cnt1 (p := (fun t => decide (z.1 25 t = l1) && decide ((z.1 9 t).toInt < 4) && decide (z.1 8 t = 0))) hp, oa]
      exact hr _ _ _ ⟨rfl, i + 1, rfl, by omega, rfl⟩ (by omega)
    have no : (fun t => decide (z.1 25 t = l1) && decide ((z.1 9 t).toInt < 4) && decide (z.1 8 t = 0)) i = false → T (rec l1 (Int32.ofNat (cntN (fun t => decide (z.1 25 t = l1) && decide ((z.1 9 t).toInt < 4) && decide (z.1 8 t = 0)) i) + 0) (Int32.ofNat i + 1)) (fun r => r = Int32.ofNat (cntN (fun t => decide (z.1 25 t = l1) && decide ((z.1 9 t).toInt < 4) && decide (z.1 8 t = 0)) (z.1 1 2).toInt.toNat)) := fun hp => by
      rw [oz, cnt0 (p := (fun t => decide (z.1 25 t = l1) && decide ((z.1 9 t).toInt < 4) && decide (z.1 8 t = 0))) hp, oa]
      exact hr _ _ _ ⟨rfl, i + 1, rfl, by omega, rfl⟩ (by omega)
    have eh := x_holderOf k12 (Int32.ofNat i)
    rw [ei, ci, if_pos ⟨by omega, g⟩] at eh
    refine T_rw eh ?_
    by_cases ch : z.1 25 i = l1
    · refine T_p ch ?_
      refine T_rw (x_isLoose k12 (Int32.ofNat i)) ?_
      rw [ei, ci]
      by_cases cl : (z.1 9 i).toInt < 4
      · refine T_bp (fun _ _ => cl) ?_
        refine T_rw (x_isReal k12 (Int32.ofNat i)) ?_
        rw [ei, ci]
        by_cases cr : z.1 8 i = 0
        · refine T_bp ⟨by omega, g, cr⟩ ?_
          exact T_nm (up (by simp [ch, cl, cr]))
        · exact T_bn (fun x => cr x.2.2) (T_nm (no (by simp [cr])))
      · exact T_bn (fun x => cl (x (by omega) g)) (T_nm (no (by simp [cl])))
    · exact T_q ch (T_nm (no (by simp [ch])))
theorem x_looseReals {z : SS} (k0 : 0 ≤ (z.1 1 2).toInt) (k12 : (z.1 1 2).toInt ≤ 12) : f_X8_looseReals z = some (Int32.ofNat (cntN (fun t => decide ((z.1 9 t).toInt < 4) && decide (z.1 8 t = 0)) (z.1 1 2).toInt.toNat)) := by
  unfold f_X8_looseReals b_X8_looseReals_4
  refine T_e ?_
  refine T_fx2 (fun l2 l3 => ∃ i : Nat, l3 = Int32.ofNat i ∧ (i : Int) ≤ (z.1 1 2).toInt ∧ l2 = Int32.ofNat (cntN (fun t => decide ((z.1 9 t).toInt < 4) && decide (z.1 8 t = 0)) i)) (fun _ l3 => (12 - l3.toInt).toNat) ?_ _ _ _ ⟨0, rfl, by omega, rfl⟩ (by unfold FU; decide)
  rintro rec l2 l3 ⟨i, rfl, hi, rfl⟩ hr
  have ei : (Int32.ofNat i).toInt = (i : Int) := onI (by omega)
  have ci : (Int32.ofNat i).toNatClampNeg = i := onC (by omega)
  refine T_rw rfl (T_le (fun g => T_some.mpr ?_) (fun g => ?_))
  · have : i = (z.1 1 2).toInt.toNat := by omega
    rw [this]
  · have e2 : (Int32.ofNat (i + 1)).toInt = ((i + 1 : Nat) : Int) := onI (by omega)
    rw [ei] at g
    unfold b_X8_looseReals_39 b_X8_looseReals_40
    have up : (fun t => decide ((z.1 9 t).toInt < 4) && decide (z.1 8 t = 0)) i = true → T (rec (Int32.ofNat (cntN (fun t => decide ((z.1 9 t).toInt < 4) && decide (z.1 8 t = 0)) i) + 1) (Int32.ofNat i + 1)) (fun r => r = Int32.ofNat (cntN (fun t => decide ((z.1 9 t).toInt < 4) && decide (z.1 8 t = 0)) (z.1 1 2).toInt.toNat)) := fun hp => by
      rw [cnt1 (p := (fun t => decide ((z.1 9 t).toInt < 4) && decide (z.1 8 t = 0))) hp, oa]
      exact hr _ _ ⟨i + 1, rfl, by omega, rfl⟩ (by omega)
    have no : (fun t => decide ((z.1 9 t).toInt < 4) && decide (z.1 8 t = 0)) i = false → T (rec (Int32.ofNat (cntN (fun t => decide ((z.1 9 t).toInt < 4) && decide (z.1 8 t = 0)) i) + 0) (Int32.ofNat i + 1)) (fun r => r = Int32.ofNat (cntN (fun t => decide ((z.1 9 t).toInt < 4) && decide (z.1 8 t = 0)) (z.1 1 2).toInt.toNat)) := fun hp => by
      rw [oz, cnt0 (p := (fun t => decide ((z.1 9 t).toInt < 4) && decide (z.1 8 t = 0))) hp, oa]
      exact hr _ _ ⟨i + 1, rfl, by omega, rfl⟩ (by omega)
    refine T_rw (x_isLoose k12 (Int32.ofNat i)) ?_
    rw [ei, ci]
    by_cases cl : (z.1 9 i).toInt < 4
    · refine T_bp (fun _ _ => cl) ?_
      refine T_rw (x_isReal k12 (Int32.ofNat i)) ?_
      rw [ei, ci]
      by_cases cr : z.1 8 i = 0
      · refine T_bp ⟨by omega, g, cr⟩ ?_
        exact T_nm (up (by simp [cl, cr]))
      · exact T_bn (fun x => cr x.2.2) (T_nm (no (by simp [cr])))
    · exact T_bn (fun x => cl (x (by omega) g)) (T_nm (no (by simp [cl])))
theorem m_manyOf {z : SS} (k0 : 0 ≤ (z.1 60 6).toInt) (k12 : (z.1 60 6).toInt ≤ 12) (a : Int32) : f_X12_manyOf z a = some (Int32.ofNat (cntN (fun t => decide (z.1 81 t = a)) (z.1 60 6).toInt.toNat)) := by
  unfold f_X12_manyOf b_X12_manyOf_4
  refine T_e ?_
  refine T_fx3 (fun l1 l2 l3 => l1 = a ∧ ∃ i : Nat, l3 = Int32.ofNat i ∧ (i : Int) ≤ (z.1 60 6).toInt ∧ l2 = Int32.ofNat (cntN (fun t => decide (z.1 81 t = a)) i)) (fun _ _ l3 => (12 - l3.toInt).toNat) ?_ _ _ _ _ ⟨rfl, 0, rfl, by omega, rfl⟩ (by unfold FU; decide)
  rintro rec l1 l2 l3 ⟨rfl, i, rfl, hi, rfl⟩ hr
  have ei : (Int32.ofNat i).toInt = (i : Int) := onI (by omega)
  have ci : (Int32.ofNat i).toNatClampNeg = i := onC (by omega)
  refine T_le (fun g => T_some.mpr ?_) (fun g => T_vp (by omega) (by show (Int32.ofNat i).toInt < 12; omega) ?_)
  · have : i = (z.1 60 6).toInt.toNat := by omega
    rw [this]
  · have e2 : (Int32.ofNat (i + 1)).toInt = ((i + 1 : Nat) : Int) := onI (by omega)
    rw [ei] at g
    unfold b_X12_manyOf_25
    have up : (fun t => decide (z.1 81 t = l1)) i = true → T (rec l1 (Int32.ofNat (cntN (fun t => decide (z.1 81 t = l1)) i) + 1) (Int32.ofNat i + 1)) (fun r => r = Int32.ofNat (cntN (fun t => decide (z.1 81 t = l1)) (z.1 60 6).toInt.toNat)) := fun hp => by
      rw [cnt1 (p := (fun t => decide (z.1 81 t = l1))) hp, oa]
      exact hr _ _ _ ⟨rfl, i + 1, rfl, by omega, rfl⟩ (by omega)
    have no : (fun t => decide (z.1 81 t = l1)) i = false → T (rec l1 (Int32.ofNat (cntN (fun t => decide (z.1 81 t = l1)) i)) (Int32.ofNat i + 1)) (fun r => r = Int32.ofNat (cntN (fun t => decide (z.1 81 t = l1)) (z.1 60 6).toInt.toNat)) := fun hp => by
      rw [cnt0 (p := (fun t => decide (z.1 81 t = l1))) hp, oa]
      exact hr _ _ _ ⟨rfl, i + 1, rfl, by omega, rfl⟩ (by omega)
    rw [ci]
    by_cases ch : z.1 81 i = l1
    · refine T_p ch ?_
      exact up (by simp [ch])
    · exact T_q ch (no (by simp [ch]))
theorem m_realOf {z : SS} (k0 : 0 ≤ (z.1 60 6).toInt) (k12 : (z.1 60 6).toInt ≤ 12) (a : Int32) : f_X12_realOf z a = some (Int32.ofNat (cntN (fun t => decide (z.1 81 t = a) && decide (z.1 66 t = 0)) (z.1 60 6).toInt.toNat)) := by
  unfold f_X12_realOf b_X12_realOf_4
  refine T_e ?_
  refine T_fx3 (fun l1 l2 l3 => l1 = a ∧ ∃ i : Nat, l3 = Int32.ofNat i ∧ (i : Int) ≤ (z.1 60 6).toInt ∧ l2 = Int32.ofNat (cntN (fun t => decide (z.1 81 t = a) && decide (z.1 66 t = 0)) i)) (fun _ _ l3 => (12 - l3.toInt).toNat) ?_ _ _ _ _ ⟨rfl, 0, rfl, by omega, rfl⟩ (by unfold FU; decide)
  rintro rec l1 l2 l3 ⟨rfl, i, rfl, hi, rfl⟩ hr
  have ei : (Int32.ofNat i).toInt = (i : Int) := onI (by omega)
  have ci : (Int32.ofNat i).toNatClampNeg = i := onC (by omega)
  refine T_le (fun g => T_some.mpr ?_) (fun g => T_vp (by omega) (by show (Int32.ofNat i).toInt < 12; omega) ?_)
  · have : i = (z.1 60 6).toInt.toNat := by omega
    rw [this]
  · have e2 : (Int32.ofNat (i + 1)).toInt = ((i + 1 : Nat) : Int) := onI (by omega)
    rw [ei] at g
    unfold b_X12_realOf_34
    have up : (fun t => decide (z.1 81 t = l1) && decide (z.1 66 t = 0)) i = true → T (rec l1 (Int32.ofNat (cntN (fun t => decide (z.1 81 t = l1) && decide (z.1 66 t = 0)) i) + 1) (Int32.ofNat i + 1)) (fun r => r = Int32.ofNat (cntN (fun t => decide (z.1 81 t = l1) && decide (z.1 66 t = 0)) (z.1 60 6).toInt.toNat)) := fun hp => by
      rw [cnt1 (p := (fun t => decide (z.1 81 t = l1) && decide (z.1 66 t = 0))) hp, oa]
      exact hr _ _ _ ⟨rfl, i + 1, rfl, by omega, rfl⟩ (by omega)
    have no : (fun t => decide (z.1 81 t = l1) && decide (z.1 66 t = 0)) i = false → T (rec l1 (Int32.ofNat (cntN (fun t => decide (z.1 81 t = l1) && decide (z.1 66 t = 0)) i)) (Int32.ofNat i + 1)) (fun r => r = Int32.ofNat (cntN (fun t => decide (z.1 81 t = l1) && decide (z.1 66 t = 0)) (z.1 60 6).toInt.toNat)) := fun hp => by
      rw [cnt0 (p := (fun t => decide (z.1 81 t = l1) && decide (z.1 66 t = 0))) hp, oa]
      exact hr _ _ _ ⟨rfl, i + 1, rfl, by omega, rfl⟩ (by omega)
    rw [ci]
    by_cases ch : z.1 81 i = l1
    · refine T_p ch ?_
      refine T_vp (by omega) (by show (Int32.ofNat i).toInt < 12; omega) ?_
      by_cases cr : z.1 66 i = 0
      · refine T_p cr ?_
        exact up (by simp [ch, cr])
      · exact T_q cr (no (by simp [cr]))
    · exact T_q ch (no (by simp [ch]))
theorem m_allReal {z : SS} (k0 : 0 ≤ (z.1 60 6).toInt) (k12 : (z.1 60 6).toInt ≤ 12) : f_X12_allReal z = some (Int32.ofNat (cntN (fun t => decide (z.1 66 t = 0)) (z.1 60 6).toInt.toNat)) := by
  unfold f_X12_allReal b_X12_allReal_4
  refine T_e ?_
  refine T_fx2 (fun l2 l3 => ∃ i : Nat, l3 = Int32.ofNat i ∧ (i : Int) ≤ (z.1 60 6).toInt ∧ l2 = Int32.ofNat (cntN (fun t => decide (z.1 66 t = 0)) i)) (fun _ l3 => (12 - l3.toInt).toNat) ?_ _ _ _ ⟨0, rfl, by omega, rfl⟩ (by unfold FU; decide)
  rintro rec l2 l3 ⟨i, rfl, hi, rfl⟩ hr
  have ei : (Int32.ofNat i).toInt = (i : Int) := onI (by omega)
  have ci : (Int32.ofNat i).toNatClampNeg = i := onC (by omega)
  refine T_le (fun g => T_some.mpr ?_) (fun g => T_vp (by omega) (by show (Int32.ofNat i).toInt < 12; omega) ?_)
  · have : i = (z.1 60 6).toInt.toNat := by omega
    rw [this]
  · have e2 : (Int32.ofNat (i + 1)).toInt = ((i + 1 : Nat) : Int) := onI (by omega)
    rw [ei] at g
    unfold b_X12_allReal_24
    have up : (fun t => decide (z.1 66 t = 0)) i = true → T (rec (Int32.ofNat (cntN (fun t => decide (z.1 66 t = 0)) i) + 1) (Int32.ofNat i + 1)) (fun r => r = Int32.ofNat (cntN (fun t => decide (z.1 66 t = 0)) (z.1 60 6).toInt.toNat)) := fun hp => by
      rw [cnt1 (p := (fun t => decide (z.1 66 t = 0))) hp, oa]
      exact hr _ _ ⟨i + 1, rfl, by omega, rfl⟩ (by omega)
    have no : (fun t => decide (z.1 66 t = 0)) i = false → T (rec (Int32.ofNat (cntN (fun t => decide (z.1 66 t = 0)) i)) (Int32.ofNat i + 1)) (fun r => r = Int32.ofNat (cntN (fun t => decide (z.1 66 t = 0)) (z.1 60 6).toInt.toNat)) := fun hp => by
      rw [cnt0 (p := (fun t => decide (z.1 66 t = 0))) hp, oa]
      exact hr _ _ ⟨i + 1, rfl, by omega, rfl⟩ (by omega)
    rw [ci]
    by_cases cr : z.1 66 i = 0
    · refine T_p cr ?_
      exact up (by simp [cr])
    · exact T_q cr (no (by simp [cr]))
/-! ===== as all stands now: of, share, safe, likeliest, friend ===== -/
def cH (q : SS) (a : Int32) : Nat := cntN (fun t => decide (q.1 65 t = a)) (q.1 60 6).toInt.toNat
def cR (q : SS) (a : Int32) : Nat := cntN (fun t => decide (q.1 65 t = a) && decide (q.1 66 t = 0)) (q.1 60 6).toInt.toNat
def cA (q : SS) : Nat := cntN (fun t => decide (q.1 66 t = 0)) (q.1 60 6).toInt.toNat
theorem K12 {q : SS} (h : RY q) : (q.1 60 6).toInt.toNat ≤ 12 := by
  have := RY_k12 h
  omega
theorem cH_le {q : SS} (h : RY q) (a : Int32) : cH q a ≤ 12 := Nat.le_trans (cntN_le _ _) (K12 h)
theorem cR_le {q : SS} (h : RY q) (a : Int32) : cR q a ≤ 12 := Nat.le_trans (cntN_le _ _) (K12 h)
theorem cA_le {q : SS} (h : RY q) : cA q ≤ 12 := Nat.le_trans (cntN_le _ _) (K12 h)
/-- the class's thought, as all stands now -/
def NWX (q r : SS) : Prop := r.2 = q.2 ∧ (∀ k, k ≠ 25 → r.1 k = q.1 k) ∧ ∀ t : Nat, (t : Int) < (q.1 60 6).toInt → r.1 25 t = q.1 65 t
def NWM (q r : SS) : Prop := r.2 = q.2 ∧ (∀ k, k ≠ 81 → k ≠ 60 → r.1 k = q.1 k) ∧ (∀ i, i ≠ 32 → r.1 60 i = q.1 60 i) ∧ r.1 60 32 = q.1 68 0 ∧ ∀ t : Nat, r.1 81 t = if (t : Int) < (q.1 60 6).toInt then q.1 65 t else q.1 81 t
theorem x_now {q : SS} (h : RY q) : T (f_X11_now q) (NWX q) := by
  unfold f_X11_now
  exact T_b (x_begin h) (fun r hr => T_some.mpr hr)
theorem NWX_I {q r : SS} (h : INV q) (n : NWX q r) : INV r := INV_begin h n.1 n.2.1
theorem NWM_I {q r : SS} (h : INV q) (n : NWM q r) : INV r := INV_lay h n.1 n.2.1 n.2.2.1 n.2.2.2.2
theorem m_now {q : SS} (h : RY q) : T (f_X12_layNow q) (NWM q) := m_layNow (RY_k0 h) (RY_k12 h)
theorem nx_K {q r : SS} (h : RY q) (n : NWX q r) : r.1 1 2 = q.1 60 6 := by rw [n.2.1 1 (by decide)]; exact RY_k h
theorem nx_P {q r : SS} (h : RY q) (n : NWX q r) : r.1 1 1 = q.1 60 1 := by rw [n.2.1 1 (by decide)]; exact RY_p h
theorem nx_heldBy {q r : SS} (h : RY q) (n : NWX q r) (a : Int32) : f_X8_heldBy r a = some (Int32.ofNat (cH q a)) := by
  have eK := nx_K h n
  rw [x_heldBy (by rw [eK]; exact RY_k0 h) (by rw [eK]; exact RY_k12 h), eK]
  unfold cH
  rw [cntN_c (fun t ht => by rw [n.2.2 t (by omega)])]
theorem nx_realsOf {q r : SS} (h : RY q) (n : NWX q r) (a : Int32) : f_X8_realsOf r a = some (Int32.ofNat (cR q a)) := by
  have eK := nx_K h n
  rw [x_realsOf (by rw [eK]; exact RY_k0 h) (by rw [eK]; exact RY_k12 h), eK]
  unfold cR
  rw [cntN_c (fun t ht => by rw [n.2.2 t (by omega), n.2.1 8 (by decide), RY_forged h])]
theorem nx_reals {q r : SS} (h : RY q) (n : NWX q r) : f_X8_reals r = some (Int32.ofNat (cA q)) := by
  have eK := nx_K h n
  rw [x_reals (by rw [eK]; exact RY_k0 h) (by rw [eK]; exact RY_k12 h), eK]
  unfold cA
  rw [cntN_c (fun t ht => by rw [n.2.1 8 (by decide), RY_forged h])]
theorem nm_K {q r : SS} (n : NWM q r) : r.1 60 6 = q.1 60 6 := n.2.2.1 6 (by decide)
theorem nm_P {q r : SS} (n : NWM q r) : r.1 60 1 = q.1 60 1 := n.2.2.1 1 (by decide)
theorem nm_manyOf {q r : SS} (h : RY q) (n : NWM q r) (a : Int32) : f_X12_manyOf r a = some (Int32.ofNat (cH q a)) := by
  have eK := nm_K n
  rw [m_manyOf (by rw [eK]; exact RY_k0 h) (by rw [eK]; exact RY_k12 h), eK]
  unfold cH
  rw [cntN_c (fun t ht => by rw [n.2.2.2.2 t, if_pos (show (t : Int) < (q.1 60 6).toInt by omega)])]
theorem nm_realOf {q r : SS} (h : RY q) (n : NWM q r) (a : Int32) : f_X12_realOf r a = some (Int32.ofNat (cR q a)) := by
  have eK := nm_K n
  rw [m_realOf (by rw [eK]; exact RY_k0 h) (by rw [eK]; exact RY_k12 h), eK]
  unfold cR
  rw [cntN_c (fun t ht => by rw [n.2.2.2.2 t, if_pos (show (t : Int) < (q.1 60 6).toInt by omega), n.2.1 66 (by decide) (by decide)])]
theorem nm_allReal {q r : SS} (h : RY q) (n : NWM q r) : f_X12_allReal r = some (Int32.ofNat (cA q)) := by
  have eK := nm_K n
  rw [m_allReal (by rw [eK]; exact RY_k0 h) (by rw [eK]; exact RY_k12 h), eK]
  unfold cA
  rw [cntN_c (fun t ht => by rw [n.2.1 66 (by decide) (by decide)])]
theorem nx_c {q r : SS} (n : NWX q r) (a : Int32) : cH r a = cH q a ∧ cR r a = cR q a ∧ cA r = cA q := by
  unfold cH cR cA
  rw [n.2.1 65 (by decide), n.2.1 66 (by decide), n.2.1 60 (by decide)]
  exact ⟨rfl, rfl, rfl⟩
theorem x_hasN2 {q : SS} (h : RY q) (w n : Int32) : f_X10_hasNumber q w n = some (bI (okN (q.1 60 1).toInt (q.1 60 6).toInt w.toInt n.toInt)) := x_hasN h w n
theorem op_of {q : SS} (h : INV q) (n w : Int32) : T (f_X11_of q n w) (fun r => T (f_X12_of r.2 n w) (fun s => INV s.2 ∧ r.1 = s.1)) := by
  have hY := INV_RY h
  have p0 := RY_p0 hY
  have k0 := RY_k0 hY
  have m1 : ∀ r, f_X12_in r w 9 10 = some (bI (9 ≤ w.toInt ∧ w.toInt ≤ 10)) := fun r => m_in r w 9 10
  unfold f_X11_of
  have ho : T (b_X11_of_12 q n w) (fun r => T (f_X12_of r.2 n w) (fun s => INV s.2 ∧ r.1 = s.1)) ∨ ¬ (w = 9 ∨ w = 10) := by
    by_cases c : w = 9 ∨ w = 10
    · refine Or.inl ?_
      have c2 : 9 ≤ w.toInt ∧ w.toInt ≤ 10 := by rcases c with rfl | rfl <;> decide
      unfold b_X11_of_12
      refine T_rw (x_isPerson q n) ?_
      rw [RY_p hY]
      refine T_bi (fun g => T_some.mpr ?_) (fun g => ?_)
      · unfold f_X12_of
        exact T_rw (m1 _) (T_bp c2 (T_rw (m_isOne p0 n) (T_bn g (T_some.mpr ⟨h, rfl⟩))))
      · by_cases e : w = 9
        · refine T_p e (T_b (x_now hY) (fun r hr => T_rw (nx_heldBy hY hr n) (T_some.mpr ?_)))
          have hI := NWX_I h hr
          unfold f_X12_of
          refine T_rw (m1 _) (T_bp c2 (T_rw (m_isOne (RY_p0 (INV_RY hI)) n) (T_bp (by rw [hr.2.1 60 (by decide)]; exact g) (T_b (m_now (INV_RY hI)) (fun s hs => T_p e (T_rw (nm_manyOf (INV_RY hI) hs n) (T_some.mpr ⟨NWM_I hI hs, ?_⟩)))))))
          rw [(nx_c hr n).1]
        · refine T_q e (T_b (x_now hY) (fun r hr => T_rw (nx_realsOf hY hr n) (T_some.mpr ?_)))
          have hI := NWX_I h hr
          unfold f_X12_of
          refine T_rw (m1 _) (T_bp c2 (T_rw (m_isOne (RY_p0 (INV_RY hI)) n) (T_bp (by rw [hr.2.1 60 (by decide)]; exact g) (T_b (m_now (INV_RY hI)) (fun s hs => T_q e (T_rw (nm_realOf (INV_RY hI) hs n) (T_some.mpr ⟨NWM_I hI hs, ?_⟩)))))))
          rw [(nx_c hr n).2.1]
    · exact Or.inr c
  by_cases e9 : w = 9
  · exact T_p e9 (ho.resolve_right (fun x => x (Or.inl e9)))
  by_cases e10 : w = 10
  · exact T_q e9 (T_p e10 (ho.resolve_right (fun x => x (Or.inr e10))))
  have nc : ¬ (9 ≤ w.toInt ∧ w.toInt ≤ 10) := by
    have a : w.toInt ≠ 9 := fun x => e9 (Int32.toInt_inj.mp x)
    have b : w.toInt ≠ 10 := fun x => e10 (Int32.toInt_inj.mp x)
    omega
  refine T_q e9 (T_q e10 (T_rw (x_hasN hY w n) (T_bi (fun g => T_some.mpr ?_) (fun g => ?_))))
  · unfold f_X12_of
    exact T_rw (m1 _) (T_bn nc (T_rw (m_isPlace p0 k0 n w) (T_bn g (T_some.mpr ⟨h, rfl⟩))))
  · obtain ⟨v, g1, g2, _⟩ := gv hY g
    refine T_rw g1 (T_some.mpr ?_)
    unfold f_X12_of
    exact T_rw (m1 _) (T_bn nc (T_rw (m_isPlace p0 k0 n w) (T_bp g (T_rw g2 (T_some.mpr ⟨h, rfl⟩)))))
theorem ofN0 {n : Nat} (h : n ≤ 12) : Int32.ofNat n = 0 ↔ n = 0 := by
  rw [← Int32.toInt_inj, onI (by omega)]
  have : (0 : Int32).toInt = 0 := rfl
  omega
theorem op_share {q : SS} (h : INV q) (a v : Int32) : T (f_X11_share q a v) (fun r => T (f_X12_share r.2 a v) (fun s => INV s.2 ∧ r.1 = s.1)) := by
  have hY := INV_RY h
  have p0 := RY_p0 hY
  have m1 : ∀ r, f_X12_in r v 0 9999 = some (bI (0 ≤ v.toInt ∧ v.toInt ≤ 9999)) := fun r => m_in r v 0 9999
  unfold f_X11_share
  refine T_rw (x_isPerson q a) ?_
  rw [RY_p hY]
  refine T_bi (fun g => T_some.mpr ?_) (fun g => ?_)
  · unfold f_X12_share
    exact T_rw (m_isOne p0 a) (T_bn g (T_some.mpr ⟨h, rfl⟩))
  · by_cases c : 0 ≤ v.toInt ∧ v.toInt ≤ 9999
    · refine T_ltn c.1 (T_lep c.2 (T_b (x_now hY) (fun r hr => T_rw (nx_reals hY hr) ?_)))
      have hI := NWX_I h hr
      obtain ⟨e1, e2, e3⟩ := nx_c hr a
      have mod : ∀ {P : Int32 × SS → Prop}, (∀ s, NWM r s → T (if Int32.ofNat (cA r) = 0 then (some ((0 : Int32), s)) else ((f_X12_realOf s a).bind fun r5 => (f_X12_allReal s).bind fun r6 => if r6 = 0 then none else some (((v * r5) / r6), s))) P) → T (f_X12_share r a v) P := by
        intro P k
        unfold f_X12_share
        exact T_rw (m_isOne (RY_p0 (INV_RY hI)) a) (T_bp (by rw [hr.2.1 60 (by decide)]; exact g) (T_rw (m1 _) (T_bp c (T_b (m_now (INV_RY hI)) (fun s hs => T_rw (nm_allReal (INV_RY hI) hs) (k s hs))))))
      by_cases z : Int32.ofNat (cA q) = 0
      · exact T_p z (T_some.mpr (mod (fun s hs => T_p (by rw [e3]; exact z) (T_some.mpr ⟨NWM_I hI hs, rfl⟩))))
      · refine T_q z (T_rw (nx_realsOf hY hr a) (T_q z (T_some.mpr (mod (fun s hs => T_q (by rw [e3]; exact z) (T_rw (nm_realOf (INV_RY hI) hs a) (T_rw (nm_allReal (INV_RY hI) hs) (T_q (by rw [e3]; exact z) (T_some.mpr ⟨NWM_I hI hs, ?_⟩)))))))))
        rw [e2, e3]
    · have key : T (f_X12_share q a v) (fun s => INV s.2 ∧ -1 = s.1) := by
        unfold f_X12_share
        exact T_rw (m_isOne p0 a) (T_bp g (T_rw (m1 _) (T_bn c (T_some.mpr ⟨h, rfl⟩))))
      exact T_lt (fun _ => T_some.mpr key) (fun g => T_le (fun g2 => absurd ⟨g, g2⟩ c) (fun _ => T_some.mpr key))
/-- bits of those of whom nothing counts -/
def sbits (f : Nat → Nat) : Nat → Int32
  | 0 => 0
  | n + 1 => if f n = 0 then sbits f n ||| jshl 1 (Int32.ofNat n) else sbits f n
theorem op_safe {q : SS} (h : INV q) : T (f_X11_safe q) (fun r => T (f_X12_safe r.2) (fun s => INV s.2 ∧ r.1 = s.1)) := by
  have hY := INV_RY h
  have p0 := RY_p0 hY
  have p6 := RY_p6 hY
  unfold f_X11_safe
  refine T_b (x_now hY) (fun r hr => ?_)
  have hI := NWX_I h hr
  have eP := nx_P hY hr
  have hc : ∀ a, cR r a = cR q a := fun a => (nx_c hr a).2.1
  have A : T (b_X11_safe_9 r 0 0) (fun z => z = (sbits (fun i => cR q (Int32.ofNat i)) (q.1 60 1).toInt.toNat, r)) := by
    unfold b_X11_safe_9
    refine T_fx3 (fun z l2 l3 => z = r ∧ ∃ i : Nat, l3 = Int32.ofNat i ∧ (i : Int) ≤ (q.1 60 1).toInt ∧ l2 = sbits (fun i => cR q (Int32.ofNat i)) i) (fun _ _ l3 => (12 - l3.toInt).toNat) ?_ _ _ _ _ ⟨rfl, 0, rfl, by omega, rfl⟩ (by unfold FU; decide)
    rintro rec z l2 l3 ⟨rfl, i, rfl, hi, rfl⟩ hrec
    have ei : (Int32.ofNat i).toInt = (i : Int) := onI (by omega)
    have e2 : (Int32.ofNat (i + 1)).toInt = ((i + 1 : Nat) : Int) := onI (by omega)
    refine T_rw rfl ?_
    rw [eP]
    refine T_le (fun g => T_some.mpr ?_) (fun g => T_rw (nx_realsOf hY hr (Int32.ofNat i)) ?_)
    · have : i = (q.1 60 1).toInt.toNat := by omega
      rw [this]
    · unfold b_X11_safe_34
      rw [oa]
      have cl := cR_le hY (Int32.ofNat i)
      by_cases c : Int32.ofNat (cR q (Int32.ofNat i)) = 0
      · refine T_p c (T_nm (hrec _ _ _ ⟨rfl, i + 1, rfl, by omega, ?_⟩ (by omega)))
        show _ = if cR q (Int32.ofNat i) = 0 then _ else _
        rw [if_pos ((ofN0 cl).mp c)]
      · refine T_q c (hrec _ _ _ ⟨rfl, i + 1, rfl, by omega, ?_⟩ (by omega))
        show _ = if cR q (Int32.ofNat i) = 0 then _ else _
        rw [if_neg (fun x => c ((ofN0 cl).mpr x))]
  refine T_mono A (fun z hz => ?_)
  subst hz
  unfold f_X12_safe
  refine T_b (m_now (INV_RY hI)) (fun s hs => ?_)
  have eP2 : s.1 60 1 = q.1 60 1 := by rw [nm_P hs, hr.2.1 60 (by decide)]
  unfold b_X12_safe_8
  refine T_fx3 (fun z l2 l3 => z = s ∧ ∃ i : Nat, l3 = Int32.ofNat i ∧ (i : Int) ≤ (q.1 60 1).toInt ∧ l2 = sbits (fun i => cR q (Int32.ofNat i)) i) (fun _ _ l3 => (12 - l3.toInt).toNat) ?_ _ _ _ _ ⟨rfl, 0, rfl, by omega, rfl⟩ (by unfold FU; decide)
  rintro rec z l2 l3 ⟨rfl, i, rfl, hi, rfl⟩ hrec
  have ei : (Int32.ofNat i).toInt = (i : Int) := onI (by omega)
  have e2 : (Int32.ofNat (i + 1)).toInt = ((i + 1 : Nat) : Int) := onI (by omega)
  rw [eP2]
  refine T_le (fun g => T_some.mpr ⟨NWM_I hI hs, ?_⟩) (fun g => T_rw (nm_realOf (INV_RY hI) hs (Int32.ofNat i)) ?_)
  · have : i = (q.1 60 1).toInt.toNat := by omega
    rw [this]
  · unfold b_X12_safe_30
    rw [oa, hc]
    have cl := cR_le hY (Int32.ofNat i)
    by_cases c : Int32.ofNat (cR q (Int32.ofNat i)) = 0
    · refine T_p c (T_nm (hrec _ _ _ ⟨rfl, i + 1, rfl, by omega, ?_⟩ (by omega)))
      show _ = if cR q (Int32.ofNat i) = 0 then _ else _
      rw [if_pos ((ofN0 cl).mp c)]
    · refine T_q c (hrec _ _ _ ⟨rfl, i + 1, rfl, by omega, ?_⟩ (by omega))
      show _ = if cR q (Int32.ofNat i) = 0 then _ else _
      rw [if_neg (fun x => c ((ofN0 cl).mpr x))]
/-- who has most, the first of like ones -/
def mst (f : Nat → Nat) : Nat → Nat × Int32
  | 0 => (0, -2)
  | n + 1 => if (mst f n).1 < f n then (f n, Int32.ofNat n) else mst f n
theorem mst_le {f : Nat → Nat} (h : ∀ i, f i ≤ 12) : ∀ n, (mst f n).1 ≤ 12
  | 0 => by show (0 : Nat) ≤ 12; decide
  | n + 1 => by
    show (if (mst f n).1 < f n then (f n, Int32.ofNat n) else mst f n).1 ≤ 12
    split
    · exact h n
    · exact mst_le h n
theorem mst_v {f : Nat → Nat} : ∀ n, ((mst f n).1 = 0 ∧ (mst f n).2 = -2) ∨ (0 < (mst f n).1 ∧ ∃ m, m < n ∧ (mst f n).2 = Int32.ofNat m ∧ (mst f n).1 = f m)
  | 0 => Or.inl ⟨rfl, rfl⟩
  | n + 1 => by
    show (((if (mst f n).1 < f n then (f n, Int32.ofNat n) else mst f n).1 = 0 ∧ (if (mst f n).1 < f n then (f n, Int32.ofNat n) else mst f n).2 = -2) ∨ (0 < (if (mst f n).1 < f n then (f n, Int32.ofNat n) else mst f n).1 ∧ ∃ m, m < n + 1 ∧ (if (mst f n).1 < f n then (f n, Int32.ofNat n) else mst f n).2 = Int32.ofNat m ∧ (if (mst f n).1 < f n then (f n, Int32.ofNat n) else mst f n).1 = f m))
    by_cases c : (mst f n).1 < f n
    · rw [if_pos c]
      exact Or.inr ⟨by show 0 < f n; omega, n, by omega, rfl, rfl⟩
    · rw [if_neg c]
      rcases mst_v n with k | ⟨k1, m, k2, k3, k4⟩
      · exact Or.inl k
      · exact Or.inr ⟨k1, m, by omega, k3, k4⟩
theorem op_likeliest {q : SS} (h : INV q) : T (f_X11_likeliest q) (fun r => T (f_X12_likeliest r.2) (fun s => INV s.2 ∧ r.1 = s.1)) := by
  have hY := INV_RY h
  have p0 := RY_p0 hY
  have p6 := RY_p6 hY
  have hf : ∀ i, (fun i => cR q (Int32.ofNat i)) i ≤ 12 := fun i => cR_le hY _
  unfold f_X11_likeliest
  refine T_b (x_now hY) (fun r hr => ?_)
  have hI := NWX_I h hr
  have eP := nx_P hY hr
  have hc : ∀ a, cR r a = cR q a := fun a => (nx_c hr a).2.1
  have A : T (b_X11_likeliest_13 r 0 (-2) 0) (fun z => z = ((mst (fun i => cR q (Int32.ofNat i)) (q.1 60 1).toInt.toNat).2, r)) := by
    unfold b_X11_likeliest_13
    refine T_fx4 (fun z l2 l3 l4 => z = r ∧ ∃ i : Nat, l4 = Int32.ofNat i ∧ (i : Int) ≤ (q.1 60 1).toInt ∧ l2 = Int32.ofNat (mst (fun i => cR q (Int32.ofNat i)) i).1 ∧ l3 = (mst (fun i => cR q (Int32.ofNat i)) i).2) (fun _ _ _ l4 => (12 - l4.toInt).toNat) ?_ _ _ _ _ _ ⟨rfl, 0, rfl, by omega, rfl, rfl⟩ (by unfold FU; decide)
    rintro rec z l2 l3 l4 ⟨rfl, i, rfl, hi, rfl, rfl⟩ hrec
    have ei : (Int32.ofNat i).toInt = (i : Int) := onI (by omega)
    have e2 : (Int32.ofNat (i + 1)).toInt = ((i + 1 : Nat) : Int) := onI (by omega)
    refine T_rw rfl ?_
    rw [eP]
    have cl := cR_le hY (Int32.ofNat i)
    have ml := mst_le hf i
    refine T_le (fun g => T_some.mpr ?_) (fun g => T_rw (nx_realsOf hY hr (Int32.ofNat i)) ?_)
    · have : i = (q.1 60 1).toInt.toNat := by omega
      rw [this]
    · unfold b_X11_likeliest_45
      rw [oa]
      refine T_le (fun c => hrec _ _ _ _ ⟨rfl, i + 1, rfl, by omega, ?_⟩ (by omega)) (fun c => hrec _ _ _ _ ⟨rfl, i + 1, rfl, by omega, ?_⟩ (by omega))
      · rw [onI (by omega), onI (by omega)] at c
        have e : mst (fun i => cR q (Int32.ofNat i)) (i + 1) = mst (fun i => cR q (Int32.ofNat i)) i := if_neg (by show ¬ _ < cR q (Int32.ofNat i); omega)
        rw [e]
        exact ⟨rfl, rfl⟩
      · rw [onI (by omega), onI (by omega)] at c
        have e : mst (fun i => cR q (Int32.ofNat i)) (i + 1) = (cR q (Int32.ofNat i), Int32.ofNat i) := if_pos (by show _ < cR q (Int32.ofNat i); omega)
        rw [e]
        exact ⟨rfl, rfl⟩
  refine T_mono A (fun z hz => ?_)
  subst hz
  unfold f_X12_likeliest
  refine T_b (m_now (INV_RY hI)) (fun s hs => ?_)
  have eP2 : s.1 60 1 = q.1 60 1 := by rw [nm_P hs, hr.2.1 60 (by decide)]
  unfold b_X12_likeliest_9
  refine T_fx3 (fun z l3 l4 => z = s ∧ ∃ i : Nat, l4 = Int32.ofNat i ∧ (i : Int) ≤ (q.1 60 1).toInt ∧ l3 = (mst (fun i => cR q (Int32.ofNat i)) i).2) (fun _ _ l4 => (12 - l4.toInt).toNat) ?_ _ _ _ _ ⟨rfl, 0, rfl, by omega, rfl⟩ (by unfold FU; decide)
  rintro rec z l3 l4 ⟨rfl, i, rfl, hi, rfl⟩ hrec
  have ei : (Int32.ofNat i).toInt = (i : Int) := onI (by omega)
  have e2 : (Int32.ofNat (i + 1)).toInt = ((i + 1 : Nat) : Int) := onI (by omega)
  rw [eP2]
  have cl := cR_le hY (Int32.ofNat i)
  have ml := mst_le hf i
  have l0 : (0 : Int32).toInt = 0 := rfl
  refine T_le (fun g => T_some.mpr ⟨NWM_I hI hs, ?_⟩) (fun g => T_rw (nm_realOf (INV_RY hI) hs (Int32.ofNat i)) ?_)
  · have : i = (q.1 60 1).toInt.toNat := by omega
    rw [this]
  · unfold b_X12_likeliest_42 b_X12_likeliest_44
    rw [oa, hc]
    have yes : (mst (fun i => cR q (Int32.ofNat i)) i).1 < cR q (Int32.ofNat i) → T (rec z (Int32.ofNat i) (Int32.ofNat (i + 1))) (fun s => INV s.2 ∧ (mst (fun i => cR q (Int32.ofNat i)) (q.1 60 1).toInt.toNat).2 = s.1) := fun c => hrec _ _ _ ⟨rfl, i + 1, rfl, by omega, by
      have e : mst (fun i => cR q (Int32.ofNat i)) (i + 1) = (cR q (Int32.ofNat i), Int32.ofNat i) := if_pos c
      rw [e]⟩ (by omega)
    have no : ¬ (mst (fun i => cR q (Int32.ofNat i)) i).1 < cR q (Int32.ofNat i) → T (rec z (mst (fun i => cR q (Int32.ofNat i)) i).2 (Int32.ofNat (i + 1))) (fun s => INV s.2 ∧ (mst (fun i => cR q (Int32.ofNat i)) (q.1 60 1).toInt.toNat).2 = s.1) := fun c => hrec _ _ _ ⟨rfl, i + 1, rfl, by omega, by
      have e : mst (fun i => cR q (Int32.ofNat i)) (i + 1) = mst (fun i => cR q (Int32.ofNat i)) i := if_neg c
      rw [e]⟩ (by omega)
    refine T_le (fun c => no ?_) (fun c => ?_)
    · rw [onI (by omega)] at c
      omega
    · rw [onI (by omega)] at c
      rcases mst_v (f := fun i => cR q (Int32.ofNat i)) i with ⟨k1, k2⟩ | ⟨k1, m, k2, k3, k4⟩
      · refine T_ltp (by rw [k2]; decide) (yes (by omega))
      · refine T_ltn (by rw [k3, onI (by omega)]; omega) (T_rw (nm_realOf (INV_RY hI) hs (Int32.ofNat i)) (T_rw (nm_realOf (INV_RY hI) hs _) ?_))
        rw [hc, hc, k3]
        have cm := cR_le hY (Int32.ofNat m)
        have k4' : (mst (fun i => cR q (Int32.ofNat i)) i).1 = cR q (Int32.ofNat m) := k4
        rw [k3] at no
        refine T_le (fun d => no ?_) (fun d => yes ?_)
        · rw [onI (by omega), onI (by omega)] at d
          omega
        · rw [onI (by omega), onI (by omega)] at d
          omega
/-! ===== lowest terms; king ===== -/
theorem ldivT {x y : Int64} (hx : 0 ≤ x.toInt) (hy : 0 < y.toInt) : (x / y).toInt = x.toInt / y.toInt := by
  rw [Int64.toInt_div_of_ne_right _ _ (by rintro rfl; exact absurd hy (by decide))]
  exact Int.tdiv_eq_ediv_of_nonneg hx
theorem lremT {x y : Int64} (hx : 0 ≤ x.toInt) (hy : 0 < y.toInt) : (jlrem x y).toInt = x.toInt % y.toInt := by
  have e := ldivT hx hy
  have hb : x.toInt < 9223372036854775808 := Int64.toInt_lt x
  have h1 : x.toInt / y.toInt * y.toInt ≤ x.toInt := Int.ediv_mul_le _ (by omega)
  have h0 : 0 ≤ x.toInt / y.toInt * y.toInt := Int.mul_nonneg (Int.ediv_nonneg hx (by omega)) (by omega)
  have e1 : (x / y * y).toInt = x.toInt / y.toInt * y.toInt := by rw [lmul (by rw [e]; omega) (by rw [e]; omega), e]
  show (x - x / y * y).toInt = _
  rw [Int64.toInt_sub, e1, Int.bmod_eq_of_le (by omega) (by omega)]
  have := Int.emod_add_ediv_mul x.toInt y.toInt
  omega
theorem z64 : (0 : Int64).toInt = 0 := rfl
theorem eq64 {x : Int64} : x = 0 ↔ x.toInt = 0 := by
  rw [← Int64.toInt_inj]
  rfl
/-- the greatest that divides both -/
def gI (x y : Int64) : Nat := Nat.gcd x.toInt.toNat y.toInt.toNat
theorem gI_s {x y : Int64} (hx : 0 ≤ x.toInt) (hy : 0 < y.toInt) : gI y (jlrem x y) = gI x y := by
  unfold gI
  rw [lremT hx hy]
  have e : (x.toInt % y.toInt).toNat = x.toInt.toNat % y.toInt.toNat := Int.toNat_emod hx (by omega)
  rw [e, Nat.gcd_comm x.toInt.toNat, Nat.gcd_rec y.toInt.toNat x.toInt.toNat, Nat.gcd_comm]
/-- how many steps at most -/
def mu (x y : Nat) : Nat := if y = 0 then 0 else 1 + Nat.log2 x + Nat.log2 y + (if x < y then 1 else 0)
theorem lg_half {a b : Nat} (ha : a ≠ 0) (h : 2 * a ≤ b) : Nat.log2 a + 1 ≤ Nat.log2 b := by
  rw [Nat.le_log2 (by omega), Nat.pow_succ]
  have : 2 ^ Nat.log2 a ≤ a := (Nat.le_log2 ha).mp (Nat.le_refl _)
  omega
theorem mu_s {x y : Nat} (hy : y ≠ 0) : mu y (x % y) < mu x y := by
  unfold mu
  rw [if_neg hy]
  by_cases h0 : x % y = 0
  · rw [if_pos h0]
    omega
  · have hlt := Nat.mod_lt x (by omega : 0 < y)
    rw [if_neg h0, if_neg (by omega)]
    by_cases h : x < y
    · rw [Nat.mod_eq_of_lt h, if_pos h]
      omega
    · rw [if_neg h]
      have h2 : 2 * (x % y) ≤ x := by
        have e := Nat.mod_add_div x y
        have hd : 1 ≤ x / y := Nat.div_pos (by omega) (by omega)
        have : y * 1 ≤ y * (x / y) := Nat.mul_le_mul_left y hd
        omega
      have := lg_half h0 h2
      omega
theorem mu_b {x y : Nat} (hx : x < 2 ^ 63) (hy : y < 2 ^ 63) : mu x y ≤ 130 := by
  have l : ∀ n : Nat, n < 2 ^ 63 → Nat.log2 n ≤ 63 := fun n hn => by
    by_cases h : n = 0
    · subst h; decide
    · have := (Nat.log2_lt h).mpr hn
      omega
  have := l x hx
  have := l y hy
  unfold mu
  split
  · omega
  · split <;> omega
def mI (x y : Int64) : Nat := mu x.toInt.toNat y.toInt.toNat
theorem mI_s {x y : Int64} (hx : 0 ≤ x.toInt) (hy : 0 < y.toInt) : mI y (jlrem x y) < mI x y := by
  unfold mI
  rw [lremT hx hy, Int.toNat_emod hx (by omega)]
  exact mu_s (by omega)
theorem mI_b (x y : Int64) : mI x y ≤ 130 := by
  have h1 : x.toInt < 9223372036854775808 := Int64.toInt_lt x
  have h2 : y.toInt < 9223372036854775808 := Int64.toInt_lt y
  exact mu_b (by omega) (by omega)
theorem gI_0 {x y : Int64} (hx : 0 ≤ x.toInt) (hy : y.toInt = 0) : x.toInt = (gI x y : Int) := by
  unfold gI
  rw [hy]
  show _ = ((Nat.gcd x.toInt.toNat 0 : Nat) : Int)
  rw [Nat.gcd_zero_right]
  omega
theorem gI_p {a b : Int64} (ha : 0 ≤ a.toInt) (hb : 0 ≤ b.toInt) (hab : ¬ (a.toInt = 0 ∧ b.toInt = 0)) : gI a b ≠ 0 := by
  unfold gI
  intro x
  have := Nat.eq_zero_of_gcd_eq_zero_left x
  have := Nat.eq_zero_of_gcd_eq_zero_right x
  omega
theorem m_low {q : SS} {a b : Int64} (ha : 0 ≤ a.toInt) (hb : 0 ≤ b.toInt) (hab : ¬ (a.toInt = 0 ∧ b.toInt = 0)) (p : Int32) : T (b_X12_lowest_16 q a b p a b) (fun r => ∃ g : Int64, g.toInt = (gI a b : Int) ∧ r = (if p = 0 then a / g else b / g)) := by
  have g0 := gI_p ha hb hab
  unfold b_X12_lowest_16
  refine T_fx5 (fun l0 l2 l4 l5 l7 => l0 = a ∧ l2 = b ∧ l4 = p ∧ 0 ≤ l5.toInt ∧ 0 ≤ l7.toInt ∧ gI l5 l7 = gI a b) (fun _ _ _ l5 l7 => mI l5 l7) ?_ _ _ _ _ _ _ ⟨rfl, rfl, rfl, ha, hb, rfl⟩ (by have := mI_b a b; unfold FU; omega)
  rintro rec l0 l2 l4 l5 l7 ⟨rfl, rfl, rfl, h5, h7, hg⟩ hr
  by_cases z : l7 = 0
  · have z7 := eq64.mp z
    have e5 : l5.toInt = (gI l0 l2 : Int) := by rw [← hg]; exact gI_0 h5 z7
    have n5 : ¬ l5 = 0 := fun x => by rw [eq64] at x; omega
    refine T_p (lgc_z.mpr z) ?_
    by_cases c : l4 = 0
    · exact T_p c (T_n n5 (T_some.mpr ⟨l5, e5, by rw [if_pos c]⟩))
    · exact T_q c (T_n n5 (T_some.mpr ⟨l5, e5, by rw [if_neg c]⟩))
  · have p7 : 0 < l7.toInt := by
      have : l7.toInt ≠ 0 := fun x => z (eq64.mpr x)
      omega
    refine T_q (fun x => z (lgc_z.mp x)) (T_n z (T_nm (hr _ _ _ _ _ ⟨rfl, rfl, rfl, h7, ?_, (gI_s h5 p7).trans hg⟩ (mI_s h5 p7))))
    rw [lremT h5 p7]
    exact Int.emod_nonneg _ (by omega)
theorem x_low2 {q : SS} {a b : Int64} (ha : 0 < a.toInt) (hb : 0 < b.toInt) (p : Int32) : T (b_X11_partOf_25 q a b p b a 0) (fun r => ∃ g : Int64, g.toInt = (gI a b : Int) ∧ r = (if p = 0 then a / g else b / g)) := by
  have g0 := gI_p (a := a) (b := b) (by omega) (by omega) (by omega)
  have l200 : (200 : Int32).toInt = 200 := rfl
  have l0' : (0 : Int32).toInt = 0 := rfl
  unfold b_X11_partOf_25
  refine T_fx6 (fun l0 l2 l4 l5 l7 l9 => l0 = a ∧ l2 = b ∧ l4 = p ∧ 0 ≤ l5.toInt ∧ 0 ≤ l7.toInt ∧ gI l5 l7 = gI a b ∧ 0 ≤ l9.toInt ∧ l9.toInt + (mI l5 l7 : Int) ≤ 130) (fun _ _ _ l5 l7 _ => mI l5 l7) ?_ _ _ _ _ _ _ _ ⟨rfl, rfl, rfl, by omega, by omega, by unfold gI; exact Nat.gcd_comm _ _, by omega, by have := mI_b b a; omega⟩ (by have := mI_b b a; unfold FU; omega)
  rintro rec l0 l2 l4 l5 l7 l9 ⟨rfl, rfl, rfl, h5, h7, hg, h9, hm⟩ hr
  refine T_len (by omega) ?_
  by_cases z : l7 = 0
  · have z7 := eq64.mp z
    have e5 : l5.toInt = (gI l0 l2 : Int) := by rw [← hg]; exact gI_0 h5 z7
    have n5 : ¬ l5 = 0 := fun x => by rw [eq64] at x; omega
    refine T_p (lgc_z.mpr z) ?_
    unfold b_X11_partOf_61
    refine T_q (fun x => n5 (lgc_z.mp x)) ?_
    by_cases c : l4 = 0
    · exact T_p c (T_n n5 (T_some.mpr ⟨l5, e5, by rw [if_pos c]⟩))
    · exact T_q c (T_n n5 (T_some.mpr ⟨l5, e5, by rw [if_neg c]⟩))
  · have p7 : 0 < l7.toInt := by
      have : l7.toInt ≠ 0 := fun x => z (eq64.mpr x)
      omega
    have ms := mI_s h5 p7
    have e9 := inc1 (a := l9) (by omega) (by omega)
    refine T_q (fun x => z (lgc_z.mp x)) (T_n z (T_nm (hr _ _ _ _ _ _ ⟨rfl, rfl, rfl, h7, ?_, (gI_s h5 p7).trans hg, by omega, by omega⟩ ms)))
    rw [lremT h5 p7]
    exact Int.emod_nonneg _ (by omega)
/-- a fraction in lowest terms, on both sides -/
theorem low_eq {q r : SS} {a b : Int64} (ha : 0 ≤ a.toInt) (hb : 0 ≤ b.toInt) (hab : b.toInt = 0 → a.toInt = 0) (p : Int32) : ∃ v : Int64, f_X11_partOf q a b p = some v ∧ f_X12_lowest r a b p = some v := by
  unfold f_X11_partOf f_X12_lowest
  by_cases z : a = 0
  · exact ⟨p.toInt64, by rw [if_pos (lgc_z.mpr z)], by rw [if_pos (lgc_z.mpr z)]⟩
  · have na : a.toInt ≠ 0 := fun x => z (eq64.mpr x)
    have nb : b.toInt ≠ 0 := fun x => na (hab x)
    have z2 : ¬ b = 0 := fun x => nb (eq64.mp x)
    rw [if_neg (fun x => z (lgc_z.mp x)), if_neg (fun x => z2 (lgc_z.mp x)), if_neg (fun x => z (lgc_z.mp x))]
    obtain ⟨v, h1, g, h2, h3⟩ := x_low2 (q := q) (a := a) (b := b) (by omega) (by omega) p
    obtain ⟨w, k1, g', k2, k3⟩ := m_low (q := r) ha hb (fun x => na x.1) p
    have e : g = g' := Int64.toInt_inj.mp (h2.trans k2.symm)
    exact ⟨v, h1, by rw [k1, k3, h3, e]⟩
theorem isPart_x (q : SS) (p : Int32) : f_X11_isPart q p = some (bI (0 ≤ p.toInt ∧ p.toInt ≤ 1)) := by
  unfold f_X11_isPart b_X11_isPart_9
  have l1 : (1 : Int32).toInt = 1 := rfl
  by_cases h0 : p = 0
  · rw [if_pos h0, h0]
    rfl
  · by_cases h1 : p = 1
    · rw [if_neg h0, if_pos h1, h1]
      rfl
    · rw [if_neg h0, if_neg h1]
      have a : p.toInt ≠ 0 := fun x => h0 (eq0.mpr x)
      have b : p.toInt ≠ 1 := fun x => h1 (Int32.toInt_inj.mp x)
      unfold bI
      rw [if_neg (by omega)]
theorem cR_A (q : SS) (a : Int32) : cR q a ≤ cA q := by
  unfold cR cA
  generalize (q.1 60 6).toInt.toNat = n
  induction n with
  | zero => exact Nat.le_refl _
  | succ n ih =>
    show cntN _ n + (if _ then 1 else 0) ≤ cntN _ n + (if _ then 1 else 0)
    by_cases h : decide (q.1 66 n = 0) = true
    · rw [if_pos h]
      split <;> omega
    · rw [if_neg h, if_neg (by rw [Bool.and_eq_true]; exact fun x => h x.2)]
      omega
theorem op_king {q : SS} (h : INV q) (a p : Int32) : T (f_X11_king q a p) (fun r => T (f_X12_king r.2 a p) (fun s => INV s.2 ∧ r.1 = s.1)) := by
  have hY := INV_RY h
  have p0 := RY_p0 hY
  have m1 : ∀ r, f_X12_in r p 0 1 = some (bI (0 ≤ p.toInt ∧ p.toInt ≤ 1)) := fun r => m_in r p 0 1
  unfold f_X11_king
  refine T_rw (x_isPerson q a) ?_
  rw [RY_p hY]
  refine T_bi (fun g => T_some.mpr ?_) (fun g => T_rw (isPart_x q p) (T_bi (fun c => T_some.mpr ?_) (fun c => T_b (x_now hY) (fun r hr => T_rw (nx_realsOf hY hr a) (T_rw (nx_reals hY hr) ?_)))))
  · unfold f_X12_king
    exact T_rw (m_isOne p0 a) (T_bn g (T_some.mpr ⟨h, rfl⟩))
  · unfold f_X12_king
    exact T_rw (m_isOne p0 a) (T_bp g (T_rw (m1 _) (T_bn c (T_some.mpr ⟨h, rfl⟩))))
  · have hI := NWX_I h hr
    obtain ⟨_, e2, e3⟩ := nx_c hr a
    have l1 := cR_le hY a
    have l2 := cA_le hY
    have l3 := cR_A q a
    have i1 : (Int32.ofNat (cR q a)).toInt64.toInt = (cR q a : Int) := by rw [i64, onI (by omega)]
    have i2 : (Int32.ofNat (cA q)).toInt64.toInt = (cA q : Int) := by rw [i64, onI (by omega)]
    unfold f_X12_king
    obtain ⟨v, hx, -⟩ := low_eq (q := r) (r := r) (a := (Int32.ofNat (cR q a)).toInt64) (b := (Int32.ofNat (cA q)).toInt64) (by omega) (by omega) (by omega) p
    refine T_rw hx (T_some.mpr (T_rw (m_isOne (RY_p0 (INV_RY hI)) a) (T_bp (by rw [hr.2.1 60 (by decide)]; exact g) (T_rw (m1 _) (T_bp c (T_b (m_now (INV_RY hI)) (fun s hs => T_rw (nm_realOf (INV_RY hI) hs a) (T_rw (nm_allReal (INV_RY hI) hs) ?_))))))))
    rw [e2, e3]
    obtain ⟨w, hx2, hm⟩ := low_eq (q := r) (r := s) (a := (Int32.ofNat (cR q a)).toInt64) (b := (Int32.ofNat (cA q)).toInt64) (by omega) (by omega) (by omega) p
    exact T_rw hm (T_some.mpr ⟨NWM_I hI hs, Option.some.inj (hx.symm.trans hx2)⟩)
/-! ===== friend ===== -/
def cL (q : SS) : Nat := cntN (fun t => decide ((q.1 67 t).toInt < 4) && decide (q.1 66 t = 0)) (q.1 60 6).toInt.toNat
def cO (q : SS) (a : Int32) : Nat := cntN (fun t => decide (q.1 65 t = a) && decide ((q.1 67 t).toInt < 4) && decide (q.1 66 t = 0)) (q.1 60 6).toInt.toNat
def cF (q : SS) (a : Int32) : Nat := cntN (fun t => decide (q.1 66 t = 0) && (decide (q.1 67 t ≠ 4) && decide (q.1 65 t ≠ a))) (q.1 60 6).toInt.toNat
theorem cntN_s {p r s : Nat → Bool} : ∀ n, (∀ i, i < n → (p i = true ↔ (r i = true ∨ s i = true)) ∧ ¬ (r i = true ∧ s i = true)) → cntN p n = cntN r n + cntN s n
  | 0, _ => rfl
  | n + 1, h => by
    have ih := cntN_s n (fun i hi => h i (by omega))
    obtain ⟨h1, h2⟩ := h n (by omega)
    show cntN p n + (if p n = true then 1 else 0) = (cntN r n + (if r n = true then 1 else 0)) + (cntN s n + (if s n = true then 1 else 0))
    rw [ih]
    by_cases a : r n = true
    · by_cases b : s n = true
      · exact absurd ⟨a, b⟩ h2
      · rw [if_pos (h1.mpr (Or.inl a)), if_pos a, if_neg b]
        omega
    · by_cases b : s n = true
      · rw [if_pos (h1.mpr (Or.inr b)), if_neg a, if_pos b]
        omega
      · rw [if_neg (fun x => (h1.mp x).elim a b), if_neg a, if_neg b]
        omega
theorem f4 {v : Int32} (h : v.toInt ≤ 4) : v.toInt < 4 ↔ v ≠ 4 := by
  constructor
  · rintro g rfl
    exact absurd g (by decide)
  · intro g
    have : v.toInt ≠ 4 := fun k => g (Int32.toInt_inj.mp k)
    omega
theorem cL_s {q : SS} (h : RY q) (a : Int32) : cL q = cO q a + cF q a := by
  unfold cL cO cF
  refine cntN_s _ (fun i hi => ?_)
  have r := RY_rfolds h i (by omega)
  have e := f4 r.2
  simp only [Bool.and_eq_true, decide_eq_true_eq]
  rw [e]
  by_cases x : q.1 65 i = a
  · simp [x]
  · simp [x]
    exact ⟨fun y => ⟨y.2, y.1⟩, fun y => ⟨y.2, y.1⟩⟩
theorem nx_looseReals {q r : SS} (h : RY q) (n : NWX q r) : f_X8_looseReals r = some (Int32.ofNat (cL q)) := by
  have eK := nx_K h n
  rw [x_looseReals (by rw [eK]; exact RY_k0 h) (by rw [eK]; exact RY_k12 h), eK]
  unfold cL
  rw [cntN_c (fun t ht => by rw [n.2.1 8 (by decide), n.2.1 9 (by decide), RY_forged h, RY_folds h])]
theorem nx_looseRealsOf {q r : SS} (h : RY q) (n : NWX q r) (a : Int32) : f_X8_looseRealsOf r a = some (Int32.ofNat (cO q a)) := by
  have eK := nx_K h n
  rw [x_looseRealsOf (by rw [eK]; exact RY_k0 h) (by rw [eK]; exact RY_k12 h), eK]
  unfold cO
  rw [cntN_c (fun t ht => by rw [n.2.2 t (by omega), n.2.1 8 (by decide), n.2.1 9 (by decide), RY_forged h, RY_folds h])]
/-- the first that is enough, of 0 to most -/
def fst12 (w x al most : Nat) (r : Int32) : Prop := (∃ n : Nat, r = Int32.ofNat n ∧ n ≤ most ∧ x * al ≤ 12 * (w + n) ∧ ∀ m, m < n → ¬ x * al ≤ 12 * (w + m)) ∨ (r = -2 ∧ ∀ m, m ≤ most → ¬ x * al ≤ 12 * (w + m))
theorem fst12_u {w x al most : Nat} (hm : most ≤ 12) {r s : Int32} (h : fst12 w x al most r) (g : fst12 w x al most s) : r = s := by
  rcases h with ⟨n, rfl, h1, h2, h3⟩ | ⟨rfl, h1⟩
  · rcases g with ⟨m, rfl, g1, g2, g3⟩ | ⟨rfl, g1⟩
    · have : n = m := by
        rcases Nat.lt_trichotomy n m with k | k | k
        · exact absurd h2 (g3 n k)
        · exact k
        · exact absurd g2 (h3 m k)
      rw [this]
    · exact absurd h2 (g1 n h1)
  · rcases g with ⟨m, rfl, g1, g2, g3⟩ | ⟨rfl, g1⟩
    · exact absurd g2 (h1 m g1)
    · rfl
theorem mulN {a b : Nat} (h : a * b < 2000000000) (ha : a < 2000000000) (hb : b < 2000000000) : (Int32.ofNat a * Int32.ofNat b).toInt = ((a * b : Nat) : Int) := by
  have e : ((a * b : Nat) : Int) = (a : Int) * (b : Int) := Int.natCast_mul a b
  rw [tmul (by rw [onI ha, onI hb, ← e]; omega) (by rw [onI ha, onI hb, ← e]; omega), onI ha, onI hb, e]
theorem x_fr {r : SS} {w al most : Nat} {x : Int32} (hx : 0 ≤ x.toInt ∧ x.toInt ≤ 12) (hw : w ≤ 12) (ha : al ≤ 12) (hm : most ≤ 12) : T (b_X11_friend_89 r x (Int32.ofNat al) (Int32.ofNat w) (Int32.ofNat most) 0) (fun z => fst12 w x.toInt.toNat al most z.1 ∧ z.2 = r) := by
  have ex : x = Int32.ofNat x.toInt.toNat := (Int32.ofNat_toNatClampNeg x (Int32.le_iff_toInt_le.mpr hx.1)).symm
  generalize hX : x.toInt.toNat = X at *
  have hX12 : X ≤ 12 := by omega
  subst ex
  have hxa : X * al ≤ 144 := Nat.mul_le_mul hX12 ha
  unfold b_X11_friend_89
  refine T_fx6 (fun z l2 l4 l5 l6 l7 => z = r ∧ l2 = Int32.ofNat X ∧ l4 = Int32.ofNat al ∧ l5 = Int32.ofNat w ∧ l6 = Int32.ofNat most ∧ ∃ n : Nat, l7 = Int32.ofNat n ∧ n ≤ most + 1 ∧ ∀ m, m < n → ¬ X * al ≤ 12 * (w + m)) (fun _ _ _ _ _ l7 => (20 - l7.toInt).toNat) ?_ _ _ _ _ _ _ _ ⟨rfl, rfl, rfl, rfl, rfl, 0, rfl, by omega, fun m hm => absurd hm (by omega)⟩ (by unfold FU; decide)
  rintro rec z l2 l4 l5 l6 l7 ⟨rfl, rfl, rfl, rfl, rfl, n, rfl, hn, hno⟩ hr
  have e1 : (Int32.ofNat n).toInt = (n : Int) := onI (by omega)
  have e2 : (Int32.ofNat most).toInt = (most : Int) := onI (by omega)
  have e3 : (Int32.ofNat (n + 1)).toInt = ((n + 1 : Nat) : Int) := onI (by omega)
  have e4 : (12 : Int32) * (Int32.ofNat w + Int32.ofNat n) = Int32.ofNat 12 * Int32.ofNat (w + n) := by rw [Int32.ofNat_add]; rfl
  have e5 : (Int32.ofNat 12 * Int32.ofNat (w + n)).toInt = ((12 * (w + n) : Nat) : Int) := mulN (by omega) (by omega) (by omega)
  have e6 : (Int32.ofNat X * Int32.ofNat al).toInt = ((X * al : Nat) : Int) := mulN (by omega) (by omega) (by omega)
  refine T_lt (fun g => T_some.mpr ⟨Or.inr ⟨rfl, fun m hm => hno m (by omega)⟩, rfl⟩) (fun g => ?_)
  rw [e4]
  refine T_lt (fun g2 => ?_) (fun g2 => T_some.mpr ⟨Or.inl ⟨n, rfl, by omega, by omega, hno⟩, rfl⟩)
  rw [oa]
  refine hr _ _ _ _ _ _ ⟨rfl, rfl, rfl, rfl, rfl, n + 1, rfl, by omega, fun m hm => ?_⟩ (by omega)
  by_cases e : m = n
  · subst e; omega
  · exact hno m (by omega)
theorem m_fr {q s : SS} (h : RY q) (n : NWM q s) {a x : Int32} {most al : Nat} (hx : 0 ≤ x.toInt ∧ x.toInt ≤ 12) (ha : al ≤ 12) (hm : most ≤ 12) : T (b_X12_friend_91 s a x (Int32.ofNat al) (Int32.ofNat most) 0) (fun z => fst12 (cR q a) x.toInt.toNat al most z.1 ∧ z.2 = s) := by
  have hw := cR_le h a
  have nr := nm_realOf h n a
  generalize cR q a = w at *
  have ex : x = Int32.ofNat x.toInt.toNat := (Int32.ofNat_toNatClampNeg x (Int32.le_iff_toInt_le.mpr hx.1)).symm
  generalize hX : x.toInt.toNat = X at *
  have hX12 : X ≤ 12 := by omega
  subst ex
  have hxa : X * al ≤ 144 := Nat.mul_le_mul hX12 ha
  unfold b_X12_friend_91
  refine T_fx6 (fun z l1 l2 l3 l4 l5 => z = s ∧ l1 = a ∧ l2 = Int32.ofNat X ∧ l3 = Int32.ofNat al ∧ l4 = Int32.ofNat most ∧ ∃ n : Nat, l5 = Int32.ofNat n ∧ n ≤ most + 1 ∧ ∀ m, m < n → ¬ X * al ≤ 12 * (w + m)) (fun _ _ _ _ _ l5 => (20 - l5.toInt).toNat) ?_ _ _ _ _ _ _ _ ⟨rfl, rfl, rfl, rfl, rfl, 0, rfl, by omega, fun m hm => absurd hm (by omega)⟩ (by unfold FU; decide)
  rintro rec z l1 l2 l3 l4 l5 ⟨rfl, rfl, rfl, rfl, rfl, n, rfl, hn, hno⟩ hr
  have e1 : (Int32.ofNat n).toInt = (n : Int) := onI (by omega)
  have e2 : (Int32.ofNat most).toInt = (most : Int) := onI (by omega)
  have e3 : (Int32.ofNat (n + 1)).toInt = ((n + 1 : Nat) : Int) := onI (by omega)
  have e4 : (12 : Int32) * (Int32.ofNat w + Int32.ofNat n) = Int32.ofNat 12 * Int32.ofNat (w + n) := by rw [Int32.ofNat_add]; rfl
  have e5 : (Int32.ofNat 12 * Int32.ofNat (w + n)).toInt = ((12 * (w + n) : Nat) : Int) := mulN (by omega) (by omega) (by omega)
  have e6 : (Int32.ofNat X * Int32.ofNat al).toInt = ((X * al : Nat) : Int) := mulN (by omega) (by omega) (by omega)
  refine T_lt (fun g => T_some.mpr ⟨Or.inr ⟨rfl, fun m hm => hno m (by omega)⟩, rfl⟩) (fun g => T_rw nr ?_)
  rw [e4]
  refine T_lt (fun g2 => ?_) (fun g2 => T_some.mpr ⟨Or.inl ⟨n, rfl, by omega, by omega, hno⟩, rfl⟩)
  rw [oa]
  refine hr _ _ _ _ _ _ ⟨rfl, rfl, rfl, rfl, rfl, n + 1, rfl, by omega, fun m hm => ?_⟩ (by omega)
  by_cases e : m = n
  · subst e; omega
  · exact hno m (by omega)
theorem m_fc {q s : SS} (h : RY q) (n : NWM q s) {a x : Int32} (ha : 0 ≤ a.toInt ∧ a.toInt < (q.1 60 1).toInt) {al : Nat} {P : Int32 × SS → Prop} (k : T (b_X12_friend_91 s a x (Int32.ofNat al) (Int32.ofNat (if q.1 62 a.toNatClampNeg = 0 then cF q a else 0)) 0) P) : T (b_X12_friend_50 s a x (Int32.ofNat al) 0 0) P := by
  have p6 := RY_p6 h
  have k12 := RY_k12 h
  have k0 := RY_k0 h
  let p : Nat → Bool := fun t => decide (q.1 62 a.toNatClampNeg = 0) && (decide (q.1 66 t = 0) && (decide (q.1 67 t ≠ 4) && decide (q.1 65 t ≠ a)))
  have ep : cntN p (q.1 60 6).toInt.toNat = (if q.1 62 a.toNatClampNeg = 0 then cF q a else 0) := by
    by_cases c : q.1 62 a.toNatClampNeg = 0
    · rw [if_pos c]
      unfold cF
      refine cntN_c (fun i _ => ?_)
      show (decide (q.1 62 a.toNatClampNeg = 0) && _) = _
      rw [decide_eq_true c, Bool.true_and]
    · rw [if_neg c]
      have : ∀ m, cntN p m = 0 := by
        intro m
        induction m with
        | zero => rfl
        | succ m ih =>
          show cntN p m + (if p m = true then 1 else 0) = 0
          have : p m = false := by
            show (decide (q.1 62 a.toNatClampNeg = 0) && _) = false
            rw [decide_eq_false c, Bool.false_and]
          rw [ih, this]
          rfl
      exact this _
  rw [← ep] at k
  unfold b_X12_friend_50
  refine T_fx6 (fun z l1 l2 l3 l4 l5 => z = s ∧ l1 = a ∧ l2 = x ∧ l3 = Int32.ofNat al ∧ ∃ i : Nat, l5 = Int32.ofNat i ∧ (i : Int) ≤ (q.1 60 6).toInt ∧ l4 = Int32.ofNat (cntN p i)) (fun _ _ _ _ _ l5 => (12 - l5.toInt).toNat) ?_ _ _ _ _ _ _ _ ⟨rfl, rfl, rfl, rfl, 0, rfl, by omega, rfl⟩ (by unfold FU; decide)
  rintro rec z l1 l2 l3 l4 l5 ⟨rfl, rfl, rfl, rfl, i, rfl, hi, rfl⟩ hr
  have ei : (Int32.ofNat i).toInt = (i : Int) := onI (by omega)
  have ci : (Int32.ofNat i).toNatClampNeg = i := onC (by omega)
  have e2 : (Int32.ofNat (i + 1)).toInt = ((i + 1 : Nat) : Int) := onI (by omega)
  rw [nm_K n]
  refine T_le (fun g => ?_) (fun g => T_vp (by omega) (by show (Int32.ofNat i).toInt < 12; omega) ?_)
  · have : i = (q.1 60 6).toInt.toNat := by omega
    rw [this]
    exact k
  · have yes : p i = true → T (rec z l1 l2 (Int32.ofNat al) (Int32.ofNat (cntN p i) + 1) (Int32.ofNat i + 1)) P := fun hp => by
      rw [cnt1 (p := p) hp, oa]
      exact hr _ _ _ _ _ _ ⟨rfl, rfl, rfl, rfl, i + 1, rfl, by omega, rfl⟩ (by omega)
    have no : p i = false → T (rec z l1 l2 (Int32.ofNat al) (Int32.ofNat (cntN p i)) (Int32.ofNat i + 1)) P := fun hp => by
      rw [cnt0 (p := p) hp, oa]
      exact hr _ _ _ _ _ _ ⟨rfl, rfl, rfl, rfl, i + 1, rfl, by omega, rfl⟩ (by omega)
    unfold b_X12_friend_82
    rw [ci, n.2.1 66 (by decide) (by decide)]
    have pi : p i = (decide (q.1 62 l1.toNatClampNeg = 0) && (decide (q.1 66 i = 0) && (decide (q.1 67 i ≠ 4) && decide (q.1 65 i ≠ l1)))) := rfl
    by_cases c : q.1 66 i = 0
    · refine T_p c (T_rw (m_maySlip (q := z) ⟨by omega, by omega⟩ ⟨ha.1, by omega⟩) ?_)
      rw [ci, n.2.2.2.2 i, if_pos (show (i : Int) < (q.1 60 6).toInt by omega), n.2.1 67 (by decide) (by decide), n.2.1 62 (by decide) (by decide)]
      refine T_bi (fun d => no ?_) (fun d => yes ?_)
      · rw [pi]
        by_cases e1 : q.1 62 l1.toNatClampNeg = 0
        · by_cases e3 : q.1 67 i = 4
          · simp [e3]
          · by_cases e4 : q.1 65 i = l1
            · simp [e4]
            · exact absurd ⟨e3, e4, e1⟩ d
        · simp [e1]
      · rw [pi]
        simp [c, d.1, d.2.1, d.2.2]
    · exact T_q c (no (by rw [pi]; simp [c]))
theorem op_friend {q : SS} (h : INV q) (a x : Int32) : T (f_X11_friend q a x) (fun r => T (f_X12_friend r.2 a x) (fun s => INV s.2 ∧ r.1 = s.1)) := by
  have hY := INV_RY h
  have p0 := RY_p0 hY
  have p6 := RY_p6 hY
  have k0 := RY_k0 hY
  have k12 := RY_k12 hY
  have m1 : ∀ r, f_X12_in r x 0 12 = some (bI (0 ≤ x.toInt ∧ x.toInt ≤ 12)) := fun r => m_in r x 0 12
  unfold f_X11_friend
  refine T_rw (x_isPerson q a) ?_
  rw [RY_p hY]
  refine T_bi (fun g => T_some.mpr ?_) (fun g => ?_)
  · unfold f_X12_friend
    exact T_rw (m_isOne p0 a) (T_bn g (T_some.mpr ⟨h, rfl⟩))
  · by_cases c : 0 ≤ x.toInt ∧ x.toInt ≤ 12
    · refine T_ltn c.1 (T_lep c.2 (T_b (x_now hY) (fun r hr => T_rw (nx_reals hY hr) ?_)))
      have hI := NWX_I h hr
      obtain ⟨_, e2, e3⟩ := nx_c hr a
      have hYr := INV_RY hI
      have lA := cA_le hY
      have mod : ∀ {P : Int32 × SS → Prop}, (∀ s, NWM r s → T (if Int32.ofNat (cA q) = 0 then (if x = 0 then (some ((0 : Int32), s)) else (some ((-2 : Int32), s))) else (b_X12_friend_50 s a x (Int32.ofNat (cA q)) (0 : Int32) (0 : Int32))) P) → T (f_X12_friend r a x) P := by
        intro P k
        unfold f_X12_friend
        refine T_rw (m_isOne (RY_p0 hYr) a) (T_bp (by rw [hr.2.1 60 (by decide)]; exact g) (T_rw (m1 _) (T_bp c (T_b (m_now hYr) (fun s hs => T_rw (nm_allReal hYr hs) ?_)))))
        rw [e3]
        exact k s hs
      by_cases z : Int32.ofNat (cA q) = 0
      · refine T_p z ?_
        by_cases z2 : x = 0
        · exact T_p z2 (T_some.mpr (mod (fun s hs => T_p z (T_p z2 (T_some.mpr ⟨NWM_I hI hs, rfl⟩)))))
        · exact T_q z2 (T_some.mpr (mod (fun s hs => T_p z (T_q z2 (T_some.mpr ⟨NWM_I hI hs, rfl⟩)))))
      · refine T_q z (T_rw (nx_realsOf hY hr a) ?_)
        have eP := nx_P hY hr
        have gg := x_get1 (q := r) (by rw [eP]; exact p6) a
        rw [eP, if_pos g, hr.2.1 4 (by decide), RY_child hY] at gg
        refine T_rw gg ?_
        have rc := RY_rchild hY a.toNatClampNeg (by rw [cnI g.1]; exact g.2)
        have cFl : cF q a ≤ 12 := by
          have := cL_s hY a
          have : cL q ≤ 12 := Nat.le_trans (cntN_le _ _) (K12 hY)
          omega
        have mle : (if q.1 62 a.toNatClampNeg = 0 then cF q a else 0) ≤ 12 := by split <;> omega
        have key : T (b_X11_friend_89 r x (Int32.ofNat (cA q)) (Int32.ofNat (cR q a)) (Int32.ofNat (if q.1 62 a.toNatClampNeg = 0 then cF q a else 0)) 0) (fun r => T (f_X12_friend r.2 a x) (fun s => INV s.2 ∧ r.1 = s.1)) := by
          refine T_mono (x_fr c (cR_le hY a) lA mle) (fun w hw => ?_)
          obtain ⟨w1, w2⟩ := hw
          rw [w2]
          refine mod (fun s hs => T_q z (m_fc hYr hs (by rw [hr.2.1 60 (by decide)]; exact g) ?_))
          have em : (if r.1 62 a.toNatClampNeg = 0 then cF r a else 0) = (if q.1 62 a.toNatClampNeg = 0 then cF q a else 0) := by
            unfold cF
            rw [hr.2.1 62 (by decide), hr.2.1 66 (by decide), hr.2.1 67 (by decide), hr.2.1 65 (by decide), hr.2.1 60 (by decide)]
          rw [em]
          refine T_mono (m_fr hYr hs c lA mle) (fun v hv => ?_)
          obtain ⟨v1, v2⟩ := hv
          rw [e2] at v1
          rw [v2]
          exact ⟨NWM_I hI hs, fst12_u mle w1 v1⟩
        unfold b_X11_friend_84
        by_cases ch : q.1 62 a.toNatClampNeg = 1
        · rw [if_neg (by rw [ch]; decide)] at key
          exact T_p ch key
        · have c0 : q.1 62 a.toNatClampNeg = 0 := by
            have : (q.1 62 a.toNatClampNeg).toInt ≠ 1 := fun k => ch (Int32.toInt_inj.mp k)
            exact eq0.mpr (by omega)
          rw [if_pos c0] at key
          refine T_q ch (T_rw (nx_looseReals hY hr) (T_rw (nx_looseRealsOf hY hr a) ?_))
          have es : Int32.ofNat (cL q) - Int32.ofNat (cO q a) = Int32.ofNat (cF q a) := by
            rw [cL_s hY a, Int32.ofNat_add, Int32.add_comm]
            exact Int32.add_sub_cancel _ _
          rw [es]
          exact key
    · have key : T (f_X12_friend q a x) (fun s => INV s.2 ∧ -1 = s.1) := by
        unfold f_X12_friend
        exact T_rw (m_isOne p0 a) (T_bp g (T_rw (m1 _) (T_bn c (T_some.mpr ⟨h, rfl⟩))))
      exact T_lt (fun _ => T_some.mpr key) (fun g => T_le (fun g2 => absurd ⟨g, g2⟩ c) (fun _ => T_some.mpr key))
/-! ===== half ===== -/
def bc (n : Nat) : Nat := n % 2 + n / 2 % 2 + n / 4 % 2 + n / 8 % 2 + n / 16 % 2 + n / 32 % 2
theorem bc_le (n : Nat) : bc n ≤ 6 := by
  unfold bc
  omega
theorem bcX_q (q : SS) : f_J6_bitCount_0f7a4 q = f_J6_bitCount_0f7a4 q00 := rfl
theorem bcM_q (q : SS) : f_X12_bitsOf q = f_X12_bitsOf q00 := rfl
theorem bcX_t : ∀ n, n < 64 → f_J6_bitCount_0f7a4 q00 (Int32.ofNat n) = some (Int32.ofNat (bc n)) := by decide +kernel
set_option maxRecDepth 100000 in
theorem bcM_t : ∀ n, n < 64 → f_X12_bitsOf q00 (Int32.ofNat n) = some (Int32.ofNat (bc n)) := by decide +kernel
theorem x_bc (q : SS) {n : Nat} (h : n < 64) : f_J6_bitCount_0f7a4 q (Int32.ofNat n) = some (Int32.ofNat (bc n)) := by rw [bcX_q]; exact bcX_t n h
theorem m_bc (q : SS) {n : Nat} (h : n < 64) : f_X12_bitsOf q (Int32.ofNat n) = some (Int32.ofNat (bc n)) := by rw [bcM_q]; exact bcM_t n h
theorem shl_t : ∀ n, n < 7 → (jshl 1 (Int32.ofNat n)).toInt = 2 ^ n := by decide +kernel
theorem shl_P {p : Int32} (h0 : 0 ≤ p.toInt) (h6 : p.toInt ≤ 6) : (jshl 1 p).toInt = ((2 ^ p.toInt.toNat : Nat) : Int) := by
  obtain ⟨m, hm, rfl⟩ := ofN (n := 7) h0 (by omega)
  rw [shl_t m hm, onI (by omega)]
  show _ = ((2 ^ m : Nat) : Int)
  simp
/-- real ones of a set, of those ahead of i -/
def ssN (f : Nat → Nat) (n : Nat) : Nat → Nat
  | 0 => 0
  | i + 1 => if (jshr (Int32.ofNat n) (Int32.ofNat i)) &&& (1 : Int32) = 1 then ssN f n i + f i else ssN f n i
theorem ssN_le {f : Nat → Nat} (h : ∀ i, f i ≤ 12) (n : Nat) : ∀ i, ssN f n i ≤ 12 * i
  | 0 => Nat.le_refl _
  | i + 1 => by
    have := ssN_le h n i
    have := h i
    have e : ssN f n (i + 1) = ssN f n i + f i ∨ ssN f n (i + 1) = ssN f n i := by
      by_cases c : (jshr (Int32.ofNat n) (Int32.ofNat i)) &&& (1 : Int32) = 1
      · exact Or.inl (if_pos c)
      · exact Or.inr (if_neg c)
    rcases e with e | e
    · rw [e]
      omega
    · rw [e]
      omega
/-- the best of the sets ahead of n, and its size -/
def hsN (S : Nat → Nat) (A : Nat) : Nat → Int32 × Nat
  | 0 => (-2, 7)
  | n + 1 => if bc n < (hsN S A n).2 ∧ A ≤ 2 * S n then (Int32.ofNat n, bc n) else hsN S A n
theorem hsN_v {S : Nat → Nat} {A : Nat} : ∀ n, ((hsN S A n).1 = -2 ∧ (hsN S A n).2 = 7) ∨ ∃ m, m < n ∧ (hsN S A n).1 = Int32.ofNat m ∧ (hsN S A n).2 = bc m
  | 0 => Or.inl ⟨rfl, rfl⟩
  | n + 1 => by
    by_cases c : bc n < (hsN S A n).2 ∧ A ≤ 2 * S n
    · have e : hsN S A (n + 1) = (Int32.ofNat n, bc n) := if_pos c
      rw [e]
      exact Or.inr ⟨n, by omega, rfl, rfl⟩
    · have e : hsN S A (n + 1) = hsN S A n := if_neg c
      rw [e]
      rcases hsN_v n with k | ⟨m, k1, k2⟩
      · exact Or.inl k
      · exact Or.inr ⟨m, by omega, k2⟩
theorem x_set2 {q r : SS} (h : RY q) (n : NWX q r) {b : Nat} : f_X11_realsOfSet r (Int32.ofNat b) = some (Int32.ofNat (ssN (fun i => cR q (Int32.ofNat i)) b (q.1 60 1).toInt.toNat)) := by
  have p0 := RY_p0 h
  have p6 := RY_p6 h
  have eP := nx_P h n
  unfold f_X11_realsOfSet b_X11_realsOfSet_5
  refine T_e ?_
  refine T_fx3 (fun l2 l3 l4 => l2 = Int32.ofNat b ∧ ∃ i : Nat, l4 = Int32.ofNat i ∧ (i : Int) ≤ (q.1 60 1).toInt ∧ l3 = Int32.ofNat (ssN (fun i => cR q (Int32.ofNat i)) b i)) (fun _ _ l4 => (12 - l4.toInt).toNat) ?_ _ _ _ _ ⟨rfl, 0, rfl, by omega, rfl⟩ (by unfold FU; decide)
  rintro rec l2 l3 l4 ⟨rfl, i, rfl, hi, rfl⟩ hr
  have ei : (Int32.ofNat i).toInt = (i : Int) := onI (by omega)
  have e2 : (Int32.ofNat (i + 1)).toInt = ((i + 1 : Nat) : Int) := onI (by omega)
  refine T_rw rfl ?_
  rw [eP]
  refine T_le (fun g => T_some.mpr ?_) (fun g => ?_)
  · have : i = (q.1 60 1).toInt.toNat := by omega
    rw [this]
  · unfold b_X11_realsOfSet_36
    rw [oa]
    by_cases c : (jshr (Int32.ofNat b) (Int32.ofNat i)) &&& (1 : Int32) = 1
    · refine T_p c (T_rw (nx_realsOf h n _) (T_nm (hr _ _ _ ⟨rfl, i + 1, rfl, by omega, ?_⟩ (by omega))))
      have e : ssN (fun i => cR q (Int32.ofNat i)) b (i + 1) = ssN (fun i => cR q (Int32.ofNat i)) b i + cR q (Int32.ofNat i) := if_pos c
      rw [e, Int32.ofNat_add]
    · refine T_q c (hr _ _ _ ⟨rfl, i + 1, rfl, by omega, ?_⟩ (by omega))
      have e : ssN (fun i => cR q (Int32.ofNat i)) b (i + 1) = ssN (fun i => cR q (Int32.ofNat i)) b i := if_neg c
      rw [e]
theorem two2 {n : Nat} (h : n ≤ 100) : ((2 : Int32) * Int32.ofNat n).toInt = ((2 * n : Nat) : Int) := mulN (a := 2) (b := n) (by omega) (by omega) (by omega)
theorem op_half {q : SS} (h : INV q) : T (f_X11_half q) (fun r => T (f_X12_half r.2) (fun s => INV s.2 ∧ r.1 = s.1)) := by
  have hY := INV_RY h
  have p0 := RY_p0 hY
  have p6 := RY_p6 hY
  have lA := cA_le hY
  have l0 : (0 : Int32).toInt = 0 := rfl
  unfold f_X11_half
  refine T_b (x_now hY) (fun r hr => T_rw (nx_reals hY hr) ?_)
  have hI := NWX_I h hr
  have hYr := INV_RY hI
  have eP := nx_P hY hr
  have hc : ∀ a, cR r a = cR q a := fun a => (nx_c hr a).2.1
  have hA : cA r = cA q := (nx_c hr 0).2.2
  have mod : ∀ {P : Int32 × SS → Prop}, (∀ s, NWM r s → T (b_X12_half_14 s (Int32.ofNat (cA q)) (-2) 0) P) → T (f_X12_half r) P := by
    intro P k
    unfold f_X12_half
    refine T_b (m_now hYr) (fun s hs => T_rw (nm_allReal hYr hs) ?_)
    rw [hA]
    exact k s hs
  have hsh := shl_P p0 p6
  have h64 : 2 ^ (q.1 60 1).toInt.toNat ≤ 64 := by
    have : (q.1 60 1).toInt.toNat ≤ 6 := by omega
    exact Nat.pow_le_pow_right (by decide) this
  have h1 : 1 ≤ 2 ^ (q.1 60 1).toInt.toNat := Nat.one_le_two_pow
  generalize hN : 2 ^ (q.1 60 1).toInt.toNat = N at *
  have cl : ∀ i, (fun i => cR q (Int32.ofNat i)) i ≤ 12 := fun i => cR_le hY _
  refine T_eq (fun z => T_some.mpr (mod (fun s hs => ?_))) (fun z => ?_)
  · unfold b_X12_half_14
    rw [fx4_s]
    have eP2 : s.1 60 1 = q.1 60 1 := by rw [nm_P hs, hr.2.1 60 (by decide)]
    rw [eP2]
    exact T_len (by omega) (T_lep (by rw [z]; decide) (T_some.mpr ⟨NWM_I hI hs, rfl⟩))
  · have zA : 0 < cA q := by
      have : (Int32.ofNat (cA q)).toInt = (cA q : Int) := onI (by omega)
      omega
    have eA : (Int32.ofNat (cA q)).toInt = (cA q : Int) := onI (by omega)
    let S : Nat → Nat := fun n => ssN (fun i => cR q (Int32.ofNat i)) n (q.1 60 1).toInt.toNat
    have hS : ∀ n, S n ≤ 100 := fun n => by
      have := ssN_le cl n (q.1 60 1).toInt.toNat
      show ssN _ _ _ ≤ 100
      omega
    have A : T (b_X11_half_27 r (Int32.ofNat (cA q)) (-2) 7 0) (fun w => w = ((hsN S (cA q) N).1, r)) := by
      unfold b_X11_half_27
      refine T_fx5 (fun w l2 l3 l4 l5 => w = r ∧ l2 = Int32.ofNat (cA q) ∧ ∃ n : Nat, l5 = Int32.ofNat n ∧ n ≤ N ∧ l3 = (hsN S (cA q) n).1 ∧ l4 = Int32.ofNat (hsN S (cA q) n).2) (fun _ _ _ _ l5 => (100 - l5.toInt).toNat) ?_ _ _ _ _ _ _ ⟨rfl, rfl, 0, rfl, by omega, rfl, rfl⟩ (by unfold FU; decide)
      rintro rec w l2 l3 l4 l5 ⟨rfl, rfl, n, rfl, hn, rfl, rfl⟩ hrec
      have en : (Int32.ofNat n).toInt = (n : Int) := onI (by omega)
      have en2 : (Int32.ofNat (n + 1)).toInt = ((n + 1 : Nat) : Int) := onI (by omega)
      have f7 : (hsN S (cA q) n).2 ≤ 7 := by
        rcases hsN_v (S := S) (A := cA q) n with ⟨_, k⟩ | ⟨m, _, _, k⟩
        · omega
        · have := bc_le m; omega
      have ef : (Int32.ofNat (hsN S (cA q) n).2).toInt = ((hsN S (cA q) n).2 : Int) := onI (by omega)
      have b6 := bc_le n
      have eb : (Int32.ofNat (bc n)).toInt = (bc n : Int) := onI (by omega)
      refine T_rw rfl ?_
      rw [eP]
      refine T_le (fun g => T_some.mpr ?_) (fun g => T_rw (x_bc w (by omega)) ?_)
      · have : n = N := by omega
        rw [this]
      · have no : ¬ (bc n < (hsN S (cA q) n).2 ∧ cA q ≤ 2 * S n) → T (rec w (Int32.ofNat (cA q)) (hsN S (cA q) n).1 (Int32.ofNat (hsN S (cA q) n).2) (Int32.ofNat (n + 1))) (fun w' => w' = ((hsN S (cA q) N).1, w)) := fun c => hrec _ _ _ _ _ ⟨rfl, rfl, n + 1, rfl, by omega, by
            have e : hsN S (cA q) (n + 1) = hsN S (cA q) n := if_neg c
            rw [e]
            exact ⟨rfl, rfl⟩⟩ (by omega)
        unfold b_X11_half_75
        rw [oa]
        refine T_le (fun c => no (fun x => by omega)) (fun c => T_rw (x_set2 hY hr) ?_)
        have es := two2 (hS n)
        refine T_lt (fun d => no (fun x => ?_)) (fun d => hrec _ _ _ _ _ ⟨rfl, rfl, n + 1, rfl, by omega, ?_⟩ (by omega))
        · have d' : ((2 : Int32) * Int32.ofNat (S n)).toInt < (Int32.ofNat (cA q)).toInt := d
          omega
        · have d' : (Int32.ofNat (cA q)).toInt ≤ ((2 : Int32) * Int32.ofNat (S n)).toInt := d
          have e : hsN S (cA q) (n + 1) = (Int32.ofNat n, bc n) := if_pos ⟨by omega, by omega⟩
          rw [e]
          exact ⟨rfl, rfl⟩
    refine T_mono A (fun w hw => ?_)
    subst hw
    refine mod (fun s hs => ?_)
    have eP2 : s.1 60 1 = q.1 60 1 := by rw [nm_P hs, hr.2.1 60 (by decide)]
    unfold b_X12_half_14
    refine T_fx4 (fun w l1 l2 l3 => w = s ∧ l1 = Int32.ofNat (cA q) ∧ ∃ n : Nat, l3 = Int32.ofNat n ∧ n ≤ N ∧ l2 = (hsN S (cA q) n).1) (fun _ _ _ l3 => (100 - l3.toInt).toNat) ?_ _ _ _ _ _ ⟨rfl, rfl, 0, rfl, by omega, rfl⟩ (by unfold FU; decide)
    rintro rec w l1 l2 l3 ⟨rfl, rfl, n, rfl, hn, rfl⟩ hrec
    have en : (Int32.ofNat n).toInt = (n : Int) := onI (by omega)
    have en2 : (Int32.ofNat (n + 1)).toInt = ((n + 1 : Nat) : Int) := onI (by omega)
    have b6 := bc_le n
    have eb : (Int32.ofNat (bc n)).toInt = (bc n : Int) := onI (by omega)
    rw [eP2]
    refine T_le (fun g => T_some.mpr ⟨NWM_I hI hs, ?_⟩) (fun g => T_len (by omega) ?_)
    · have : n = N := by omega
      rw [this]
    · have no : ¬ (bc n < (hsN S (cA q) n).2 ∧ cA q ≤ 2 * S n) → T (rec w (Int32.ofNat (cA q)) (hsN S (cA q) n).1 (Int32.ofNat (n + 1))) (fun w' => INV w'.2 ∧ (hsN S (cA q) N).1 = w'.1) := fun c => hrec _ _ _ _ ⟨rfl, rfl, n + 1, rfl, by omega, by
          have e : hsN S (cA q) (n + 1) = hsN S (cA q) n := if_neg c
          rw [e]⟩ (by omega)
      have yes : (bc n < (hsN S (cA q) n).2 ∧ cA q ≤ 2 * S n) → T (rec w (Int32.ofNat (cA q)) (Int32.ofNat n) (Int32.ofNat (n + 1))) (fun w' => INV w'.2 ∧ (hsN S (cA q) N).1 = w'.1) := fun c => hrec _ _ _ _ ⟨rfl, rfl, n + 1, rfl, by omega, by
          have e : hsN S (cA q) (n + 1) = (Int32.ofNat n, bc n) := if_pos c
          rw [e]⟩ (by omega)
      unfold b_X12_half_34
      refine T_fx6 (fun y m1 m2 m3 m4 m5 => y = w ∧ m1 = Int32.ofNat (cA q) ∧ m2 = (hsN S (cA q) n).1 ∧ m3 = Int32.ofNat n ∧ ∃ i : Nat, m5 = Int32.ofNat i ∧ (i : Int) ≤ (q.1 60 1).toInt ∧ m4 = Int32.ofNat (ssN (fun i => cR q (Int32.ofNat i)) n i)) (fun _ _ _ _ _ m5 => (12 - m5.toInt).toNat) ?_ _ _ _ _ _ _ _ ⟨rfl, rfl, rfl, rfl, 0, rfl, by omega, rfl⟩ (by unfold FU; decide)
      rintro rec2 y m1 m2 m3 m4 m5 ⟨rfl, rfl, rfl, rfl, i, rfl, hi, rfl⟩ hrec2
      have ei : (Int32.ofNat i).toInt = (i : Int) := onI (by omega)
      have e2 : (Int32.ofNat (i + 1)).toInt = ((i + 1 : Nat) : Int) := onI (by omega)
      rw [eP2]
      unfold b_X12_half_93 b_X12_half_95 b_X12_half_64
      rw [oa, oa]
      refine T_le (fun g2 => ?_) (fun g2 => ?_)
      · have ie : i = (q.1 60 1).toInt.toNat := by omega
        subst ie
        have es := two2 (hS n)
        refine T_lt (fun d => no (fun x => ?_)) (fun d => ?_)
        · have d' : ((2 : Int32) * Int32.ofNat (S n)).toInt < (Int32.ofNat (cA q)).toInt := d
          omega
        · have d' : (Int32.ofNat (cA q)).toInt ≤ ((2 : Int32) * Int32.ofNat (S n)).toInt := d
          have dd : cA q ≤ 2 * S n := by omega
          rcases hsN_v (S := S) (A := cA q) n with ⟨k1, k2⟩ | ⟨m, k0, k1, k2⟩
          · refine T_ltp (by rw [k1]; decide) (yes ⟨by omega, dd⟩)
          · have bm := bc_le m
            have ebm : (Int32.ofNat (bc m)).toInt = (bc m : Int) := onI (by omega)
            rw [k1] at no ⊢
            refine T_ltn (by rw [onI (by omega)]; omega) (T_rw (m_bc y (by omega)) (T_rw (m_bc y (by omega)) ?_))
            refine T_le (fun e => no (fun x => by omega)) (fun e => yes ⟨by omega, dd⟩)
      · by_cases c : (jshr (Int32.ofNat n) (Int32.ofNat i)) &&& (1 : Int32) = 1
        · refine T_p c (T_rw (nm_realOf hYr hs _) (T_nm (hrec2 _ _ _ _ _ _ ⟨rfl, rfl, rfl, rfl, i + 1, rfl, by omega, ?_⟩ (by omega))))
          have e : ssN (fun i => cR q (Int32.ofNat i)) n (i + 1) = ssN (fun i => cR q (Int32.ofNat i)) n i + cR q (Int32.ofNat i) := if_pos c
          rw [e, Int32.ofNat_add, hc]
        · refine T_q c (hrec2 _ _ _ _ _ _ ⟨rfl, rfl, rfl, rfl, i + 1, rfl, by omega, ?_⟩ (by omega))
          have e : ssN (fun i => cR q (Int32.ofNat i)) n (i + 1) = ssN (fun i => cR q (Int32.ofNat i)) n i := if_neg c
          rw [e]
/-! ===== the class's odds: it answers, and writes no more than its stack ===== -/
theorem x_pop (q : SS) : T (f_X4_pop q) (fun r => Fr wE v0 q r.2) := by
  have l121 : (121 : Int32).toInt = 121 := rfl
  have l0 : (0 : Int32).toInt = 0 := rfl
  unfold f_X4_pop
  refine T_le (fun _ => T_some.mpr (Fr_refl q)) (fun g => T_le (fun g2 => T_nm ?_) (fun _ => T_some.mpr (Fr_refl q)))
  have e := dec1 (a := q.1 12 5) (by omega)
  exact T_vp (by rw [rds]; omega) (by rw [rds]; show (q.1 12 5 - 1).toInt < 121; omega) (T_some.mpr (Fr_sI (Fr_refl q) rfl))
theorem x_push (q : SS) (a : Int32) : T (f_X4_push q a) (fun r => Fr wE v0 q r) := by
  have l121 : (121 : Int32).toInt = 121 := rfl
  have l0 : (0 : Int32).toInt = 0 := rfl
  unfold f_X4_push
  refine T_lt (fun _ => T_some.mpr (Fr_refl q)) (fun g => T_le (fun _ => T_some.mpr (Fr_refl q)) (fun g2 => T_vp (by omega) (by show (q.1 12 5).toInt < 121; omega) (T_nm (T_nm (T_some.mpr (Fr_sI (Fr_sI (Fr_refl q) rfl) rfl))))))
theorem x_join (q : SS) (a b c : Int32) : T (f_X4_join q a b c) (fun _ => True) := by
  unfold f_X4_join b_X4_join_100
  refine T_sw (fun _ => ?_) (fun _ => ?_)
  · by_cases z : c = 0
    · exact T_p z (T_some.mpr trivial)
    · exact T_q z (T_n z (T_some.mpr trivial))
  refine T_sw (fun _ => T_i (fun _ => T_some.mpr trivial) (fun _ => T_i (fun _ => T_some.mpr trivial) (fun _ => T_some.mpr trivial))) (fun _ => ?_)
  refine T_sw (fun _ => T_some.mpr trivial) (fun _ => ?_)
  refine T_sw (fun _ => T_some.mpr trivial) (fun _ => ?_)
  refine T_sw (fun _ => T_some.mpr trivial) (fun _ => ?_)
  refine T_sw (fun _ => ?_) (fun _ => ?_)
  · by_cases z : c = 0
    · exact T_p z (T_some.mpr trivial)
    · exact T_q z (T_n z (T_some.mpr trivial))
  refine T_sw (fun _ => T_i (fun _ => T_some.mpr trivial) (fun _ => T_some.mpr trivial)) (fun _ => ?_)
  refine T_sw (fun _ => T_i (fun _ => T_some.mpr trivial) (fun _ => T_some.mpr trivial)) (fun _ => ?_)
  refine T_sw (fun _ => T_i (fun _ => T_some.mpr trivial) (fun _ => T_some.mpr trivial)) (fun _ => ?_)
  refine T_sw (fun _ => T_i (fun _ => T_i (fun _ => T_some.mpr trivial) (fun _ => T_some.mpr trivial)) (fun _ => T_some.mpr trivial)) (fun _ => ?_)
  exact T_sw0 (T_some.mpr trivial)
theorem x_doStep (q : SS) (a b : Int32) : T (f_X4_doStep q a b) (fun r => Fr wE v0 q r) := by
  unfold f_X4_doStep b_X4_doStep_43 b_X4_doStep_44 b_X4_doStep_87
  refine T_i (fun _ => T_b (x_push q b) (fun r hr => T_some.mpr hr)) (fun _ => T_i (fun _ => ?_) (fun _ => T_i (fun _ => ?_) (fun _ => T_i (fun _ => ?_) (fun _ => ?_))))
  · refine T_lt (fun _ => T_b (x_push q 0) (fun r hr => T_some.mpr hr)) (fun g => T_le (fun _ => T_b (x_push q 0) (fun r hr => T_some.mpr hr)) (fun g2 => T_vp g (by show b.toInt < (6 : Int32).toInt; exact g2) (T_b (x_push q _) (fun r hr => T_some.mpr hr))))
  · exact T_b (x_pop q) (fun r hr => T_b (x_push r.2 _) (fun s hs => T_some.mpr (Fr_tr hr hs)))
  · exact T_b (x_pop q) (fun r hr => T_i (fun _ => T_b (x_push r.2 _) (fun s hs => T_some.mpr (Fr_tr hr hs))) (fun _ => T_b (x_push r.2 _) (fun s hs => T_some.mpr (Fr_tr hr hs))))
  · exact T_b (x_pop q) (fun r hr => T_b (x_pop r.2) (fun s hs => T_b (x_join s.2 a s.1 r.1) (fun v _ => T_b (x_push s.2 v) (fun u hu => T_some.mpr (Fr_tr (Fr_tr hr hs) hu)))))
theorem x_workOut (q : SS) (a1 a2 a3 a4 a5 a6 : Int32) : T (f_X4_workOut q a1 a2 a3 a4 a5 a6) (fun r => Fr wE v0 q r.2) := by
  unfold f_X4_workOut
  refine T_vp (by decide) (by decide) (T_nm (T_vp (by decide) (by decide) (T_nm (T_vp (by decide) (by decide) (T_nm (T_vp (by decide) (by decide) (T_nm (T_vp (by decide) (by decide) (T_nm (T_vp (by decide) (by decide) (T_nm (T_nm ?_))))))))))))
  unfold b_X4_workOut_56
  have l121 : (121 : Int32).toInt = 121 := rfl
  refine T_fx3 (fun z _ l8 => Fr wE v0 q z ∧ 0 ≤ l8.toInt ∧ l8.toInt ≤ 121) (fun _ _ l8 => (121 - l8.toInt).toNat) ?_ _ _ _ _ ⟨Fr_sI (Fr_sI (Fr_sI (Fr_sI (Fr_sI (Fr_sI (Fr_sI (Fr_refl q) rfl) rfl) rfl) rfl) rfl) rfl) rfl, by decide, by decide⟩ (by unfold FU; decide)
  rintro rec z l7 l8 ⟨hf, g0, g1⟩ hr
  refine T_le (fun _ => T_some.mpr hf) (fun _ => T_le (fun _ => T_some.mpr hf) (fun g => T_vp g0 (by show l8.toInt < 121; omega) (T_nm ?_)))
  have e1 := inc1 (a := l8) (by omega) (by omega)
  have go : ∀ (y : SS) (v : Int32), Fr wE v0 z y → T (rec y v (l8 + 1)) (fun r => Fr wE v0 q r.2) := fun y v hy => hr _ _ _ ⟨Fr_tr hf hy, by omega, by omega⟩ (by omega)
  unfold b_X4_workOut_100 b_X4_workOut_145
  refine T_i (fun _ => T_b (x_pop z) (fun r hy => T_i (fun _ => go _ _ hy) (fun _ => go _ _ hy))) (fun _ => T_i (fun _ => T_b (x_pop z) (fun r hy => T_i (fun _ => go _ _ hy) (fun _ => T_some.mpr (Fr_tr hf hy)))) (fun _ => T_vp g0 (by show l8.toInt < 121; omega) (T_b (x_doStep z _ _) (fun r hy => go _ _ hy))))
theorem clamp12 (v : Int32) : 0 ≤ (jmax (0 : Int32) (jmin (12 : Int32) v)).toInt ∧ (jmax (0 : Int32) (jmin (12 : Int32) v)).toInt ≤ 12 := by
  have l0 : (0 : Int32).toInt = 0 := rfl
  have l12 : (12 : Int32).toInt = 12 := rfl
  unfold jmax jmin
  simp only [Int32.lt_iff_toInt_lt]
  split <;> split <;> omega
/-- P and K as they may be -/
def PK (q : SS) : Prop := (0 ≤ (q.1 1 1).toInt ∧ (q.1 1 1).toInt ≤ 6) ∧ 0 ≤ (q.1 1 2).toInt ∧ (q.1 1 2).toInt ≤ 12
theorem PK_Y {q : SS} (h : RY q) : PK q := by
  unfold PK
  rw [RY_p h, RY_k h]
  exact ⟨⟨RY_p0 h, RY_p6 h⟩, RY_k0 h, RY_k12 h⟩
theorem PK_E {q r : SS} (f : Fr wE v0 q r) (h : PK q) : PK r := by
  unfold PK at *
  rw [f.1 1 1 rfl, f.1 1 2 rfl]
  exact h
theorem PK_X {q r : SS} (f : Fr wX vX q r) (h : PK q) : PK r := by
  unfold PK at *
  rw [f.1 1 1 rfl, f.1 1 2 rfl]
  exact h
theorem z012 : 0 ≤ (0 : Int32).toInt ∧ (0 : Int32).toInt ≤ 12 := by decide
theorem x_oddsBy {q : SS} (h : PK q) (a1 a2 a3 a4 a5 : Int32) : T (f_X8_oddsBy q a1 a2 a3 a4 a5) (fun r => Fr wE v0 q r.2 ∧ 0 ≤ r.1.toInt ∧ r.1.toInt ≤ 12) := by
  unfold f_X8_oddsBy b_X8_oddsBy_87
  refine T_rw (x_canGive h.1.2 a1 a2) (T_i (fun _ => T_some.mpr ⟨Fr_refl q, z012⟩) (fun _ => T_i (fun _ => ?_) (fun _ => T_some.mpr ⟨Fr_refl q, z012⟩)))
  refine T_rw (x_get0 h.1.2 a2) (T_rw (x_get80 q) (T_nm ?_))
  have it : T (f_X4_isTold q) (fun _ => True) := by
    unfold f_X4_isTold
    exact T_i (fun _ => T_some.mpr trivial) (fun _ => T_some.mpr trivial)
  refine T_b it (fun r5 _ => T_i (fun _ => T_some.mpr ⟨Fr_refl q, clamp12 _⟩) (fun _ => T_rw (x_get0 h.1.2 a1) (T_b (x_workOut q _ _ _ _ _ _) (fun r hr => T_some.mpr ⟨hr, clamp12 _⟩))))
theorem x_oddsOf {q : SS} (h : PK q) (a b : Int32) : T (f_X8_oddsOf q a b) (fun r => Fr wE v0 q r.2 ∧ 0 ≤ r.1.toInt ∧ r.1.toInt ≤ 12) := by
  unfold f_X8_oddsOf
  refine T_rw (x_canSlip h.1.2 h.2.2 a b) (T_i (fun _ => T_some.mpr ⟨Fr_refl q, z012⟩) (fun _ => T_rw (x_holderOf h.2.2 a) (T_rw (x_heldBy h.2.1 h.2.2 b) (T_rw (x_get6 h.2.2 a) (T_rw (x_hourNow q) (T_b (x_oddsBy h _ _ _ _ _) (fun r hr => T_some.mpr hr)))))))
/-! the class's queries by odds: odds, watch, drawn -/
theorem FrX_now {q r : SS} (n : NWX q r) : Fr wX vX q r := ⟨fun k i e => by
    have : k ≠ 25 := by
      rintro rfl
      exact absurd e (by unfold wX wE; simp)
    rw [n.2.1 k this], fun k _ => by rw [n.1]⟩
theorem xo_odds {q : SS} (h : INV q) (a : Int32) : T (f_X11_odds q a) (fun r => INV r.2) := by
  have hY := INV_RY h
  unfold f_X11_odds
  refine T_rw (x_isSlipping q a) (T_i (fun _ => T_some.mpr h) (fun _ => T_b (x_now hY) (fun r hr => ?_)))
  have hI := NWX_I h hr
  exact T_b (x_oddsOf (PK_Y (INV_RY hI)) _ _) (fun s hs => T_some.mpr (INV_wE hs.1 hI))
theorem xo_watch {q : SS} (h : INV q) (a : Int32) : T (f_X11_watch q a) (fun r => INV r.2) := by
  have hY := INV_RY h
  unfold f_X11_watch
  refine T_rw (x_isPerson q a) (T_i (fun _ => T_some.mpr h) (fun _ => T_b (x_now hY) (fun r hr => ?_)))
  have hI := NWX_I h hr
  unfold b_X11_watch_27
  refine T_fx5 (fun z l1 _ _ l5 => INV z ∧ 0 ≤ l5.toInt ∧ l5.toInt ≤ 12) (fun _ _ _ _ l5 => (12 - l5.toInt).toNat) ?_ _ _ _ _ _ _ ⟨hI, by decide, by decide⟩ (by unfold FU; decide)
  rintro rec z l1 l3 l4 l5 ⟨hz, g0, g1⟩ hrec
  have pk := PK_Y (INV_RY hz)
  refine T_rw rfl (T_le (fun _ => T_i (fun _ => T_some.mpr hz) (fun _ => T_some.mpr hz)) (fun g => ?_))
  have g' : l5.toInt < (z.1 1 2).toInt := g
  have k12 := pk.2.2
  have e1 := inc1 (a := l5) (by omega) (by omega)
  have go : ∀ (y : SS) (u v : Int32), INV y → T (rec y l1 u v (l5 + 1)) (fun r => INV r.2) := fun y u v hy => hrec _ _ _ _ _ ⟨hy, by omega, by omega⟩ (by omega)
  unfold b_X11_watch_85 b_X11_watch_92
  refine T_rw (x_canSlip pk.1.2 pk.2.2 _ _) (T_i (fun _ => go _ _ _ hz) (fun _ => T_b (x_oddsOf pk _ _) (fun s hs => ?_)))
  have hs2 := INV_wE hs.1 hz
  exact T_rw (x_holderOf (PK_Y (INV_RY hs2)).2.2 _) (T_i (fun _ => go _ _ _ hs2) (fun _ => T_i (fun _ => T_i (fun _ => go _ _ _ hs2) (fun _ => go _ _ _ hs2)) (fun _ => go _ _ _ hs2)))
/-! ===== the class's queries answer, and leave what holds ===== -/
theorem INV_sX {q : SS} (h : INV q) {k i : Nat} {x : Int32} (hw : wX k i = true) (hk : k ≠ 37) : INV (sI q k i x) := by
  have h81 : (81 : Nat) ≠ k := by
    rintro rfl
    cases hw
  have j := INV_RJ h
  refine INV_wX (Fr_sI (Fr_refl q) hw) ⟨?_, ?_, ?_⟩ h
  · rw [sI_ro (Ne.symm hk)]; exact RJ_e0 j
  · rw [sI_ro (Ne.symm hk)]; exact RJ_e12 j
  · rw [sI_ro h81]; exact RJ_h1 j
theorem INV_s37 {q : SS} (h : INV q) {i : Nat} {x : Int32} (hi : i = 3 → 0 ≤ x.toInt ∧ x.toInt ≤ 12) : INV (sI q 37 i x) := by
  have j := INV_RJ h
  have e : 0 ≤ ((sI q 37 i x).1 37 3).toInt ∧ ((sI q 37 i x).1 37 3).toInt ≤ 12 := by
    rw [sI_rd]
    by_cases c : i = 3
    · rw [if_pos ⟨rfl, c.symm⟩]; exact hi c
    · rw [if_neg (fun y => c y.2.symm)]; exact ⟨RJ_e0 j, RJ_e12 j⟩
  exact INV_wX (Fr_sI (Fr_refl q) (by unfold wX; simp)) ⟨e.1, e.2, by have a := RJ_h1 j; exact a⟩ h
theorem INV_sLX {q : SS} (h : INV q) {k i : Nat} {x : Int64} (hk : vX k = true) : INV (sL q k i x) := INV_wX (Fr_sL (Fr_refl q) hk) (by have a := INV_RJ h; exact a) h
theorem xT_give {q : SS} (h : INV q) (a b : Int32) : T (f_X8_give q a b) (fun r => INV r ∧ r.1 37 = q.1 37) := by
  have pk := PK_Y (INV_RY h)
  unfold f_X8_give
  refine T_rw (x_isTicket q a) (T_bi (fun _ => T_some.mpr ⟨h, rfl⟩) (fun g => T_vp g.1 (by have := pk.2.2; show a.toInt < 12; omega) (T_nm (T_some.mpr ⟨INV_sX h (by unfold wX; simp) (by decide), rfl⟩))))
theorem xT_odds {q : SS} (h : INV q) (a b : Int32) : T (f_X8_oddsOf q a b) (fun r => (INV r.2 ∧ r.2.1 37 = q.1 37) ∧ 0 ≤ r.1.toInt ∧ r.1.toInt ≤ 12) := T_mono (x_oddsOf (PK_Y (INV_RY h)) a b) (fun r hr => ⟨⟨INV_wE hr.1 h, Fr_r hr.1 (fun _ => rfl)⟩, hr.2⟩)
theorem xT_can {q : SS} (h : INV q) (a b : Int32) : T (f_X8_canSlip q a b) (fun _ => True) := T_of (x_canSlip (PK_Y (INV_RY h)).1.2 (PK_Y (INV_RY h)).2.2 a b) trivial
theorem xT_hold {q : SS} (h : INV q) (a : Int32) : T (f_X8_holderOf q a) (fun _ => True) := T_of (x_holderOf (PK_Y (INV_RY h)).2.2 a) trivial
theorem xT_held {q : SS} (h : INV q) (a : Int32) : T (f_X8_heldBy q a) (fun _ => True) := T_of (x_heldBy (PK_Y (INV_RY h)).2.1 (PK_Y (INV_RY h)).2.2 a) trivial
theorem xT_tAt {q : SS} (h : INV q) (a : Int32) : T (f_X2_ticketAt q a) (fun _ => True) := by
  have j := RJ_e12 (INV_RJ h)
  have l0 : (0 : Int32).toInt = 0 := rfl
  unfold f_X2_ticketAt
  exact T_lt (fun _ => T_some.mpr trivial) (fun g => T_le (fun _ => T_some.mpr trivial) (fun g2 => T_vp (by omega) (by show a.toInt < 12; omega) (T_some.mpr trivial)))
theorem xT_oAt {q : SS} (h : INV q) (a : Int32) : T (f_X2_toAt q a) (fun _ => True) := by
  have j := RJ_e12 (INV_RJ h)
  have l0 : (0 : Int32).toInt = 0 := rfl
  unfold f_X2_toAt
  exact T_lt (fun _ => T_some.mpr trivial) (fun g => T_le (fun _ => T_some.mpr trivial) (fun g2 => T_vp (by omega) (by show a.toInt < 12; omega) (T_some.mpr trivial)))
theorem sz60 {q : SS} (h : INV q) (a : Int32) : 0 ≤ szX q a ∧ szX q a ≤ 60 := by
  unfold szX
  by_cases c : 0 ≤ a.toInt ∧ a.toInt < 6 ∧ 0 ≤ (q.1 27 a.toNatClampNeg).toInt ∧ (q.1 27 a.toNatClampNeg).toInt ≤ 4
  · rw [if_pos c, RS_size (INV_RS h)]
    exact RS_size0 (INV_RS h) _ (cnL c.1 c.2.1)
  · rw [if_neg c]
    omega
theorem xT_now {q : SS} (h : INV q) : T (f_X8_begin q) (fun r => INV r) := T_mono (x_begin (INV_RY h)) (fun r hr => INV_begin h hr.1 hr.2.1)
theorem xT_begin {q : SS} (h : INV q) (a : Int32) : T (f_X2_begin q a) (fun r => INV r) := by
  unfold f_X2_begin
  refine T_b (xT_now h) (fun r hr => T_rw (x_sizeOf r a) (T_nm (T_nm ?_)))
  have l0 : (0 : Int32).toInt = 0 := rfl
  have l12 : (12 : Int32).toInt = 12 := rfl
  have m12 : ∀ x : Int32, (jmin (12 : Int32) x).toInt ≤ 12 := by
    intro x
    unfold jmin
    simp only [Int32.lt_iff_toInt_lt]
    split <;> omega
  generalize hm : jmin (12 : Int32) (if 0 ≤ a.toInt ∧ a.toInt < 6 ∧ 0 ≤ (r.1 27 a.toNatClampNeg).toInt ∧ (r.1 27 a.toNatClampNeg).toInt ≤ 4 then r.1 28 a.toNatClampNeg else 0) = m
  have hm12 : m.toInt ≤ 12 := by rw [← hm]; exact m12 _
  unfold b_X2_begin_26
  refine T_fx4 (fun z l2 l3 l4 => INV z ∧ l3.toInt ≤ 12 ∧ 0 ≤ l4.toInt ∧ l4.toInt ≤ 12) (fun _ _ _ l4 => (12 - l4.toInt).toNat) ?_ _ _ _ _ _ ⟨INV_s37 hr (fun _ => z012), hm12, by decide, by decide⟩ (by unfold FU; decide)
  rintro rec z l2 l3 l4 ⟨hz, g2, g0, g1⟩ hrec
  refine T_le (fun _ => T_some.mpr hz) (fun g => ?_)
  have e1 := inc1 (a := l4) (by omega) (by omega)
  refine T_rw (x_get7 z l2 l4 (sz60 hz l2).2) (T_nm (T_rw (x_isSlipping z _) (T_i (fun _ => T_some.mpr hz) (fun _ => T_vp g0 (by show l4.toInt < 12; omega) (T_nm (T_nm (hrec _ _ _ _ ⟨INV_s37 (INV_sX hz (by unfold wX; simp) (by decide)) (fun _ => by omega), g2, by omega, by omega⟩ (by omega))))))))
theorem xT_well {q : SS} (h : INV q) (n : Int32) : T (f_X2_goByWell q n) (fun r => INV r) := by
  unfold f_X2_goByWell
  refine T_nm (T_nm ?_)
  have h2 : INV (sI (sI q 37 4 0) 37 5 0) := INV_s37 (INV_s37 h (fun x => absurd x (by decide))) (fun x => absurd x (by decide))
  unfold b_X2_goByWell_12
  refine T_fx3 (fun z l1 l2 => INV z ∧ 0 ≤ l2.toInt ∧ l2.toInt ≤ 12) (fun _ _ l2 => (12 - l2.toInt).toNat) ?_ _ _ _ _ ⟨h2, by decide, by decide⟩ (by unfold FU; decide)
  rintro rec z l1 l2 ⟨hz, g0, g1⟩ hrec
  have j := RJ_e12 (INV_RJ hz)
  refine T_le (fun _ => T_some.mpr hz) (fun _ => T_le (fun _ => T_some.mpr hz) (fun g => ?_))
  have e1 := inc1 (a := l2) (by omega) (by omega)
  have go : ∀ y : SS, INV y → T (rec y l1 (l2 + 1)) (fun r => INV r) := fun y hy => hrec _ _ _ ⟨hy, by omega, by omega⟩ (by omega)
  unfold b_X2_goByWell_109
  refine T_b (xT_tAt hz l2) (fun t _ => T_b (xT_oAt hz l2) (fun o _ => T_b (xT_can hz t o) (fun c _ => T_i (fun _ => T_nm (go _ (INV_s37 hz (fun x => absurd x (by decide))))) (fun _ => ?_))))
  refine T_b (xT_tAt hz l2) (fun t2 _ => T_b (xT_oAt hz l2) (fun o2 _ => T_b (xT_odds hz t2 o2) (fun r hr => T_i (fun _ => go _ hr.1.1) (fun _ => T_nm ?_))))
  have h3 : INV (sI r.2 37 4 (r.2.1 37 4 + 1)) := INV_s37 hr.1.1 (fun x => absurd x (by decide))
  exact T_b (xT_tAt h3 l2) (fun t3 _ => T_b (xT_oAt h3 l2) (fun o3 _ => T_b (xT_give h3 t3 o3) (fun s hs => go _ hs.1)))
theorem xT_step {q : SS} (h : INV q) (a b : Int32) : T (f_X2_weighStep q a b) (fun r => INV r ∧ r.1 37 = q.1 37) := by
  unfold f_X2_weighStep b_X2_weighStep_37
  have fin : ∀ (z : SS) (x y : Int64), INV z ∧ z.1 37 = q.1 37 → T (nm (sL z 37 6 (y * x)) fun q4 => nm (sL q4 37 7 ((q4.2 37 7) * (12 : Int64))) fun q5 => if b = 0 then (some q5) else ((f_X2_ticketAt q5 a).bind fun r6 => (f_X2_toAt q5 a).bind fun r7 => (f_X8_give q5 r6 r7).bind fun r8 => some r8)) (fun r => INV r ∧ r.1 37 = q.1 37) := by
    intro z x y hz
    refine T_nm (T_nm ?_)
    have h2 : INV (sL (sL z 37 6 (y * x)) 37 7 (((sL z 37 6 (y * x)).2 37 7) * (12 : Int64))) := INV_sLX (INV_sLX hz.1 rfl) rfl
    exact T_i (fun _ => T_some.mpr ⟨h2, hz.2⟩) (fun _ => T_b (xT_tAt h2 a) (fun t _ => T_b (xT_oAt h2 a) (fun o _ => T_b (xT_give h2 t o) (fun s hs => T_some.mpr ⟨hs.1, hs.2.trans hz.2⟩))))
  refine T_b (xT_tAt h a) (fun t _ => T_b (xT_oAt h a) (fun o _ => T_b (xT_odds h t o) (fun r hr => T_i (fun _ => fin _ _ _ hr.1) (fun _ => fin _ _ _ hr.1))))
theorem xT_all {q : SS} (h : INV q) : T (f_X2_weighAllThatCan q) (fun r => INV r) := by
  unfold f_X2_weighAllThatCan
  refine T_nm (T_nm ?_)
  unfold b_X2_weighAllThatCan_12
  refine T_fx2 (fun z l1 => INV z ∧ 0 ≤ l1.toInt ∧ l1.toInt ≤ 12) (fun _ l1 => (12 - l1.toInt).toNat) ?_ _ _ _ ⟨INV_sLX (INV_sLX h rfl) rfl, by decide, by decide⟩ (by unfold FU; decide)
  rintro rec z l1 ⟨hz, g0, g1⟩ hrec
  have j := RJ_e12 (INV_RJ hz)
  refine T_le (fun _ => T_some.mpr hz) (fun g => ?_)
  have e1 := inc1 (a := l1) (by omega) (by omega)
  have go : ∀ y : SS, INV y → T (rec y (l1 + 1)) (fun r => INV r) := fun y hy => hrec _ _ ⟨hy, by omega, by omega⟩ (by omega)
  unfold b_X2_weighAllThatCan_46
  exact T_b (xT_tAt hz l1) (fun t _ => T_b (xT_oAt hz l1) (fun o _ => T_b (xT_can hz t o) (fun c _ => T_i (fun _ => go _ hz) (fun _ => T_b (xT_step hz l1 1) (fun s hs => go _ hs.1)))))
theorem xT_set {q : SS} (h : INV q) (a : Int32) : T (f_X2_weighSet q a) (fun r => INV r) := by
  unfold f_X2_weighSet b_X2_weighSet_14
  have fin : ∀ x : Int32, T (nm (sL q 37 6 (1 : Int64)) fun q1 => nm (sL q1 37 7 (1 : Int64)) fun q2 => b_X2_weighSet_27 q2 a x (0 : Int32)) (fun r => INV r) := by
    intro x
    refine T_nm (T_nm ?_)
    unfold b_X2_weighSet_27
    refine T_fx4 (fun z l1 l2 l3 => INV z ∧ 0 ≤ l3.toInt ∧ l3.toInt ≤ 12) (fun _ _ _ l3 => (12 - l3.toInt).toNat) ?_ _ _ _ _ _ ⟨INV_sLX (INV_sLX h rfl) rfl, by decide, by decide⟩ (by unfold FU; decide)
    rintro rec z l1 l2 l3 ⟨hz, g0, g1⟩ hrec
    have j := RJ_e12 (INV_RJ hz)
    refine T_le (fun _ => T_i (fun _ => T_nm (T_some.mpr (INV_sLX hz rfl))) (fun _ => T_some.mpr hz)) (fun g => ?_)
    have e1 := inc1 (a := l3) (by omega) (by omega)
    have go : ∀ (y : SS) (u : Int32), INV y → T (rec y l1 u (l3 + 1)) (fun r => INV r) := fun y u hy => hrec _ _ _ _ ⟨hy, by omega, by omega⟩ (by omega)
    unfold b_X2_weighSet_49 b_X2_weighSet_88
    exact T_i (fun _ => T_b (xT_tAt hz l3) (fun t _ => T_b (xT_oAt hz l3) (fun o _ => T_b (xT_can hz t o) (fun c _ => T_i (fun _ => T_i (fun _ => go _ _ hz) (fun _ => go _ _ hz)) (fun _ => T_b (xT_step hz l3 _) (fun s hs => go _ _ hs.1)))))) (fun _ => T_b (xT_tAt hz l3) (fun t _ => T_b (xT_oAt hz l3) (fun o _ => T_b (xT_can hz t o) (fun c _ => T_i (fun _ => T_i (fun _ => go _ _ hz) (fun _ => go _ _ hz)) (fun _ => T_b (xT_step hz l3 _) (fun s hs => go _ _ hs.1))))))
  exact T_i (fun _ => fin 1) (fun _ => fin 0)
theorem xT_part (q : SS) (a b : Int64) (p : Int32) : T (f_X11_partOf q a b p) (fun _ => True) := by
  have l200 : (200 : Int32).toInt = 200 := rfl
  unfold f_X11_partOf
  refine T_i (fun _ => T_some.mpr trivial) (fun _ => T_i (fun _ => T_some.mpr trivial) (fun _ => ?_))
  unfold b_X11_partOf_25
  have fin : ∀ x : Int64, T (b_X11_partOf_61 q a b p x) (fun _ => True) := by
    intro x
    unfold b_X11_partOf_61
    by_cases z : x = 0
    · exact T_p (lgc_z.mpr z) (T_some.mpr trivial)
    · exact T_q (fun y => z (lgc_z.mp y)) (T_i (fun _ => T_n z (T_some.mpr trivial)) (fun _ => T_n z (T_some.mpr trivial)))
  refine T_fx6 (fun l0 l2 l4 _ _ l9 => l0 = a ∧ l2 = b ∧ l4 = p ∧ 0 ≤ l9.toInt ∧ l9.toInt ≤ 200) (fun _ _ _ _ _ l9 => (200 - l9.toInt).toNat) ?_ _ _ _ _ _ _ _ ⟨rfl, rfl, rfl, by decide, by decide⟩ (by unfold FU; decide)
  rintro rec l0 l2 l4 l5 l7 l9 ⟨rfl, rfl, rfl, g0, g1⟩ hrec
  refine T_le (fun _ => fin _) (fun g => ?_)
  have e1 := inc1 (a := l9) (by omega) (by omega)
  by_cases z : l7 = 0
  · exact T_p (lgc_z.mpr z) (fin _)
  · exact T_q (fun y => z (lgc_z.mp y)) (T_n z (T_nm (hrec _ _ _ _ _ _ ⟨rfl, rfl, rfl, by omega, by omega⟩ (by omega))))
theorem xT_real {q : SS} (h : INV q) (a : Int32) : T (f_X8_realsOf q a) (fun _ => True) := T_of (x_realsOf (PK_Y (INV_RY h)).2.1 (PK_Y (INV_RY h)).2.2 a) trivial
theorem xo_later {q : SS} (h : INV q) (a b c : Int32) : T (f_X11_later q a b c) (fun r => INV r.2) := by
  unfold f_X11_later
  refine T_rw (x_isShelf q a) (T_i (fun _ => T_some.mpr h) (fun _ => T_i (fun _ => T_some.mpr h) (fun _ => T_i (fun _ => T_some.mpr h) (fun _ => T_rw (x_isTicket q c) (T_i (fun _ => T_some.mpr h) (fun _ => T_rw (x_refBytes q a) (T_i (fun _ => ?_) (fun _ => T_some.mpr h))))))))
  exact T_b (xT_begin h a) (fun r hr => T_b (xT_well hr b) (fun s hs => T_b (xT_hold hs c) (fun v _ => T_some.mpr hs)))
theorem xo_eve {q : SS} (h : INV q) (a b c : Int32) : T (f_X11_eve q a b c) (fun r => INV r.2) := by
  have fin : T (b_X11_eve_45 q a b c) (fun r => INV r.2) := by
    unfold b_X11_eve_45
    refine T_rw (x_refBytes q a) (T_i (fun _ => ?_) (fun _ => T_some.mpr h))
    exact T_b (xT_begin h a) (fun r hr => T_b (xT_well hr b) (fun s hs => T_i (fun _ => T_rw rfl (T_some.mpr hs)) (fun _ => T_i (fun _ => T_rw rfl (T_some.mpr hs)) (fun _ => T_b (xT_real hs c) (fun v _ => T_some.mpr hs)))))
  unfold f_X11_eve
  exact T_rw (x_isShelf q a) (T_i (fun _ => T_some.mpr h) (fun _ => T_i (fun _ => T_some.mpr h) (fun _ => T_i (fun _ => T_some.mpr h) (fun _ => T_i (fun _ => fin) (fun _ => T_i (fun _ => fin) (fun _ => T_rw (x_isPerson q c) (T_i (fun _ => T_some.mpr h) (fun _ => fin))))))))
theorem xo_likely {q : SS} (h : INV q) (a b c : Int32) : T (f_X11_likely q a b c) (fun r => INV r.2) := by
  unfold f_X11_likely
  refine T_rw (x_refBytes q a) (T_i (fun _ => T_i (fun _ => T_some.mpr h) (fun _ => T_i (fun _ => T_some.mpr h) (fun _ => T_rw (isPart_x q c) (T_i (fun _ => T_some.mpr h) (fun _ => ?_))))) (fun _ => T_some.mpr h))
  exact T_b (xT_begin h a) (fun r hr => T_b (xT_set hr b) (fun s hs => T_rw rfl (T_rw rfl (T_b (xT_part s _ _ c) (fun v _ => T_some.mpr hs)))))
theorem xo_all {q : SS} (h : INV q) (a b : Int32) : T (f_X11_all q a b) (fun r => INV r.2) := by
  unfold f_X11_all
  refine T_rw (x_refBytes q a) (T_i (fun _ => T_rw (isPart_x q b) (T_i (fun _ => T_some.mpr h) (fun _ => ?_))) (fun _ => T_some.mpr h))
  exact T_b (xT_begin h a) (fun r hr => T_b (xT_all hr) (fun s hs => T_rw rfl (T_rw rfl (T_b (xT_part s _ _ b) (fun v _ => T_some.mpr hs)))))
/-! ===== drawn, behind ===== -/
theorem nn : True := trivial
theorem xT_slipD {q : SS} (h : INV q) (z : Int32) : T (f_X8_slipDrawn q z) (fun r => INV r.2) := by
  unfold f_X8_slipDrawn b_X8_slipDrawn_65
  have l0 : (0 : Int32).toInt = 0 := rfl
  refine T_rw rfl (T_rw rfl (T_le (fun _ => T_some.mpr h) (fun g => T_lt (fun g2 => ?_) (fun _ => T_some.mpr h))))
  refine T_n (by intro x; rw [x] at g; omega) (T_nm (T_n (by intro x; rw [x] at g2; omega) (T_nm (T_b (xT_odds h _ _) (fun r hr => T_i (fun _ => ?_) (fun _ => ?_))))))
  · exact T_p rfl (T_p (Or.inl rfl) (T_some.mpr hr.1.1))
  · exact T_q (by decide) (T_b (xT_give hr.1.1 _ _) (fun s hs => T_p (Or.inr rfl) (T_some.mpr hs.1)))
theorem xT_reals {q : SS} (h : INV q) : T (f_X8_reals q) (fun _ => True) := T_of (x_reals (PK_Y (INV_RY h)).2.1 (PK_Y (INV_RY h)).2.2) trivial
theorem xT_kingD {q : SS} (h : INV q) (z : Int32) : T (f_X8_kingDrawn q z) (fun _ => True) := by
  have pk := PK_Y (INV_RY h)
  have l0 : (0 : Int32).toInt = 0 := rfl
  unfold f_X8_kingDrawn
  refine T_b (xT_reals h) (fun r _ => T_lt (fun g => T_n (by intro x; rw [x] at g; omega) (T_nm ?_)) (fun _ => T_some.mpr trivial))
  unfold b_X8_kingDrawn_22
  refine T_fx2 (fun _ l4 => 0 ≤ l4.toInt ∧ l4.toInt ≤ 12) (fun _ l4 => (12 - l4.toInt).toNat) ?_ _ _ _ ⟨by decide, by decide⟩ (by unfold FU; decide)
  rintro rec l3 l4 ⟨g0, g1⟩ hrec
  have k12 := pk.2.2
  refine T_rw rfl (T_le (fun _ => T_some.mpr trivial) (fun g => ?_))
  have g' : l4.toInt < (q.1 1 2).toInt := g
  have e1 := inc1 (a := l4) (by omega) (by omega)
  have go : ∀ u : Int32, T (rec u (l4 + 1)) (fun _ => True) := fun u => hrec _ _ ⟨by omega, by omega⟩ (by omega)
  unfold b_X8_kingDrawn_60
  exact T_rw (x_isReal pk.2.2 l4) (T_i (fun _ => go _) (fun _ => T_i (fun _ => T_b (xT_hold h l4) (fun _ _ => T_some.mpr trivial)) (fun _ => go _)))
theorem xo_drawn {q : SS} (h : INV q) (a b c : Int32) : T (f_X11_drawn q a b c) (fun r => INV r.2) := by
  have fin : ∀ n m : Int32, n.toInt ≤ 30 → m.toInt ≤ 30 → T (b_X11_drawn_58 q a c n m) (fun r => INV r.2) := by
    intro n m hn hm
    unfold b_X11_drawn_58 b_X11_drawn_70
    refine T_fx8 (fun z _ l4 l5 _ _ _ l9 => INV z ∧ l4 = n ∧ l5 = m ∧ 0 ≤ l9.toInt ∧ l9.toInt ≤ 30) (fun _ _ _ _ _ _ _ l9 => (30 - l9.toInt).toNat) ?_ _ _ _ _ _ _ _ _ _ ⟨h, rfl, rfl, by decide, by decide⟩ (by unfold FU; decide)
    rintro rec z l3 l4 l5 l6 l7 l8 l9 ⟨hz, rfl, rfl, g0, g1⟩ hrec
    refine T_le (fun _ => T_i (fun _ => T_some.mpr hz) (fun _ => T_some.mpr hz)) (fun g => T_b (xT_now hz) (fun y hy => ?_))
    have e9 := inc1 (a := l9) (by omega) (by omega)
    unfold b_X11_drawn_87
    refine T_fx9 (fun z _ l4' l5' _ _ _ l9' l10 => INV z ∧ l4' = l4 ∧ l5' = l5 ∧ l9' = l9 ∧ 0 ≤ l10.toInt ∧ l10.toInt ≤ 30) (fun _ _ _ _ _ _ _ _ l10 => (30 - l10.toInt).toNat) ?_ _ _ _ _ _ _ _ _ _ _ ⟨hy, rfl, rfl, rfl, by decide, by decide⟩ (by unfold FU; decide)
    rintro rec2 y m3 m4 m5 m6 m7 m8 m9 l10 ⟨hy, rfl, rfl, rfl, f0, f1⟩ hrec2
    have go1 : ∀ u v w x : Int32, T (rec y u m4 m5 v w x (m9 + 1)) (fun r => INV r.2) := fun u v w x => hrec _ _ _ _ _ _ _ _ ⟨hy, rfl, rfl, by omega, by omega⟩ (by omega)
    unfold b_X11_drawn_156 b_X11_drawn_120
    refine T_le (fun _ => T_rw rfl (T_b (xT_kingD hy _) (fun _ _ => T_i (fun _ => T_nm (go1 _ _ _ _)) (fun _ => T_nm (go1 _ _ _ _))))) (fun f => T_rw rfl (T_b (xT_slipD hy _) (fun s hs => ?_)))
    have e10 := inc1 (a := l10) (by omega) (by omega)
    have go2 : ∀ u v w x : Int32, T (rec2 s.2 u m4 m5 v w x m9 (l10 + 1)) (fun r => INV r.2) := fun u v w x => hrec2 _ _ _ _ _ _ _ _ _ ⟨hs, rfl, rfl, rfl, by omega, by omega⟩ (by omega)
    exact T_i (fun _ => T_nm (go2 _ _ _ _)) (fun _ => T_nm (go2 _ _ _ _))
  have l30 : (30 : Int32).toInt = 30 := rfl
  unfold f_X11_drawn
  refine T_nm (T_nm (T_i (fun _ => T_some.mpr h) (fun _ => T_lt (fun _ => T_some.mpr h) (fun g => T_i (fun _ => T_some.mpr h) (fun _ => T_le (fun g2 => T_i (fun _ => fin _ _ (by omega) (by omega)) (fun _ => T_rw (x_isPerson q c) (T_i (fun _ => T_some.mpr h) (fun _ => fin _ _ (by omega) (by omega))))) (fun _ => T_some.mpr h))))))
/-! behind -/
theorem xT_asTold {q : SS} (h : INV q) : T (f_X9_isAsTold q) (fun _ => True) := by
  have pk := PK_Y (INV_RY h)
  have l12 : (12 : Int32).toInt = 12 := rfl
  unfold f_X9_isAsTold b_X9_isAsTold_2
  refine T_fx1 (fun l1 => 0 ≤ l1.toInt ∧ l1.toInt ≤ 12) (fun l1 => (12 - l1.toInt).toNat) ?_ _ _ ⟨by decide, by decide⟩ (by unfold FU; decide)
  rintro rec l1 ⟨g0, g1⟩ hrec
  refine T_rw rfl (T_i (fun _ => T_some.mpr trivial) (fun _ => T_le (fun _ => T_some.mpr trivial) (fun g => ?_)))
  have e1 := inc1 (a := l1) (by omega) (by omega)
  have go : T (rec (l1 + 1)) (fun _ => True) := hrec _ ⟨by omega, by omega⟩ (by omega)
  have v : vin l1 12 := ⟨g0, by show l1.toInt < 12; omega⟩
  unfold b_X9_isAsTold_48
  exact T_p v (T_i (fun _ => go) (fun _ => T_p v (T_b (xT_hold h l1) (fun _ _ => T_i (fun _ => go) (fun _ => T_some.mpr trivial)))))
theorem xT_bc (q : SS) (a : Int32) : T (f_J6_bitCount_0f7a4 q a) (fun _ => True) := by
  unfold f_J6_bitCount_0f7a4
  exact T_nm (T_nm (T_nm (T_nm (T_nm (T_some.mpr trivial)))))
/-- the same eve, and what holds -/
def IE (q r : SS) : Prop := INV r ∧ r.1 37 = q.1 37
theorem IE_s {q r : SS} (h : IE q r) {k i : Nat} {x : Int32} (hw : wX k i = true) (hk : k ≠ 37) : IE q (sI r k i x) := ⟨INV_sX h.1 hw hk, (sI_ro (Ne.symm hk)).trans h.2⟩
theorem IE_l {q r : SS} (h : IE q r) {k i : Nat} {x : Int64} (hk : vX k = true) : IE q (sL r k i x) := ⟨INV_sLX h.1 hk, h.2⟩
theorem xT_arrive {q r : SS} (h : IE q r) (a : Int32) (b : Int64) : T (f_X9_arrive r a b) (fun s => IE q s) := by
  have w39 : ∀ i, wX 39 i = true := fun i => by unfold wX; simp
  have t100 : ∀ z, IE q z → T (b_X9_arrive_100 z a) (fun s => IE q s) := fun z hz => by
    unfold b_X9_arrive_100
    exact T_nm (T_nm (T_some.mpr (IE_s (IE_s hz (w39 _) (by decide)) (w39 _) (by decide))))
  have t90 : ∀ z, IE q z → T (b_X9_arrive_90 z a b) (fun s => IE q s) := fun z hz => by
    unfold b_X9_arrive_90
    exact T_nm (T_nm (t100 _ (IE_s (IE_l hz rfl) (w39 _) (by decide))))
  have t58 : ∀ z, IE q z → T (b_X9_arrive_58 z a b) (fun s => IE q s) := fun z hz => by
    unfold b_X9_arrive_58
    exact T_i (fun _ => t90 z hz) (fun _ => T_i (fun _ => t100 z hz) (fun _ => T_i (fun _ => T_i (fun _ => t100 z hz) (fun _ => t90 z hz)) (fun _ => t100 z hz)))
  have t47 : ∀ z u, IE q z → T (b_X9_arrive_47 z a b u) (fun s => IE q s) := fun z u hz => by
    unfold b_X9_arrive_47
    exact T_nm (T_nm (t58 _ (IE_s (IE_s hz (w39 _) (by decide)) (w39 _) (by decide))))
  unfold f_X9_arrive
  exact T_b (xT_asTold h.1) (fun _ _ => T_i (fun _ => T_some.mpr h) (fun _ => T_b (xT_bc r a) (fun _ _ => T_i (fun _ => t47 _ _ h) (fun _ => T_i (fun _ => t47 _ _ h) (fun _ => T_i (fun _ => T_i (fun _ => t58 _ h) (fun _ => t47 _ _ h)) (fun _ => t58 _ h))))))
theorem xT_oddsAt {q r : SS} (h : IE q r) (a b c : Int32) : T (f_X9_oddsAt r a b c) (fun s => IE q s.2) := by
  have pk := PK_Y (INV_RY h.1)
  have l0 : (0 : Int32).toInt = 0 := rfl
  have l864 : (864 : Int32).toInt = 864 := rfl
  unfold f_X9_oddsAt b_X9_oddsAt_99
  refine T_b (xT_hold h.1 b) (fun r1 _ => T_b (xT_held h.1 c) (fun r2 _ => T_nm ?_))
  refine T_lt (fun _ => T_some.mpr h) (fun g => T_lt (fun g2 => ?_) (fun _ => T_some.mpr h))
  generalize (((a * (6 : Int32)) + r1) * (12 : Int32)) + r2 = v at *
  have vv : vin v 864 := ⟨by omega, by show v.toInt < 864; omega⟩
  refine T_p vv (T_i (fun _ => T_rw (x_get6 pk.2.2 b) (T_rw (x_hourNow r) (T_b (x_oddsBy pk _ _ _ _ _) (fun s hs => T_p vv (T_nm (T_p vv (T_some.mpr ?_))))))) (fun _ => T_p vv (T_some.mpr h)))
  exact IE_s ⟨INV_wE hs.1 h.1, (Fr_r hs.1 (fun _ => rfl)).trans h.2⟩ (by unfold wX; simp) (by decide)
theorem xT_spread {q : SS} (hs : (q.1 37 3).toInt ≤ 12) : ∀ (n : Nat) (k : Int32), 0 ≤ k.toInt → k.toInt ≤ 12 → 13 - k.toInt ≤ (n : Int) → ∀ r, IE q r → ∀ a b, T (g_X9_spread n r k a b) (fun s => IE q s)
  | 0, k, k0, k1, hn, r, h, a, b => absurd hn (by omega)
  | n + 1, k, k0, k1, hn, r, h, a, b => by
    show T (fb_X9_spread (g_X9_spread n) r k a b) _
    unfold fb_X9_spread f_X2_size
    refine T_rw rfl ?_
    rw [h.2]
    refine T_lt (fun g => ?_) (fun _ => T_b (xT_arrive h a b) (fun s hs => T_some.mpr hs))
    have e1 := inc1 (a := k) (by omega) (by omega)
    have ih : ∀ r, IE q r → ∀ a b, T (g_X9_spread n r (k + 1) a b) (fun s => IE q s) := fun r h a b => xT_spread hs n (k + 1) (by omega) (by omega) (by omega) r h a b
    have give : ∀ (z : SS) (x y : Int32), IE q z → T (f_X8_give z x y) (fun s => IE q s) := fun z x y hz => T_mono (xT_give hz.1 x y) (fun s hs => ⟨hs.1, hs.2.trans hz.2⟩)
    have t90 : ∀ (z : SS) (x y o : Int32), IE q z → T (b_X9_spread_90 (g_X9_spread n) z k a b x y o) (fun s => IE q s) := fun z x y o hz => by
      unfold b_X9_spread_90
      exact T_b (xT_hold hz.1 x) (fun f _ => T_b (ih z hz _ _) (fun z2 h2 => T_b (give z2 _ _ h2) (fun z3 h3 => T_b (ih z3 h3 _ _) (fun z4 h4 => T_b (give z4 _ _ h4) (fun z5 h5 => T_some.mpr h5)))))
    exact T_b (xT_tAt h.1 k) (fun t _ => T_b (xT_oAt h.1 k) (fun o _ => T_b (xT_can h.1 t o) (fun c _ => T_i (fun _ => T_b (ih r h _ _) (fun s hs => T_some.mpr hs)) (fun _ => T_i (fun _ => t90 _ _ _ _ h) (fun _ => T_b (xT_oddsAt h k t o) (fun s hs => t90 _ _ _ _ hs))))))
theorem xT_go {q : SS} (h : INV q) (a b : Int32) (hb : b = 0 ∨ b = 1) : T (f_X9_goThrough q a b) (fun s => INV s) := by
  have w39 : ∀ i, wX 39 i = true := fun i => by unfold wX; simp
  have w40 : ∀ i, wX 40 i = true := fun i => by unfold wX; simp
  have w41 : ∀ i, wX 41 i = true := fun i => by unfold wX; simp
  have s12 := RJ_e12 (INV_RJ h)
  have l12 : (12 : Int32).toInt = 12 := rfl
  have l864 : (864 : Int32).toInt = 864 := rfl
  have fin : ∀ z, IE q z → T (b_X9_goThrough_76 z b) (fun s => INV s) := fun z hz => by
    unfold b_X9_goThrough_76
    refine T_p hb (T_nm (T_nm (T_nm (T_nm (T_nm (T_nm (T_nm ?_)))))))
    have h7 := IE_s (IE_l (IE_s (IE_s (IE_s (IE_s (IE_s hz (x := b) (w39 5) (by decide)) (x := 0) (w39 6) (by decide)) (x := -2) (w39 7) (by decide)) (x := -2) (w39 8) (by decide)) (x := 4095) (w39 9) (by decide)) (k := 39) (i := 10) (x := 0) rfl) (x := -2) (w39 11) (by decide)
    exact T_b (xT_spread s12 60 0 (by decide) (by decide) (by decide) _ h7 0 1) (fun s hs => T_some.mpr hs.1)
  have mid : ∀ z, IE q z → T (b_X9_goThrough_48 z b 0) (fun s => INV s) := fun z hz => by
    unfold b_X9_goThrough_48
    refine T_fx3 (fun z l3 l4 => IE q z ∧ l3 = b ∧ 0 ≤ l4.toInt ∧ l4.toInt ≤ 864) (fun _ _ l4 => (864 - l4.toInt).toNat) ?_ _ _ _ _ ⟨hz, rfl, by decide, by decide⟩ (by unfold FU; decide)
    rintro rec z l3 l4 ⟨hz, rfl, g0, g1⟩ hrec
    refine T_le (fun _ => fin z hz) (fun g => T_i (fun _ => fin z hz) (fun _ => T_vp g0 (by show l4.toInt < 864; omega) (T_nm ?_)))
    have e1 := inc1 (a := l4) (by omega) (by omega)
    exact hrec _ _ _ ⟨IE_s hz (w41 _) (by decide), rfl, by omega, by omega⟩ (by omega)
  unfold f_X9_goThrough b_X9_goThrough_3
  refine T_fx4 (fun z l2 l3 l4 => IE q z ∧ l3 = b ∧ 0 ≤ l4.toInt ∧ l4.toInt ≤ 12) (fun _ _ _ l4 => (12 - l4.toInt).toNat) ?_ _ _ _ _ _ ⟨⟨h, rfl⟩, rfl, by decide, by decide⟩ (by unfold FU; decide)
  rintro rec z l2 l3 l4 ⟨hz, rfl, g0, g1⟩ hrec
  refine T_le (fun _ => mid z hz) (fun g => ?_)
  have e1 := inc1 (a := l4) (by omega) (by omega)
  have v : vin l4 12 := ⟨g0, by show l4.toInt < 12; omega⟩
  unfold b_X9_goThrough_38
  exact T_rw (x_sizeOf z l2) (T_i (fun _ => T_p v (T_nm (hrec _ _ _ _ ⟨IE_s hz (w40 _) (by decide), rfl, by omega, by omega⟩ (by omega)))) (fun _ => T_rw (x_get7 z l2 l4 (sz60 hz.1 l2).2) (T_p v (T_nm (hrec _ _ _ _ ⟨IE_s hz (w40 _) (by decide), rfl, by omega, by omega⟩ (by omega))))))
theorem xo_behind {q : SS} (h : INV q) (a b c : Int32) : T (f_X11_behind q a b c) (fun r => INV r.2) := by
  have fin : ∀ (z : SS) (x : Int32), INV z → x = 0 ∨ x = 1 → T (b_X11_behind_114 z c x b) (fun r => INV r.2) := fun z x hz hx => by
    unfold b_X11_behind_114
    refine T_b (xT_go hz b x hx) (fun s hs => ?_)
    refine T_sw (fun _ => T_rw rfl (T_some.mpr hs)) (fun _ => T_sw (fun _ => T_rw rfl (T_some.mpr hs)) (fun _ => T_sw (fun _ => T_rw rfl (T_some.mpr hs)) (fun _ => T_sw (fun _ => ?_) (fun _ => T_sw0 (T_rw rfl (T_some.mpr hs))))))
    unfold f_X9_certain
    exact T_b (T_i (fun _ => T_some.mpr trivial) (fun _ => T_some.mpr trivial) : T _ (fun _ => True)) (fun _ _ => T_some.mpr hs)
  unfold f_X11_behind
  exact T_rw (x_isShelf q a) (T_i (fun _ => T_some.mpr h) (fun _ => T_rw (x_isShelf q b) (T_i (fun _ => T_some.mpr h) (fun _ => T_i (fun _ => T_some.mpr h) (fun _ => T_i (fun _ => T_rw (x_isEmpty q a) (T_i (fun _ => T_rw (x_isEmpty q b) (T_i (fun _ => T_rw (x_refBytes q a) (T_i (fun _ => T_rw (x_refBytes q b) (T_i (fun _ => T_b (xT_begin h a) (fun s hs => T_i (fun _ => fin _ _ hs (Or.inr rfl)) (fun _ => fin _ _ hs (Or.inl rfl)))) (fun _ => T_some.mpr h))) (fun _ => T_some.mpr h))) (fun _ => T_some.mpr h))) (fun _ => T_some.mpr h))) (fun _ => T_some.mpr h))))))
/-! ===== rid, first, hire: the class answers ===== -/
def IR (q r : SS) : Prop := INV r ∧ r.1 42 = q.1 42
theorem IR_s {q r : SS} (h : IR q r) {k i : Nat} {x : Int32} (hw : wX k i = true) (hk : k ≠ 37) (h42 : k ≠ 42) : IR q (sI r k i x) := ⟨INV_sX h.1 hw hk, (sI_ro (Ne.symm h42)).trans h.2⟩
theorem w4 {k : Nat} (h : k = 42 ∨ k = 43 ∨ k = 44 ∨ k = 45 ∨ k = 46) (i : Nat) : wX k i = true := by
  rcases h with rfl | rfl | rfl | rfl | rfl <;> (unfold wX; simp)
theorem xT_sort {q : SS} (h : INV q) : T (f_X6_sortTickets q) (fun r => IR q r) := by
  have l4 : (4 : Int32).toInt = 4 := rfl
  have l0 : (0 : Int32).toInt = 0 := rfl
  have lm : (-1 : Int32).toInt = -1 := rfl
  unfold f_X6_sortTickets b_X6_sortTickets_2
  refine T_fx2 (fun z l1 => IR q z ∧ 0 ≤ l1.toInt ∧ l1.toInt ≤ 4) (fun _ l1 => (4 - l1.toInt).toNat) ?_ _ _ _ ⟨⟨h, rfl⟩, by decide, by decide⟩ (by unfold FU; decide)
  rintro rec z l1 ⟨hz, g0, g1⟩ hrec
  refine T_le (fun _ => T_rw rfl (T_nm ?_)) (fun g => ?_)
  · have pk := PK_Y (INV_RY hz.1)
    have ed := dec1 (a := z.1 1 2) pk.2.1
    have k12 := pk.2.2
    have k0 := pk.2.1
    have kk := RY_k (INV_RY hz.1)
    unfold b_X6_sortTickets_38
    refine T_fx2 (fun y m => IR q y ∧ -1 ≤ m.toInt ∧ m.toInt < 12) (fun _ m => (m.toInt + 1).toNat) ?_ _ _ _ ⟨hz, by omega, by omega⟩ (by unfold FU; omega)
    rintro rec2 y m ⟨hy, f0, f1⟩ hrec2
    refine T_lt (fun _ => T_some.mpr hy) (fun f => ?_)
    have hY := INV_RY hy.1
    have pky := PK_Y hY
    have em : (m + -1).toInt = m.toInt - 1 := by rw [tadd (by omega) (by omega), lm]; omega
    have go : ∀ u, IR q u → T (rec2 u (m + -1)) (fun r => IR q r) := fun u hu => hrec2 _ _ ⟨hu, by omega, by omega⟩ (by omega)
    unfold b_X6_sortTickets_101
    refine T_rw (x_get6 pky.2.2 m) ?_
    by_cases c : 0 ≤ m.toInt ∧ m.toInt < (y.1 1 2).toInt
    · rw [if_pos c, RY_folds hY]
      have rf := RY_rfolds hY m.toNatClampNeg (by rw [cnI c.1, ← RY_k hY]; exact c.2)
      refine T_le (fun _ => go y hy) (fun e => T_rw (x_isReal pky.2.2 m) (T_i (fun _ => go y hy) (fun _ => T_b (xT_hold hy.1 m) (fun _ _ => T_i (fun _ => ?_) (fun _ => go y hy)))))
      have v : vin (y.1 67 m.toNatClampNeg) 4 := ⟨rf.1, by show (y.1 67 m.toNatClampNeg).toInt < 4; omega⟩
      exact T_p v (T_p v (T_nm (T_p v (T_nm (go _ (IR_s (IR_s hy (w4 (by decide) _) (by decide) (by decide)) (w4 (by decide) _) (by decide) (by decide)))))))
    · rw [if_neg c]
      refine T_len (by decide) (T_rw (x_isReal pky.2.2 m) (T_bn (fun x => c ⟨x.1, x.2.1⟩) (go y hy)))
  · have e1 := inc1 (a := l1) (by omega) (by omega)
    have v : vin l1 4 := ⟨g0, by show l1.toInt < 4; omega⟩
    exact T_p v (T_nm (T_p v (T_nm (hrec _ _ ⟨IR_s (IR_s hz (w4 (by decide) _) (by decide) (by decide)) (w4 (by decide) _) (by decide) (by decide), by omega, by omega⟩ (by omega)))))
theorem pl {a b c d : Int32} (ha : 0 ≤ a.toInt ∧ a.toInt ≤ 2) (hb : 0 ≤ b.toInt ∧ b.toInt ≤ 5) (hc : 0 ≤ c.toInt ∧ c.toInt ≤ 2) (hd : 0 ≤ d.toInt ∧ d.toInt ≤ 3) : 0 ≤ ((((((a * (6 : Int32)) + b) * (3 : Int32)) + c) * (4 : Int32)) + d).toInt ∧ ((((((a * (6 : Int32)) + b) * (3 : Int32)) + c) * (4 : Int32)) + d).toInt < 216 := by
  have l6 : (6 : Int32).toInt = 6 := rfl
  have l3 : (3 : Int32).toInt = 3 := rfl
  have l4 : (4 : Int32).toInt = 4 := rfl
  have e1 : (a * 6).toInt = a.toInt * 6 := by rw [tmul (by rw [l6]; omega) (by rw [l6]; omega), l6]
  have e2 : (a * 6 + b).toInt = a.toInt * 6 + b.toInt := by rw [tadd (by omega) (by omega), e1]
  have e3 : ((a * 6 + b) * 3).toInt = (a.toInt * 6 + b.toInt) * 3 := by rw [tmul (by rw [l3, e2]; omega) (by rw [l3, e2]; omega), l3, e2]
  have e4 : ((a * 6 + b) * 3 + c).toInt = (a.toInt * 6 + b.toInt) * 3 + c.toInt := by rw [tadd (by omega) (by omega), e3]
  have e5 : (((a * 6 + b) * 3 + c) * 4).toInt = ((a.toInt * 6 + b.toInt) * 3 + c.toInt) * 4 := by rw [tmul (by rw [l4, e4]; omega) (by rw [l4, e4]; omega), l4, e4]
  rw [tadd (by omega) (by omega), e5]
  omega
theorem xT_hourW {q : SS} (h : INV q) {a : Int32} (ha : 0 ≤ a.toInt ∧ a.toInt ≤ 2) : T (f_X6_workOutHour q a) (fun r => IR q r) := by
  have l4 : (4 : Int32).toInt = 4 := rfl
  unfold f_X6_workOutHour
  refine T_rw (x_hourNow q) (T_nm ?_)
  unfold b_X6_workOutHour_17
  refine T_fx4 (fun z l1 _ l3 => IR q z ∧ l1 = a ∧ 0 ≤ l3.toInt ∧ l3.toInt ≤ 6) (fun _ _ _ l3 => (6 - l3.toInt).toNat) ?_ _ _ _ _ _ ⟨⟨h, rfl⟩, rfl, by decide, by decide⟩ (by unfold FU; decide)
  rintro rec z l1 l2 l3 ⟨hz, rfl, g0, g1⟩ hrec
  refine T_rw rfl (T_le (fun _ => T_some.mpr hz) (fun g => T_b (xT_held hz.1 l3) (fun hb _ => ?_)))
  have g' : l3.toInt < (z.1 1 1).toInt := g
  have p6 := (PK_Y (INV_RY hz.1)).1.2
  have e3 := inc1 (a := l3) (by omega) (by omega)
  have go : ∀ y, IR q y → T (rec y l1 l2 (l3 + 1)) (fun r => IR q r) := fun y hy => hrec _ _ _ _ ⟨hy, rfl, by omega, by omega⟩ (by omega)
  unfold b_X6_workOutHour_41
  refine T_fx6 (fun y m1 m2 m3 _ l5 => IR q y ∧ m1 = l1 ∧ m2 = l2 ∧ m3 = l3 ∧ 0 ≤ l5.toInt ∧ l5.toInt ≤ 3) (fun _ _ _ _ _ l5 => (3 - l5.toInt).toNat) ?_ _ _ _ _ _ _ _ ⟨hz, rfl, rfl, rfl, by decide, by decide⟩ (by unfold FU; decide)
  rintro rec2 y m1 m2 m3 m4 l5 ⟨hy, rfl, rfl, rfl, f0, f1⟩ hrec2
  refine T_lt (fun _ => go y hy) (fun f => ?_)
  have e5 := inc1 (a := l5) (by omega) (by omega)
  have go2 : ∀ u, IR q u → T (rec2 u m1 m2 m3 m4 (l5 + 1)) (fun r => IR q r) := fun u hu => hrec2 _ _ _ _ _ _ ⟨hu, rfl, rfl, rfl, by omega, by omega⟩ (by omega)
  unfold b_X6_workOutHour_50
  refine T_fx7 (fun u n1 n2 n3 n4 n5 l6 => IR q u ∧ n1 = m1 ∧ n2 = m2 ∧ n3 = m3 ∧ n4 = m4 ∧ n5 = l5 ∧ 0 ≤ l6.toInt ∧ l6.toInt ≤ 4) (fun _ _ _ _ _ _ l6 => (4 - l6.toInt).toNat) ?_ _ _ _ _ _ _ _ _ ⟨hy, rfl, rfl, rfl, rfl, rfl, by decide, by decide⟩ (by unfold FU; decide)
  rintro rec3 u n1 n2 n3 n4 n5 l6 ⟨hu, rfl, rfl, rfl, rfl, rfl, d0, d1⟩ hrec3
  refine T_le (fun _ => go2 u hu) (fun d => T_rw rfl ?_)
  have e6 := inc1 (a := l6) (by omega) (by omega)
  have go3 : ∀ v, IR q v → T (rec3 v n1 n2 n3 n4 n5 (l6 + 1)) (fun r => IR q r) := fun v hv => hrec3 _ _ _ _ _ _ _ ⟨hv, rfl, rfl, rfl, rfl, rfl, by omega, by omega⟩ (by omega)
  have pp := pl (a := n1) (b := n3) (c := n5) (d := l6) ha ⟨g0, by omega⟩ ⟨f0, by omega⟩ ⟨d0, by omega⟩
  unfold b_X6_workOutHour_114
  refine T_i (fun _ => go3 u hu) (fun _ => T_vp d0 (by show l6.toInt < 4; omega) (T_i (fun _ => go3 u hu) (fun _ => T_b (x_oddsBy (PK_Y (INV_RY hu.1)) _ _ _ _ _) (fun s hs => T_vp pp.1 pp.2 (T_nm (go3 _ (IR_s ⟨INV_wE hs.1 hu.1, (Fr_r hs.1 (fun _ => rfl)).trans hu.2⟩ (w4 (by decide) _) (by decide) (by decide)))))))) 
theorem xT_ridB {q : SS} (h : INV q) {a b : Int32} (hb : 0 ≤ b.toInt ∧ b.toInt ≤ 3) : T (f_X6_begin q a b) (fun r => INV r ∧ r.1 42 7 = b) := by
  unfold f_X6_begin
  refine T_b (xT_now h) (fun r hr => T_nm (T_nm ?_))
  have h3 : INV (sI (sI r 42 6 a) 42 7 b) := INV_sX (INV_sX hr (w4 (by decide) _) (by decide)) (w4 (by decide) _) (by decide)
  refine T_b (xT_reals h3) (fun x _ => T_nm ?_)
  have h5 : INV (sI (sI (sI r 42 6 a) 42 7 b) 42 8 x) := INV_sX h3 (w4 (by decide) _) (by decide)
  refine T_b (xT_real h5 a) (fun y _ => T_nm ?_)
  have h7 : INV (sI (sI (sI (sI r 42 6 a) 42 7 b) 42 8 x) 42 9 (x - y)) := INV_sX h5 (w4 (by decide) _) (by decide)
  have e7 : (sI (sI (sI (sI r 42 6 a) 42 7 b) 42 8 x) 42 9 (x - y)).1 42 7 = b := rfl
  show T (b_X6_begin_47 (sI (sI (sI (sI r 42 6 a) 42 7 b) 42 8 x) 42 9 (x - y)) 0) _
  generalize sI (sI (sI (sI r 42 6 a) 42 7 b) 42 8 x) 42 9 (x - y) = Q at *
  have l6 : (6 : Int32).toInt = 6 := rfl
  unfold b_X6_begin_47
  refine T_fx2 (fun z l3 => IR Q z ∧ 0 ≤ l3.toInt ∧ l3.toInt ≤ 6) (fun _ l3 => (6 - l3.toInt).toNat) ?_ _ _ _ ⟨⟨h7, rfl⟩, by decide, by decide⟩ (by unfold FU; decide)
  rintro rec z l3 ⟨hz, g0, g1⟩ hrec
  have e1 := inc1 (a := l3)
  refine T_le (fun _ => T_b (xT_sort hz.1) (fun s hs => ?_)) (fun g => T_vp g0 (by show l3.toInt < 6; omega) (T_nm (hrec _ _ ⟨IR_s hz (w4 (by decide) _) (by decide) (by decide), by have := e1 (by omega) (by omega); omega, by have := e1 (by omega) (by omega); omega⟩ (by have := e1 (by omega) (by omega); omega))))
  have hs2 : IR Q s := ⟨hs.1, hs.2.trans hz.2⟩
  unfold b_X6_begin_72
  refine T_fx2 (fun z l => IR Q z ∧ 0 ≤ l.toInt ∧ l.toInt ≤ 3) (fun _ l => (3 - l.toInt).toNat) ?_ _ _ _ ⟨hs2, by decide, by decide⟩ (by unfold FU; decide)
  rintro rec2 z l ⟨hz, f0, f1⟩ hrec2
  have e42 : z.1 42 7 = b := by rw [hz.2]; exact e7
  rw [e42]
  refine T_le (fun _ => T_some.mpr ⟨hz.1, e42⟩) (fun f => T_b (xT_hourW hz.1 ⟨f0, by omega⟩) (fun y hy => ?_))
  have e2 := inc1 (a := l) (by omega) (by omega)
  exact hrec2 _ _ ⟨⟨hy.1, hy.2.trans hz.2⟩, by omega, by omega⟩ (by omega)
theorem xT_then {q : SS} (h : INV q) {a b c : Int32} (hb : 0 ≤ b.toInt ∧ b.toInt ≤ 3) (hc : 0 ≤ c.toInt ∧ c.toInt ≤ 5) : T (f_X6_oddsThen q a b c) (fun _ => True) := by
  have l0 : (0 : Int32).toInt = 0 := rfl
  have l216 : (216 : Int32).toInt = 216 := rfl
  unfold f_X6_oddsThen f_X6_placeOf
  refine T_vp hc.1 (by show c.toInt < 6; omega) (T_rw rfl (T_vp hb.1 (by show b.toInt < 4; omega) (T_i (fun _ => T_some.mpr trivial) (fun _ => T_lt (fun _ => T_some.mpr trivial) (fun g => T_le (fun _ => T_some.mpr trivial) (fun g2 => T_vp (by omega) (by omega) (T_some.mpr trivial)))))))
/-- best and tried, with enough depth -/
theorem xT_best {q : SS} (h7 : (q.1 42 7).toInt ≤ 3) : ∀ n : Nat, (∀ hh : Int32, 0 ≤ hh.toInt → hh.toInt ≤ 3 → 2 * (3 - hh.toInt) + 1 ≤ (n : Int) → ∀ r g, IR q r → T ((g_X6_best n).1 r hh g) (fun s => IR q s.2)) ∧ (∀ hh b c : Int32, 0 ≤ hh.toInt → hh.toInt ≤ 2 → 2 * (3 - hh.toInt) ≤ (n : Int) → (0 ≤ b.toInt ∧ b.toInt ≤ 3) → (0 ≤ c.toInt ∧ c.toInt ≤ 5) → ∀ r g s, IR q r → T ((g_X6_best n).2 r hh g b c s) (fun s => IR q s.2))
  | 0 => ⟨fun hh h0 h1 h2 => absurd h2 (by omega), fun hh b c h0 h1 h2 => absurd h2 (by omega)⟩
  | n + 1 => by
    obtain ⟨ih1, ih2⟩ := xT_best h7 n
    have l3 : (3 : Int32).toInt = 3 := rfl
    have l4 : (4 : Int32).toInt = 4 := rfl
    constructor
    · intro hh h0 h1 hn r g hr
      show T (fb_X6_best (g_X6_best n) r hh g) _
      unfold fb_X6_best b_X6_best_13
      refine T_i (fun _ => T_some.mpr hr) (fun _ => T_lt (fun g3 => ?_) (fun _ => T_some.mpr hr))
      have e1 := inc1 (a := hh) (by omega) (by omega)
      refine T_b (ih1 (hh + 1) (by omega) (by omega) (by omega) r g hr) (fun s hs => T_nm ?_)
      unfold b_X6_best_38
      refine T_fx6 (fun z l1 l2 _ _ l5 => IR q z ∧ l1 = hh ∧ l2 = g ∧ 0 ≤ l5.toInt ∧ l5.toInt ≤ 4) (fun _ _ _ _ _ l5 => (4 - l5.toInt).toNat) ?_ _ _ _ _ _ _ _ ⟨hs, rfl, rfl, by decide, by decide⟩ (by unfold FU; decide)
      rintro rec z l1 l2 l3' l4' l5 ⟨hz, rfl, rfl, g0, g1⟩ hrec
      refine T_le (fun _ => T_some.mpr hz) (fun g5 => ?_)
      have e5 := inc1 (a := l5) (by omega) (by omega)
      unfold b_X6_best_47
      refine T_fx7 (fun y m1 m2 _ _ m5 l6 => IR q y ∧ m1 = l1 ∧ m2 = l2 ∧ m5 = l5 ∧ 0 ≤ l6.toInt ∧ l6.toInt ≤ 6) (fun _ _ _ _ _ _ l6 => (6 - l6.toInt).toNat) ?_ _ _ _ _ _ _ _ _ ⟨hz, rfl, rfl, rfl, by decide, by decide⟩ (by unfold FU; decide)
      rintro rec2 y m1 m2 m3 m4 m5 l6 ⟨hy, rfl, rfl, rfl, f0, f1⟩ hrec2
      have p6 := (PK_Y (INV_RY hy.1)).1.2
      refine T_rw rfl (T_le (fun _ => hrec _ _ _ _ _ _ ⟨hy, rfl, rfl, by omega, by omega⟩ (by omega)) (fun g6 => ?_))
      have g6' : l6.toInt < (y.1 1 1).toInt := g6
      have e6 := inc1 (a := l6) (by omega) (by omega)
      exact T_b (ih2 m1 m5 l6 (by omega) (by omega) (by omega) ⟨by omega, by omega⟩ ⟨by omega, by omega⟩ y m2 m3 hy) (fun u hu => T_nm (hrec2 _ _ _ _ _ _ _ ⟨hu, rfl, rfl, rfl, by omega, by omega⟩ (by omega)))
    · intro hh b c h0 h1 hn hb hc r g s hr
      show T (fb_X6_tried (g_X6_best n) r hh g b c s) _
      unfold fb_X6_tried
      have vb : vin b 4 := ⟨hb.1, by show b.toInt < 4; omega⟩
      have vc : vin c 6 := ⟨hc.1, by show c.toInt < 6; omega⟩
      have e1 := inc1 (a := hh) (by omega) (by omega)
      refine T_b (xT_then hr.1 hb hc) (fun o _ => T_i (fun _ => T_some.mpr hr) (fun _ => T_p vb (T_p vb (T_nm (T_p vc (T_p vc (T_nm ?_)))))))
      refine T_b (ih1 (hh + 1) (by omega) (by omega) (by omega) _ (g + 1) (IR_s (IR_s hr (w4 (by decide) _) (by decide) (by decide)) (w4 (by decide) _) (by decide) (by decide))) (fun u hu => T_p vb (T_p vb (T_nm (T_p vc (T_p vc (T_nm (T_some.mpr (IR_s (IR_s hu (w4 (by decide) _) (by decide) (by decide)) (w4 (by decide) _) (by decide) (by decide)))))))))
theorem xo_first {q : SS} (h : INV q) (a b : Int32) : T (f_X11_first q a b) (fun r => INV r.2) := by
  have l3 : (3 : Int32).toInt = 3 := rfl
  have l4 : (4 : Int32).toInt = 4 := rfl
  unfold f_X11_first
  refine T_rw (x_isPerson q a) (T_i (fun _ => T_some.mpr h) (fun _ => T_lt (fun _ => T_some.mpr h) (fun g0 => T_le (fun g3 => ?_) (fun _ => T_some.mpr h))))
  have hb : 0 ≤ b.toInt ∧ b.toInt ≤ 3 := ⟨g0, by omega⟩
  refine T_b (xT_ridB h hb) (fun r hr => ?_)
  obtain ⟨hI, e7⟩ := hr
  have h7 : (r.1 42 7).toInt ≤ 3 := by rw [e7]; exact hb.2
  refine T_b (Q := fun s => INV s.2) ?_ (fun s hs => T_some.mpr hs)
  unfold f_X6_firstSlipping
  refine T_i (fun _ => T_some.mpr hI) (fun _ => T_b ((xT_best h7 60).1 1 (by decide) (by decide) (by decide) r 0 ⟨hI, rfl⟩) (fun s hs => T_nm ?_))
  unfold b_X6_firstSlipping_28
  refine T_fx5 (fun z _ _ _ l4 => IR r z ∧ 0 ≤ l4.toInt ∧ l4.toInt ≤ 4) (fun _ _ _ _ l4 => (4 - l4.toInt).toNat) ?_ _ _ _ _ _ _ ⟨hs, by decide, by decide⟩ (by unfold FU; decide)
  rintro rec z l1 l2 l3' l4' ⟨hz, f0, f1⟩ hrec
  refine T_le (fun _ => T_some.mpr hz.1) (fun f => ?_)
  have e4 := inc1 (a := l4') (by omega) (by omega)
  unfold b_X6_firstSlipping_37
  refine T_fx6 (fun y _ _ _ m4 l5 => IR r y ∧ m4 = l4' ∧ 0 ≤ l5.toInt ∧ l5.toInt ≤ 6) (fun _ _ _ _ _ l5 => (6 - l5.toInt).toNat) ?_ _ _ _ _ _ _ _ ⟨hz, rfl, by decide, by decide⟩ (by unfold FU; decide)
  rintro rec2 y m1 m2 m3 m4 l5 ⟨hy, rfl, d0, d1⟩ hrec2
  have p6 := (PK_Y (INV_RY hy.1)).1.2
  refine T_rw rfl (T_le (fun _ => hrec _ _ _ _ _ ⟨hy, by omega, by omega⟩ (by omega)) (fun d => ?_))
  have d' : l5.toInt < (y.1 1 1).toInt := d
  have e5 := inc1 (a := l5) (by omega) (by omega)
  refine T_b ((xT_best h7 60).2 0 m4 l5 (by decide) (by decide) (by decide) ⟨f0, by omega⟩ ⟨d0, by omega⟩ y 0 m1 hy) (fun u hu => T_vp f0 (by show m4.toInt < 4; omega) (T_nm ?_))
  have go : ∀ p o : Int32, T (rec2 u.2 m1 p o m4 (l5 + 1)) (fun s => INV s.2) := fun p o => hrec2 _ _ _ _ _ _ ⟨hu, rfl, by omega, by omega⟩ (by omega)
  unfold b_X6_firstSlipping_99 b_X6_firstSlipping_105
  exact T_i (fun _ => go _ _) (fun _ => T_i (fun _ => T_i (fun _ => go _ _) (fun _ => T_i (fun _ => go _ _) (fun _ => go _ _))) (fun _ => go _ _))
theorem xo_rid {q : SS} (h : INV q) (a b c : Int32) : T (f_X11_rid q a b c) (fun r => INV r.2) := by
  have l3 : (3 : Int32).toInt = 3 := rfl
  unfold f_X11_rid
  refine T_rw (x_isPerson q a) (T_i (fun _ => T_some.mpr h) (fun _ => T_lt (fun _ => T_some.mpr h) (fun g0 => T_lt (fun _ => T_some.mpr h) (fun g3 => T_rw (isPart_x q c) (T_i (fun _ => T_some.mpr h) (fun _ => ?_))))))
  have hb : 0 ≤ b.toInt ∧ b.toInt ≤ 3 := ⟨g0, by omega⟩
  refine T_b (xT_ridB h hb) (fun r hr => ?_)
  obtain ⟨hI, e7⟩ := hr
  have h7 : (r.1 42 7).toInt ≤ 3 := by rw [e7]; exact hb.2
  have A : T (f_X6_freeAtBest r) (fun s => IR r s.2) := by
    unfold f_X6_freeAtBest
    exact T_i (fun _ => T_some.mpr ⟨hI, rfl⟩) (fun _ => T_b ((xT_best h7 60).1 0 (by decide) (by decide) (by decide) r 0 ⟨hI, rfl⟩) (fun s hs => T_some.mpr hs))
  refine T_b A (fun s hs => ?_)
  have B : T (f_X6_freeAtMost s.2) (fun _ => True) := by
    unfold f_X6_freeAtMost
    refine T_nm ?_
    unfold b_X6_freeAtMost_11
    refine T_fx2 (fun _ l2 => 0 ≤ l2.toInt ∧ l2.toInt ≤ 3) (fun _ l2 => (3 - l2.toInt).toNat) ?_ _ _ _ ⟨by decide, by decide⟩ (by unfold FU; decide)
    rintro rec l1 l2 ⟨f0, f1⟩ hrec
    rw [hs.2, e7]
    refine T_le (fun _ => T_some.mpr trivial) (fun f => T_i (fun _ => T_some.mpr trivial) (fun _ => T_nm ?_))
    have e2 := inc1 (a := l2) (by omega) (by omega)
    exact hrec _ _ ⟨by omega, by omega⟩ (by omega)
  exact T_b B (fun v _ => T_b (xT_part s.2 _ _ c) (fun w _ => T_some.mpr hs.1))
theorem xT_takes {q : SS} (h : INV q) (a b c : Int32) : T (f_X11_takesFor q a b c) (fun _ => True) := by
  have pk := PK_Y (INV_RY h)
  unfold f_X11_takesFor b_X11_takesFor_34 b_X11_takesFor_35
  have t : ∀ s0 : Int32, T (if s0 = 0 then (some (0 : Int32)) else ((f_X10_get q (3 : Int32) b).bind fun r1 => some r1)) (fun _ => True) := fun s0 => T_i (fun _ => T_some.mpr trivial) (fun _ => T_rw (x_get3 pk.1.2 b) (T_some.mpr trivial))
  exact T_i (fun _ => t 0) (fun _ => T_rw (x_get1 pk.1.2 b) (T_i (fun _ => T_rw (x_get2 pk.1.2 b) (T_i (fun _ => t 1) (fun _ => t 0))) (fun _ => t 0)))
theorem xo_hire {q : SS} (h : INV q) (a b c : Int32) : T (f_X11_hire q a b c) (fun r => INV r.2) := by
  have l99 : (99 : Int32).toInt = 99 := rfl
  unfold f_X11_hire
  refine T_rw (x_isPerson q a) (T_i (fun _ => T_some.mpr h) (fun _ => T_i (fun _ => T_some.mpr h) (fun _ => T_i (fun _ => T_some.mpr h) (fun _ => T_i (fun _ => T_some.mpr h) (fun _ => T_i (fun _ => ?_) (fun _ => T_some.mpr h))))))
  refine T_b (x_now (INV_RY h)) (fun r hr => ?_)
  have hI := NWX_I h hr
  have pk := PK_Y (INV_RY hI)
  refine T_rw (x_looseOf pk.2.1 pk.2.2 a) (T_i (fun _ => ?_) (fun _ => T_some.mpr hI))
  unfold b_X11_hire_60
  have fin : ∀ u v w x : Int32, T (b_X11_hire_146 r u v w x) (fun s => INV s.2) := fun u v w x => by
    unfold b_X11_hire_146
    exact T_i (fun _ => T_i (fun _ => T_some.mpr hI) (fun _ => T_some.mpr hI)) (fun _ => T_some.mpr hI)
  refine T_fx7 (fun z _ _ _ _ _ l7 => z = r ∧ 0 ≤ l7.toInt ∧ l7.toInt ≤ 100) (fun _ _ _ _ _ _ l7 => (100 - l7.toInt).toNat) ?_ _ _ _ _ _ _ _ _ ⟨rfl, by decide, by decide⟩ (by unfold FU; decide)
  rintro rec z l1 l3 l4 l5 l6 l7 ⟨rfl, g0, g1⟩ hrec
  refine T_lt (fun _ => fin _ _ _ _) (fun g => T_i (fun _ => fin _ _ _ _) (fun _ => ?_))
  have e7 := inc1 (a := l7) (by omega) (by omega)
  have go : ∀ u v w x y : Int32, T (rec z u v w x y (l7 + 1)) (fun s => INV s.2) := fun u v w x y => hrec _ _ _ _ _ _ _ ⟨rfl, by omega, by omega⟩ (by omega)
  unfold b_X11_hire_75
  refine T_fx8 (fun y _ _ _ _ _ m7 l8 => y = z ∧ m7 = l7 ∧ 0 ≤ l8.toInt ∧ l8.toInt ≤ 6) (fun _ _ _ _ _ _ _ l8 => (6 - l8.toInt).toNat) ?_ _ _ _ _ _ _ _ _ _ ⟨rfl, rfl, by decide, by decide⟩ (by unfold FU; decide)
  rintro rec2 y m1 m3 m4 m5 m6 m7 l8 ⟨rfl, rfl, f0, f1⟩ hrec2
  have p6 := pk.1.2
  unfold b_X11_hire_140
  refine T_rw rfl (T_le (fun _ => go _ _ _ _ _) (fun f => T_i (fun _ => go _ _ _ _ _) (fun _ => T_b (xT_takes hI _ _ _) (fun t _ => T_nm ?_))))
  have f' : l8.toInt < (y.1 1 1).toInt := f
  have e8 := inc1 (a := l8) (by omega) (by omega)
  have go2 : ∀ u v w x t : Int32, T (rec2 y u v w x t m7 (l8 + 1)) (fun s => INV s.2) := fun u v w x t => hrec2 _ _ _ _ _ _ _ _ ⟨rfl, rfl, by omega, by omega⟩ (by omega)
  unfold b_X11_hire_134
  exact T_i (fun _ => go2 _ _ _ _ _) (fun _ => T_nm (T_nm (go2 _ _ _ _ _)))

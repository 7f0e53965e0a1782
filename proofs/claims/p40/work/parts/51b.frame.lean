/-! ===== the model reads its law: a refused reading leaves what holds ===== -/
def wR (k i : Nat) : Bool := (k == 74 && Nat.ble 130 i) || (k == 75 && Nat.ble 130 i) || (k == 77 && Nat.ble 61 i) || (k == 78 && Nat.ble 61 i) || (k == 76 && i == 1) || (k == 60 && (Nat.ble 18 i && Nat.ble i 22))
def wN (k i : Nat) : Bool := wR k i || (k == 17 && i == 2)
theorem RY_wN {q q' : SS} (f : Fr wN v0 q q') (h : RY q) : RY q' := RY_fr (Fr_r f fun _ => rfl) (Fr_r f fun _ => rfl) (Fr_r f fun _ => rfl) (Fr_r f fun _ => rfl) (Fr_r f fun _ => rfl) (Fr_r f fun _ => rfl) (Fr_r f fun _ => rfl) (Fr_r f fun _ => rfl) (Fr_r f fun _ => rfl) (Fr_r f fun _ => rfl) (Fr_r f fun _ => rfl) (Fr_r f fun _ => rfl) (Fr_r f fun _ => rfl) (Fr_r f fun _ => rfl) (f.1 _ _ rfl) (f.1 _ _ rfl) (f.1 _ _ rfl) (f.1 _ _ rfl) (f.1 _ _ rfl) (f.1 _ _ rfl) (f.1 _ _ rfl) (f.1 _ _ rfl) h
theorem RC_wN {q q' : SS} (f : Fr wN v0 q q') (h : RC q) : RC q' := RC_fr (Fr_r f fun _ => rfl) (Fr_r f fun _ => rfl) (Fr_r f fun _ => rfl) (Fr_r f fun _ => rfl) (Fr_r f fun _ => rfl) (Fr_r f fun _ => rfl) (Fr_r f fun _ => rfl) (Fr_r f fun _ => rfl) (f.1 _ _ rfl) (f.1 _ _ rfl) (f.1 _ _ rfl) (f.1 _ _ rfl) (f.1 _ _ rfl) (f.1 _ _ rfl) h
theorem RD_wN {q q' : SS} (f : Fr wN v0 q q') (h : RD q) : RD q' := RD_fr (Fr_r f fun _ => rfl) (Fr_r f fun _ => rfl) (Fr_r f fun _ => rfl) (Fr_r f fun _ => rfl) (Fr_r f fun _ => rfl) (Fr_r f fun _ => rfl) (Fr_r f fun _ => rfl) (Fr_r f fun _ => rfl) (f.1 _ _ rfl) (f.1 _ _ rfl) (f.1 _ _ rfl) (f.1 _ _ rfl) (f.1 _ _ rfl) (f.1 _ _ rfl) (f.1 _ _ rfl) (f.1 _ _ rfl) h
theorem RH_wN {q q' : SS} (f : Fr wN v0 q q') (h : RH q) : RH q' := RH_fr (Fr_r f fun _ => rfl) (Fr_r f fun _ => rfl) (Fr_r f fun _ => rfl) (Fr_r f fun _ => rfl) (f.1 _ _ rfl) (f.1 _ _ rfl) (f.1 _ _ rfl) (f.1 _ _ rfl) h
theorem RS_wN {q q' : SS} (f : Fr wN v0 q q') (h : RS q) : RS q' := RS_fr (Fr_r f fun _ => rfl) (Fr_r f fun _ => rfl) (Fr_r f fun _ => rfl) (Fr_r f fun _ => rfl) (Fr_r f fun _ => rfl) (f.1 _ _ rfl) (f.2 _ rfl) (fun s hs => f.2 _ (by rcases s6 hs with rfl | rfl | rfl | rfl | rfl | rfl <;> rfl)) h
theorem RJ_wN {q q' : SS} (f : Fr wN v0 q q') (h : RJ q) : RJ q' := RJ_fr (Fr_r f fun _ => rfl) (f.1 _ _ rfl) h
theorem okLine_c {A W A' W' : Nat → Int32} {s t e : Int} (h : ∀ k : Nat, (k : Int) < 130 → A k = A' k ∧ W k = W' k) (o : okLine A W s t e) : okLine A' W' s t e := by
  obtain ⟨h1, h2, h3, h4, h5, h6⟩ := o
  exact ⟨h1, h2, h3, h4, okSeg_c (by omega) (fun k _ hk => h k (by omega)) h5, fun n => okSeg_c h1 (fun k _ hk => h k (by omega)) (h6 n)⟩
theorem RW_wN {q q' : SS} (f : Fr wN v0 q q') (h : RW q) : RW q' := by
  have e30 := f.1 60 30 rfl
  have e76 := f.1 76 0 rfl
  have lo : ∀ a n : Nat, (a = 74 ∧ n < 130) ∨ (a = 75 ∧ n < 130) ∨ (a = 77 ∧ n < 61) ∨ (a = 78 ∧ n < 61) → q'.1 a n = q.1 a n := fun a n c => f.1 a n (by
    rcases c with ⟨rfl, c⟩ | ⟨rfl, c⟩ | ⟨rfl, c⟩ | ⟨rfl, c⟩
    · have : Nat.ble 130 n = false := by
        cases g : Nat.ble 130 n
        · rfl
        · exact absurd (Nat.le_of_ble_eq_true g) (by omega)
      unfold wN wR
      rw [this]
      simp
    · have : Nat.ble 130 n = false := by
        cases g : Nat.ble 130 n
        · rfl
        · exact absurd (Nat.le_of_ble_eq_true g) (by omega)
      unfold wN wR
      rw [this]
      simp
    · have : Nat.ble 61 n = false := by
        cases g : Nat.ble 61 n
        · rfl
        · exact absurd (Nat.le_of_ble_eq_true g) (by omega)
      unfold wN wR
      rw [this]
      simp
    · have : Nat.ble 61 n = false := by
        cases g : Nat.ble 61 n
        · rfl
        · exact absurd (Nat.le_of_ble_eq_true g) (by omega)
      unfold wN wR
      rw [this]
      simp)
  refine ⟨by rw [e30]; exact RW_told h, fun t => by rw [e76]; exact RW_m h (e30.symm.trans t), fun t l hl => ?_⟩
  have t' := e30.symm.trans t
  rw [e76] at hl
  have m := RW_m h t'
  have L := RW_line h t' l hl
  rw [lo 77 l (by omega), lo 78 l (by omega)]
  have e1 : (if l = 0 then (0 : Int) else (q'.1 78 (l - 1)).toInt) = (if l = 0 then 0 else (q.1 78 (l - 1)).toInt) := by
    by_cases c : l = 0
    · rw [if_pos c, if_pos c]
    · rw [if_neg c, if_neg c, lo 78 (l - 1) (by omega)]
  rw [e1]
  exact okLine_c (fun k hk => ⟨(lo 74 k (by omega)).symm, (lo 75 k (by omega)).symm⟩) L
theorem RT_wN {q : SS} (e17 : q.1 17 2 = 0) (e18 : q.1 60 18 = 0) : RT q := by
  have z : (0 : Int32).toInt = 0 := rfl
  refine ⟨e17.trans e18.symm, by rw [e18]; decide, by rw [e18]; decide, fun i hi => ?_, fun i hi => ?_⟩
  · rw [e18, z] at hi; exact absurd hi (by omega)
  · rw [e18, z] at hi; exact absurd hi (by omega)
theorem INV_wN {q q' : SS} (f : Fr wN v0 q q') (h : INV q) (e17 : q'.1 17 2 = 0) (e18 : q'.1 60 18 = 0) : INV q' := ⟨RY_wN f h.1, RC_wN f h.2.1, RD_wN f h.2.2.1, RT_wN e17 e18, RH_wN f h.2.2.2.2.1, RS_wN f h.2.2.2.2.2.1, RW_wN f h.2.2.2.2.2.2.1, RJ_wN f h.2.2.2.2.2.2.2⟩
/-! and one that is taken over -/
def wU (k i : Nat) : Bool := k == 74 || k == 75 || k == 76 || k == 77 || k == 78 || (k == 60 && (Nat.ble 18 i && Nat.ble i 22)) || (k == 60 && i == 30)
def wT (k i : Nat) : Bool := wU k i || (k == 17 && i == 2)
theorem RY_wT {q q' : SS} (f : Fr wT v0 q q') (h : RY q) : RY q' := RY_fr (Fr_r f fun _ => rfl) (Fr_r f fun _ => rfl) (Fr_r f fun _ => rfl) (Fr_r f fun _ => rfl) (Fr_r f fun _ => rfl) (Fr_r f fun _ => rfl) (Fr_r f fun _ => rfl) (Fr_r f fun _ => rfl) (Fr_r f fun _ => rfl) (Fr_r f fun _ => rfl) (Fr_r f fun _ => rfl) (Fr_r f fun _ => rfl) (Fr_r f fun _ => rfl) (Fr_r f fun _ => rfl) (f.1 _ _ rfl) (f.1 _ _ rfl) (f.1 _ _ rfl) (f.1 _ _ rfl) (f.1 _ _ rfl) (f.1 _ _ rfl) (f.1 _ _ rfl) (f.1 _ _ rfl) h
theorem RC_wT {q q' : SS} (f : Fr wT v0 q q') (h : RC q) : RC q' := RC_fr (Fr_r f fun _ => rfl) (Fr_r f fun _ => rfl) (Fr_r f fun _ => rfl) (Fr_r f fun _ => rfl) (Fr_r f fun _ => rfl) (Fr_r f fun _ => rfl) (Fr_r f fun _ => rfl) (Fr_r f fun _ => rfl) (f.1 _ _ rfl) (f.1 _ _ rfl) (f.1 _ _ rfl) (f.1 _ _ rfl) (f.1 _ _ rfl) (f.1 _ _ rfl) h
theorem RD_wT {q q' : SS} (f : Fr wT v0 q q') (h : RD q) : RD q' := RD_fr (Fr_r f fun _ => rfl) (Fr_r f fun _ => rfl) (Fr_r f fun _ => rfl) (Fr_r f fun _ => rfl) (Fr_r f fun _ => rfl) (Fr_r f fun _ => rfl) (Fr_r f fun _ => rfl) (Fr_r f fun _ => rfl) (f.1 _ _ rfl) (f.1 _ _ rfl) (f.1 _ _ rfl) (f.1 _ _ rfl) (f.1 _ _ rfl) (f.1 _ _ rfl) (f.1 _ _ rfl) (f.1 _ _ rfl) h
theorem RH_wT {q q' : SS} (f : Fr wT v0 q q') (h : RH q) : RH q' := RH_fr (Fr_r f fun _ => rfl) (Fr_r f fun _ => rfl) (Fr_r f fun _ => rfl) (Fr_r f fun _ => rfl) (f.1 _ _ rfl) (f.1 _ _ rfl) (f.1 _ _ rfl) (f.1 _ _ rfl) h
theorem RS_wT {q q' : SS} (f : Fr wT v0 q q') (h : RS q) : RS q' := RS_fr (Fr_r f fun _ => rfl) (Fr_r f fun _ => rfl) (Fr_r f fun _ => rfl) (Fr_r f fun _ => rfl) (Fr_r f fun _ => rfl) (f.1 _ _ rfl) (f.2 _ rfl) (fun s hs => f.2 _ (by rcases s6 hs with rfl | rfl | rfl | rfl | rfl | rfl <;> rfl)) h
theorem RJ_wT {q q' : SS} (f : Fr wT v0 q q') (h : RJ q) : RJ q' := RJ_fr (Fr_r f fun _ => rfl) (f.1 _ _ rfl) h
theorem INV_wT {q q' : SS} (f : Fr wT v0 q q') (h : INV q) (e17 : q'.1 17 2 = 0) (e18 : q'.1 60 18 = 0) (w : RW q') : INV q' := ⟨RY_wT f h.1, RC_wT f h.2.1, RD_wT f h.2.2.1, RT_wN e17 e18, RH_wT f h.2.2.2.2.1, RS_wT f h.2.2.2.2.2.1, w, RJ_wT f h.2.2.2.2.2.2.2⟩
theorem Fr_NT {a b : SS} (h : Fr wR v0 a b) : Fr wU v0 a b := Fr_le h (fun k i e => by
    unfold wU at e
    unfold wR
    simp only [Bool.or_eq_false_iff] at e ⊢
    obtain ⟨⟨⟨⟨⟨⟨e1, e2⟩, e3⟩, e4⟩, e5⟩, e6⟩, _⟩ := e
    simp [e1, e2, e3, e4, e5, e6]) (fun _ h => h)

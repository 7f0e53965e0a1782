/-! ===== the model's law: how a line of steps is told ===== -/
theorem dp_c {A W A' W' : Nat → Int32} : ∀ (n i d : Nat), (∀ k, i ≤ k → k < i + n → A k = A' k ∧ W k = W' k) → dp A W n i d = dp A' W' n i d
  | 0, _, _, _ => rfl
  | n + 1, i, d, h => by
    have e := h i (by omega) (by omega)
    show (stepd (A i) (W i) d).bind (fun d' => dp A W n (i + 1) d') = (stepd (A' i) (W' i) d).bind (fun d' => dp A' W' n (i + 1) d')
    rw [e.1, e.2]
    exact congrArg _ (funext fun d' => dp_c n (i + 1) d' (fun k hk hl => h k (by omega) (by omega)))
theorem dp_add {A W : Nat → Int32} : ∀ (n m i d : Nat), dp A W (n + m) i d = (dp A W n i d).bind (fun d' => dp A W m (i + n) d')
  | 0, m, i, d => by
    show dp A W (0 + m) i d = dp A W m (i + 0) d
    rw [Nat.zero_add, Nat.add_zero]
  | n + 1, m, i, d => by
    have e : n + 1 + m = (n + m) + 1 := by omega
    rw [e]
    show (stepd (A i) (W i) d).bind (fun d' => dp A W (n + m) (i + 1) d') = ((stepd (A i) (W i) d).bind (fun d' => dp A W n (i + 1) d')).bind _
    cases stepd (A i) (W i) d with
    | none => rfl
    | some d1 =>
      show dp A W (n + m) (i + 1) d1 = (dp A W n (i + 1) d1).bind _
      rw [dp_add n m (i + 1) d1]
      have e2 : i + 1 + n = i + (n + 1) := by omega
      rw [e2]
theorem okSeg_c {A W A' W' : Nat → Int32} {i j : Int} (hi : 0 ≤ i) (h : ∀ k : Nat, i ≤ (k : Int) → (k : Int) < j → A k = A' k ∧ W k = W' k) (o : okSeg A W i j) : okSeg A' W' i j := by
  unfold okSeg at *
  rw [← o]
  exact (dp_c _ _ _ (fun k h1 h2 => h k (by omega) (by omega))).symm
theorem stepd_l {a w : Int32} {d e : Nat} (c : Nat) (h : stepd a w d = some e) : stepd a w (d + c) = some (e + c) := by
  unfold stepd at h ⊢
  by_cases h1 : a = 1
  · rw [if_pos h1] at h ⊢
    have := Option.some.inj h
    exact congrArg some (by omega)
  rw [if_neg h1] at h ⊢
  by_cases h2 : a = 2
  · rw [if_pos h2] at h ⊢
    by_cases hw : 0 ≤ w.toInt ∧ w.toInt < 6
    · rw [if_pos hw] at h ⊢
      have := Option.some.inj h
      exact congrArg some (by omega)
    · rw [if_neg hw] at h
      cases h
  rw [if_neg h2] at h ⊢
  by_cases h3 : a = 3 ∨ a = 4
  · rw [if_pos h3] at h ⊢
    by_cases hd : 1 ≤ d
    · rw [if_pos hd] at h
      rw [if_pos (by omega)]
      have := Option.some.inj h
      exact congrArg some (by omega)
    · rw [if_neg hd] at h
      cases h
  rw [if_neg h3] at h ⊢
  by_cases hd : 2 ≤ d
  · rw [if_pos hd] at h
    rw [if_pos (by omega)]
    have := Option.some.inj h
    exact congrArg some (by omega)
  · rw [if_neg hd] at h
    cases h
theorem dp_l {A W : Nat → Int32} (c : Nat) : ∀ (n i d e : Nat), dp A W n i d = some e → dp A W n i (d + c) = some (e + c)
  | 0, _, d, e, h => by
    have h' : some d = some e := h
    have := Option.some.inj h'
    show some (d + c) = some (e + c)
    exact congrArg some (by omega)
  | n + 1, i, d, e, h => by
    have h' : (stepd (A i) (W i) d).bind (fun d' => dp A W n (i + 1) d') = some e := h
    show (stepd (A i) (W i) (d + c)).bind (fun d' => dp A W n (i + 1) d') = some (e + c)
    cases g : stepd (A i) (W i) d with
    | none => rw [g] at h'; cases h'
    | some d1 =>
      rw [g] at h'
      rw [stepd_l c g]
      exact dp_l c n (i + 1) d1 e h'

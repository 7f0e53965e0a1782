/-! ===== small facts: T, reads, ints ===== -/
theorem bind_s {α ρ : Type} (x : α) (f : α → Option ρ) : (some x).bind f = f x := rfl
theorem T_of {ρ : Type} {o : Option ρ} {r : ρ} {P : ρ → Prop} (h : o = some r) (hp : P r) : T o P := ⟨r, h, hp⟩
theorem T_mono {ρ : Type} {o : Option ρ} {P Q : ρ → Prop} (h : T o P) (hq : ∀ r, P r → Q r) : T o Q := by
  obtain ⟨r, h1, h2⟩ := h
  exact ⟨r, h1, hq r h2⟩
theorem T_b {α ρ : Type} {o : Option α} {f : α → Option ρ} {P : ρ → Prop} {Q : α → Prop} (h : T o Q) (k : ∀ r, Q r → T (f r) P) : T (o.bind f) P := by
  obtain ⟨r, h1, h2⟩ := h
  rw [h1]
  exact k r h2
theorem T_i {ρ : Type} {c : Prop} [Decidable c] {a b : Option ρ} {P : ρ → Prop} (h1 : c → T a P) (h2 : ¬ c → T b P) : T (if c then a else b) P := by
  by_cases h : c
  · rw [if_pos h]; exact h1 h
  · rw [if_neg h]; exact h2 h
theorem T_c {ρ : Type} {c : Prop} [Decidable c] {a : Option ρ} {P : ρ → Prop} (h : c) (h1 : T a P) : T (if c then a else none) P := by
  rw [if_pos h]; exact h1
theorem T_n {ρ : Type} {c : Prop} [Decidable c] {a : Option ρ} {P : ρ → Prop} (h : ¬ c) (h1 : T a P) : T (if c then none else a) P := by
  rw [if_neg h]; exact h1
theorem T_sw {ρ : Type} {P : ρ → Prop} {x : Int32} {k : Int} {o1 d : Option ρ} {t : List (Int × Option ρ)} (h : x.toInt = k → T o1 P) (h2 : x.toInt ≠ k → T (sw x t d) P) : T (sw x ((k, o1) :: t) d) P := by
  show T (if x.toInt = k then o1 else sw x t d) P
  by_cases g : x.toInt = k
  · rw [if_pos g]; exact h g
  · rw [if_neg g]; exact h2 g
theorem T_sw0 {ρ : Type} {P : ρ → Prop} {x : Int32} {d : Option ρ} (h : T d P) : T (sw x [] d) P := h
theorem sI_rd {q : SS} {o i a j : Nat} {x : Int32} : (sI q o i x).1 a j = if a = o ∧ j = i then x else q.1 a j := rfl
theorem sI_rl {q : SS} {o i : Nat} {x : Int32} : (sI q o i x).2 = q.2 := rfl
theorem sL_rd {q : SS} {o i a j : Nat} {x : Int64} : (sL q o i x).2 a j = if a = o ∧ j = i then x else q.2 a j := rfl
theorem sL_ri {q : SS} {o i : Nat} {x : Int64} : (sL q o i x).1 = q.1 := rfl
theorem sR_rd {q : SS} {o a : Nat} {f : Nat → Int32} {j : Nat} : (sR q o f).1 a j = if a = o then f j else q.1 a j := by
  unfold sR up1
  dsimp only
  by_cases h : a = o <;> simp [h]
theorem sR_rl {q : SS} {o : Nat} {f : Nat → Int32} : (sR q o f).2 = q.2 := rfl
theorem sRL_rd {q : SS} {o a : Nat} {f : Nat → Int64} {j : Nat} : (sRL q o f).2 a j = if a = o then f j else q.2 a j := by
  unfold sRL up1
  dsimp only
  by_cases h : a = o <;> simp [h]
theorem sRL_ri {q : SS} {o : Nat} {f : Nat → Int64} : (sRL q o f).1 = q.1 := rfl
/-- a row that isn't written -/
theorem sI_ro {q : SS} {o i a : Nat} {x : Int32} (h : a ≠ o) : (sI q o i x).1 a = q.1 a := up2_n h
theorem sL_ro {q : SS} {o i a : Nat} {x : Int64} (h : a ≠ o) : (sL q o i x).2 a = q.2 a := up2_n h
theorem tadd {a b : Int32} (h1 : -2147483648 ≤ a.toInt + b.toInt) (h2 : a.toInt + b.toInt < 2147483648) : (a + b).toInt = a.toInt + b.toInt := by
  rw [Int32.toInt_add]
  exact Int.bmod_eq_of_le (by omega) (by omega)
theorem tsub {a b : Int32} (h1 : -2147483648 ≤ a.toInt - b.toInt) (h2 : a.toInt - b.toInt < 2147483648) : (a - b).toInt = a.toInt - b.toInt := by
  rw [Int32.toInt_sub]
  exact Int.bmod_eq_of_le (by omega) (by omega)
theorem tmul {a b : Int32} (h1 : -2147483648 ≤ a.toInt * b.toInt) (h2 : a.toInt * b.toInt < 2147483648) : (a * b).toInt = a.toInt * b.toInt := by
  rw [Int32.toInt_mul]
  exact Int.bmod_eq_of_le (by omega) (by omega)
theorem cn_eq {a : Int32} : a.toNatClampNeg = a.toInt.toNat := rfl

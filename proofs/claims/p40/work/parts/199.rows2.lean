/-! rows told late -/
theorem r_ldivC {E : EE} {ρ : Type} {κ : ρ → Option Value × PSt} {d m pc : Nat} {L : PL} {st : List Value} {q : SS} {o : Option ρ} {x y : Int64} (hd : decode (mB m) pc = .ok (.ldiv, 1)) (h : ¬ y = 0) (k : R E κ d m (pc + 1) L (.long (x / y) :: st) q o) : R E κ d m pc L (.long y :: .long x :: st) q o := by
  have := r_ldiv hd k
  rw [if_neg h] at this
  exact this
theorem r_lremC {E : EE} {ρ : Type} {κ : ρ → Option Value × PSt} {d m pc : Nat} {L : PL} {st : List Value} {q : SS} {o : Option ρ} {x y : Int64} (hd : decode (mB m) pc = .ok (.lrem, 1)) (h : ¬ y = 0) (k : R E κ d m (pc + 1) L (.long (jlrem x y) :: st) q o) : R E κ d m pc L (.long y :: .long x :: st) q o := by
  have := r_lrem hd k
  rw [if_neg h] at this
  exact this

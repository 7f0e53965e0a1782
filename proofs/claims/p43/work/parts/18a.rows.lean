/-! ===== ROWS: a function's answer is the run's answer ===== -/
abbrev SS : Type := (Nat → Nat → Int32) × (Nat → Nat → Int64)
def LAM0 : PRo := (0, fun _ => 0, fun _ _ => 0)
def runX : Option (Option Value × PSt) := prun LAM0 1500 12 138 0 [(0, .ref 0)] [] (mkc σ00 0 11 11)
def σX : PSt := (runX.getD (none, σ00)).2
def runM : Option (Option Value × PSt) := prun LAM0 1500 12 188 0 [(0, .ref (pnc σX))] [] (mkc σX 0 12 60)
def σM : PSt := (runM.getD (none, σ00)).2
def isN (r : Option (Option Value × PSt)) : Bool := match r with | some (none, _) => true | _ => false
theorem get_of {r : Option (Option Value × PSt)} (h : isN r = true) : r = some (none, (r.getD (none, σ00)).2) := by
  cases r with
  | none => cases h
  | some q =>
    obtain ⟨v, τ⟩ := q
    cases v with
    | none => rfl
    | some v => cases h
/-! decode rows, many at a time -/
def dq (m pc : Nat) (i : Instr) (n : Nat) : Bool := decide (decode (mB m) pc = .ok (i, n))
theorem dqo {m pc n : Nat} {i : Instr} (h : dq m pc i n = true) : decode (mB m) pc = .ok (i, n) := of_decide_eq_true h
/-- the script, and what stands fast of a state: cells, kinds, references -/
abbrev EE : Type := Nat × (Nat → Int32) × PSt
abbrev lam (E : EE) : PRo := LAM E.1 E.2.1
/-- a state: ints and longs by cell and place -/
def mk (E : EE) (q : SS) : PSt := (pnc E.2.2, pns E.2.2, ply E.2.2, prv E.2.2, q.1, q.2)
def qof (τ : PSt) : SS := (piv τ, plv τ)
theorem mk_eta (L : Nat) (xs : Nat → Int32) (τ : PSt) : mk (L, xs, τ) (qof τ) = τ := rfl

def geb (τ : PSt) : Bool := Nat.beq (pnc τ) 93 && ((List.range 93).all (fun o => ply τ o == lyT o) && rvT.all (fun q => prv τ q.1 q.2.1 == some q.2.2))
theorem ge_of {L : Nat} {xs : Nat → Int32} {τ : PSt} (h : geb τ = true) : GE (L, xs, τ) := by
  unfold geb at h
  simp only [Bool.and_eq_true, List.all_eq_true, List.mem_range, beq_iff_eq] at h
  exact ⟨Nat.eq_of_beq_eq_true h.1, h.2⟩

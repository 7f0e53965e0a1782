theorem VT_I {q : SS} (h : INV q) (E : Nat → Int32) (n : Int) (i : Nat) : ∀ k, (∀ j, j < k → okT q E n i j) → INV (VT q E i k) ∧ ((VT q E i k).1 60 6).toInt = (q.1 60 6).toInt + (k : Int)
  | 0, _ => ⟨h, by show (q.1 60 6).toInt = _; omega⟩
  | k + 1, ok => by
    obtain ⟨h1, h2⟩ := VT_I h E n i k (fun j hj => ok j (by omega))
    obtain ⟨o1, o2, o3, o4⟩ := VT_o q E i k
    obtain ⟨_, c1, c2, c3, c4⟩ := ok k (by omega)
    have hK : ((VT q E i k).1 60 6).toInt < 12 := by omega
    refine ⟨INV_AT h1 (by rw [o4 1 (by decide)]; exact c1) c2 c3 hK, ?_⟩
    have e : (VT q E i (k + 1)).1 60 6 = (VT q E i k).1 60 6 + 1 := rfl
    have k0 := RY_k0 (INV_RY h1)
    rw [e, inc1 (by omega) (by omega), h2]
    omega

/-! ===== tickets from a row ===== -/
def VT (q : SS) (E : Nat → Int32) (i : Nat) : Nat → SS
  | 0 => q
  | k + 1 => mAT (xAT (VT q E i k) (E (i + 3 * k)) (E (i + 3 * k + 1)) (E (i + 3 * k + 2))) (E (i + 3 * k)) (E (i + 3 * k + 1)) (E (i + 3 * k + 2))
/-- the k-th three comes -/
def okT (q : SS) (E : Nat → Int32) (n : Int) (i k : Nat) : Prop := ((i + 3 * k + 3 : Nat) : Int) ≤ n ∧ (0 ≤ (E (i + 3 * k)).toInt ∧ (E (i + 3 * k)).toInt < (q.1 60 1).toInt) ∧ (0 ≤ (E (i + 3 * k + 1)).toInt ∧ (E (i + 3 * k + 1)).toInt ≤ 1) ∧ (0 ≤ (E (i + 3 * k + 2)).toInt ∧ (E (i + 3 * k + 2)).toInt ≤ 4) ∧ (q.1 60 6).toInt + (k : Int) < 12
theorem VT_o (q : SS) (E : Nat → Int32) (i : Nat) : ∀ k, (VT q E i k).2 = q.2 ∧ (∀ z, z ≠ 1 → z ≠ 7 → z ≠ 8 → z ≠ 9 → z ≠ 60 → z ≠ 65 → z ≠ 66 → z ≠ 67 → (VT q E i k).1 z = q.1 z) ∧ (VT q E i k).1 1 1 = q.1 1 1 ∧ (∀ j, j ≠ 6 → (VT q E i k).1 60 j = q.1 60 j)
  | 0 => ⟨rfl, fun _ _ _ _ _ _ _ _ _ => rfl, rfl, fun _ _ => rfl⟩
  | k + 1 => by
    obtain ⟨h1, h2, h3, h4⟩ := VT_o q E i k
    refine ⟨h1, fun z a b c d e f g h => ?_, h3, fun j hj => ?_⟩
    · show (mAT _ _ _ _).1 z = _
      unfold mAT xAT
      rw [sI_ro e, sI_ro h, sI_ro g, sI_ro f, sI_ro d, sI_ro c, sI_ro b, sI_ro a]
      exact h2 z a b c d e f g h
    · show (mAT _ _ _ _).1 60 j = _
      unfold mAT xAT
      rw [sI_rd, if_neg (fun x => hj x.2), sI_ro (by decide), sI_ro (by decide), sI_ro (by decide), sI_ro (by decide), sI_ro (by decide), sI_ro (by decide), sI_ro (by decide)]
      exact h4 j hj

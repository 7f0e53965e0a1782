/-! ===== the class's law ===== -/
theorem Fr_R {q z : SS} (h : Fr wL v0 q z) {k : Nat} {f : Nat → Int32} (hk : ∀ i, wL k i = true) : Fr wL v0 q (sR z k f) := ⟨fun a i e => by
    have : a ≠ k := by
      rintro rfl
      rw [hk i] at e
      cases e
    rw [sR_ro this]
    exact h.1 a i e, fun a e => h.2 a e⟩
theorem xo_law {q : SS} (h : INV q) : T (f_X11_law q) (fun r => ∃ y, INV y ∧ Fr wL v0 q y ∧ r.2 = sI y 17 2 0) := by
  unfold f_X11_law
  have fin : ∀ (y : SS) (l : Int32), Fr wL v0 q y → T (b_X11_law_26 y l) (fun r => ∃ y, INV y ∧ Fr wL v0 q y ∧ r.2 = sI y 17 2 0) := by
    intro y l hy
    unfold b_X11_law_26 f_X5_emptyTape
    exact T_rw rfl (T_i (fun _ => T_some.mpr ⟨y, INV_wL hy h, hy, rfl⟩) (fun _ => T_some.mpr ⟨y, INV_wL hy h, hy, rfl⟩))
  refine T_b (x_readText q) (fun r1 h1 => T_i (fun _ => fin _ _ h1.1) (fun _ => T_rw rfl ?_))
  unfold f_X4_become
  have c : cpok 121 121 (0 : Int32) (0 : Int32) (121 : Int32) := by decide
  refine T_b (Q := fun r => Fr wL v0 q r) (T_nm (T_p c (T_nm (T_p c (T_nm (T_some.mpr ?_)))))) (fun r4 h4 => fin _ _ h4)
  exact Fr_R (Fr_R (Fr_sI h1.1 rfl) (fun _ => rfl)) (fun _ => rfl)

/-! ===== what holds of the first state ===== -/
theorem ZL_0 : ZL σ00 := fun k hk => absurd hk (by show ¬ k < 0; omega)
theorem ZL_rX {σ' : PSt} (h : prun LAM0 1500 12 138 0 [(0, .ref 0)] [] (mkc σ00 0 11 11) = some (none, σ')) : ZL σ' := prun_ZL _ _ _ _ _ _ _ _ _ h (ZL_mkc ZL_0 0 11 11)
theorem ZL_rM {τ σ' : PSt} (hz : ZL τ) (h : prun LAM0 1500 12 188 0 [(0, .ref (pnc τ))] [] (mkc τ 0 12 60) = some (none, σ')) : ZL σ' := prun_ZL _ _ _ _ _ _ _ _ _ h (ZL_mkc hz 0 12 60)
theorem ZL_X : ZL σX := ZL_rX runX_ok
theorem ZL_M : ZL σM := ZL_rM ZL_X runM_ok
theorem eqE {τ : PSt} (z : ZL τ) {a b : Nat} (h : ckE τ a b = true) : piv τ a = piv τ b := by
  unfold ckE at h
  simp only [Bool.and_eq_true, decide_eq_true_eq] at h
  obtain ⟨h1, h2, h3, h4, h5⟩ := h
  funext i
  by_cases c : i < (ply τ a).2 + (ply τ b).2
  · have := allB_i h5 i c
    exact of_decide_eq_true this
  · rw [z a h1 h2 i (by omega), z b h3 h4 i (by omega)]
theorem eqZ {τ : PSt} (z : ZL τ) {a : Nat} (h : ckZ τ a = true) (i : Nat) : piv τ a i = 0 := by
  unfold ckZ at h
  simp only [Bool.and_eq_true, decide_eq_true_eq] at h
  obtain ⟨h1, h2, h5⟩ := h
  by_cases c : i < (ply τ a).2
  · exact of_decide_eq_true (allB_i h5 i c)
  · exact z a h1 h2 i (by omega)
def CKM (τ : PSt) : Prop := ckMb τ = true
theorem ckM : CKM σM := ck_M
theorem lst {α : Type} {f : α → Bool} {l : List α} (h : l.all f = true) {a : α} (ha : a ∈ l) : f a = true := List.all_eq_true.mp h a ha
theorem INV_of {τ : PSt} (z : ZL τ) (h : CKM τ) : INV (qof τ) := by
  unfold CKM ckMb at h
  simp only [Bool.and_eq_true] at h
  obtain ⟨hE, hZ, h0, h5, h27, h89, h90⟩ := h
  have E : ∀ a b, (a, b) ∈ rowsE → (qof τ).1 a = (qof τ).1 b := fun a b m => eqE z (lst hE m)
  have Z : ∀ a, a ∈ rows0 → ∀ i, (qof τ).1 a i = 0 := fun a m => eqZ z (lst hZ m)
  have C : ∀ a i, (a, i) ∈ cells0 → (qof τ).1 a i = 0 := fun a i m => of_decide_eq_true (lst h0 m)
  have p5 : ∀ i, i < 6 → (qof τ).1 5 i = 10 := fun i hi => of_decide_eq_true (allB_i h5 i hi)
  have p27 : ∀ i, i < 6 → (qof τ).1 27 i = -2 := fun i hi => of_decide_eq_true (allB_i h27 i hi)
  have p89 : ∀ i, i < 6 → (qof τ).1 89 i = -1 := fun i hi => of_decide_eq_true (allB_i h89 i hi)
  have p90 : ∀ i, i < 6 → (qof τ).1 90 i = 0 := fun i hi => of_decide_eq_true (allB_i h90 i hi)
  generalize qof τ = q at *
  have c0 : ∀ a i, (a, i) ∈ cells0 → (q.1 a i).toInt = 0 := fun a i m => by rw [C a i m]; rfl
  have P := c0 60 1 (by decide)
  have K := c0 60 6 (by decide)
  have no : ∀ i : Nat, ¬ ((i : Int) < 0) := fun i => by omega
  refine ⟨?_, ?_, ?_, ?_, ?_, ?_, ?_, ?_⟩
  · refine ⟨by omega, by omega, by omega, by omega, (C 1 1 (by decide)).trans (C 60 1 (by decide)).symm, (C 1 2 (by decide)).trans (C 60 6 (by decide)).symm, E 3 61 (by decide), E 4 62 (by decide), E 6 64 (by decide), E 7 65 (by decide), E 8 66 (by decide), E 9 67 (by decide), (C 10 0 (by decide)).trans (C 68 0 (by decide)).symm, (C 11 0 (by decide)).trans (C 68 1 (by decide)).symm, fun i hi => absurd hi (by rw [P]; exact no i), fun i _ hi => p5 i hi, fun i _ => Z 62 (by decide) i, fun i _ => Z 64 (by decide) i, fun i hi => absurd hi (by rw [P]; exact no i), fun i hi => absurd hi (by rw [P]; exact no i), fun i hi => absurd hi (by rw [P]; exact no i), fun i hi => absurd hi (by rw [P]; exact no i), fun i hi => absurd hi (by rw [K]; exact no i), fun i hi => absurd hi (by rw [K]; exact no i), fun i hi => absurd hi (by rw [K]; exact no i), ?_, ?_, ?_, ?_⟩
    · rw [c0 68 0 (by decide)]; omega
    · rw [c0 68 0 (by decide)]; omega
    · rw [c0 68 1 (by decide)]; omega
    · rw [c0 68 1 (by decide)]; omega
  · have d := c0 60 11 (by decide)
    have u := c0 60 12 (by decide)
    exact ⟨(C 52 5 (by decide)).trans (C 60 11 (by decide)).symm, (C 52 6 (by decide)).trans (C 60 12 (by decide)).symm, by omega, by omega, by omega, E 53 69 (by decide), E 54 70 (by decide), E 55 71 (by decide), E 56 72 (by decide), fun j hj => absurd hj (by rw [d, u]; exact no j)⟩
  · have a := c0 60 47 (by decide)
    have b := c0 60 48 (by decide)
    exact ⟨E 48 83 (by decide), E 49 86 (by decide), E 50 84 (by decide), E 51 85 (by decide), (C 47 5 (by decide)).trans (C 60 47 (by decide)).symm, (C 47 6 (by decide)).trans (C 60 48 (by decide)).symm, (C 47 7 (by decide)).trans (C 60 46 (by decide)).symm, Or.inl (C 60 46 (by decide)), by omega, by omega, by omega, by omega, fun t ht => absurd ht (by rw [a]; exact no t), fun t ht => absurd ht (by rw [a]; exact no t)⟩
  · have a := c0 60 18 (by decide)
    exact ⟨(C 17 2 (by decide)).trans (C 60 18 (by decide)).symm, by omega, by omega, fun i hi => absurd hi (by rw [a]; exact no i), fun i hi => absurd hi (by rw [a]; exact no i)⟩
  · have a := c0 60 52 (by decide)
    have b := c0 60 54 (by decide)
    exact ⟨(C 57 2 (by decide)).trans (C 60 52 (by decide)).symm, by omega, by omega, E 58 87 (by decide), fun i hi => absurd hi (by rw [a]; exact no i), (C 57 3 (by decide)).trans (C 60 54 (by decide)).symm, by omega, E 59 88 (by decide)⟩
  · refine ⟨E 28 90 (by decide), fun s hs => by rw [p90 s hs]; decide, fun s hs => Or.inl ⟨p27 s hs, p89 s hs⟩, fun s hs h0 => ?_⟩
    rw [p27 s hs] at h0
    exact absurd h0 (by decide)
  · have a := C 60 30 (by decide)
    exact ⟨Or.inl a, fun h => absurd (a.symm.trans h) (by decide), fun h => absurd (a.symm.trans h) (by decide)⟩
  · have a := c0 37 3 (by decide)
    exact ⟨by omega, by omega, fun t _ => by rw [Z 81 (by decide) t]; decide⟩
theorem INV_M : INV (qof σM) := INV_of ZL_M ckM

/-! ===== two runs side by side ===== -/
def T2 {α β : Type} (o1 : Option α) (o2 : Option β) (R : α → β → Prop) : Prop := ∃ a b, o1 = some a ∧ o2 = some b ∧ R a b
theorem T2_s {α β : Type} {a : α} {b : β} {R : α → β → Prop} (h : R a b) : T2 (some a) (some b) R := ⟨a, b, rfl, rfl, h⟩
theorem T2_l {α α' β : Type} {o1 : Option α} {o2 : Option β} {f : α → Option α'} {P : α → Prop} {R : α' → β → Prop} (h : T o1 P) (k : ∀ a, P a → T2 (f a) o2 R) : T2 (o1.bind f) o2 R := by
  obtain ⟨a, rfl, ha⟩ := h
  exact k a ha
theorem T2_r {α β β' : Type} {o1 : Option α} {o2 : Option β} {g : β → Option β'} {P : β → Prop} {R : α → β' → Prop} (h : T o2 P) (k : ∀ b, P b → T2 o1 (g b) R) : T2 o1 (o2.bind g) R := by
  obtain ⟨b, rfl, hb⟩ := h
  exact k b hb
theorem T2_le {α α' β : Type} {o1 : Option α} {o2 : Option β} {f : α → Option α'} {R : α' → β → Prop} {a : α} (h : o1 = some a) (k : T2 (f a) o2 R) : T2 (o1.bind f) o2 R := by
  rw [h]; exact k
theorem T2_re {α β β' : Type} {o1 : Option α} {o2 : Option β} {g : β → Option β'} {R : α → β' → Prop} {b : β} (h : o2 = some b) (k : T2 o1 (g b) R) : T2 o1 (o2.bind g) R := by
  rw [h]; exact k
theorem T2_bb {α α' β β' : Type} {o1 : Option α} {o2 : Option β} {f : α → Option α'} {g : β → Option β'} {R : α → β → Prop} {S : α' → β' → Prop} (h : T2 o1 o2 R) (k : ∀ a b, R a b → T2 (f a) (g b) S) : T2 (o1.bind f) (o2.bind g) S := by
  obtain ⟨a, b, rfl, rfl, hr⟩ := h
  exact k a b hr
theorem T2_al {α β : Type} {o1 : Option α} {o2 : Option β} {R : α → β → Prop} {P : α → Prop} (h : T2 o1 o2 R) (t : T o1 P) : T2 o1 o2 (fun a b => R a b ∧ P a) := by
  obtain ⟨a, b, h1, h2, hr⟩ := h
  obtain ⟨a', h1', hp⟩ := t
  rw [h1] at h1'
  cases h1'
  exact ⟨a, b, h1, h2, hr, hp⟩
theorem T2_ar {α β : Type} {o1 : Option α} {o2 : Option β} {R : α → β → Prop} {P : β → Prop} (h : T2 o1 o2 R) (t : T o2 P) : T2 o1 o2 (fun a b => R a b ∧ P b) := by
  obtain ⟨a, b, h1, h2, hr⟩ := h
  obtain ⟨b', h2', hp⟩ := t
  rw [h2] at h2'
  cases h2'
  exact ⟨a, b, h1, h2, hr, hp⟩
theorem T2_m {α β : Type} {o1 : Option α} {o2 : Option β} {R S : α → β → Prop} (h : T2 o1 o2 R) (k : ∀ a b, R a b → S a b) : T2 o1 o2 S := by
  obtain ⟨a, b, h1, h2, hr⟩ := h
  exact ⟨a, b, h1, h2, k a b hr⟩
theorem T2_pl {α β : Type} {c : Prop} [Decidable c] {x y : Option α} {o2 : Option β} {R : α → β → Prop} (h : c) (k : T2 x o2 R) : T2 (if c then x else y) o2 R := by
  rw [if_pos h]; exact k
theorem T2_ql {α β : Type} {c : Prop} [Decidable c] {x y : Option α} {o2 : Option β} {R : α → β → Prop} (h : ¬ c) (k : T2 y o2 R) : T2 (if c then x else y) o2 R := by
  rw [if_neg h]; exact k
theorem T2_pr {α β : Type} {c : Prop} [Decidable c] {x y : Option β} {o1 : Option α} {R : α → β → Prop} (h : c) (k : T2 o1 x R) : T2 o1 (if c then x else y) R := by
  rw [if_pos h]; exact k
theorem T2_qr {α β : Type} {c : Prop} [Decidable c] {x y : Option β} {o1 : Option α} {R : α → β → Prop} (h : ¬ c) (k : T2 o1 y R) : T2 o1 (if c then x else y) R := by
  rw [if_neg h]; exact k
theorem T2_nl {γ α β : Type} {e : γ} {f : γ → Option α} {o2 : Option β} {R : α → β → Prop} (k : T2 (f e) o2 R) : T2 (nm e f) o2 R := k
theorem T2_nr {γ α β : Type} {e : γ} {g : γ → Option β} {o1 : Option α} {R : α → β → Prop} (k : T2 o1 (g e) R) : T2 o1 (nm e g) R := k
theorem T2_T {α β : Type} {o1 : Option α} {o2 : Option β} {R : α → β → Prop} (h : T2 o1 o2 R) : T o1 (fun a => T o2 (R a)) := by
  obtain ⟨a, b, h1, h2, hr⟩ := h
  exact ⟨a, h1, b, h2, hr⟩
/-! ===== the tape, as each side reads it ===== -/
def CH (q : SS) (p : Int) : Int32 := if p < (q.1 60 18).toInt then q.1 18 p.toNat else -1
def MH (q : SS) (p : Int) : Int32 := if p < (q.1 60 18).toInt then q.1 73 p.toNat else -1
def CM (c m : Int32) : Prop := (m = c ∧ c.toInt < 128) ∨ (128 ≤ c.toInt ∧ m.toInt < 0)
theorem t8lo {c : Int32} (h0 : 0 ≤ c.toInt) (h : c.toInt < 128) : c.toInt8.toInt32 = c := by
  apply Int32.toInt_inj.mp
  rw [Int8.toInt_toInt32, Int32.toInt_toInt8]
  exact Int.bmod_eq_of_le (by omega) (by omega)
theorem t8hi {c : Int32} (h0 : 128 ≤ c.toInt) (h : c.toInt ≤ 255) : (c.toInt8.toInt32).toInt < 0 := by
  rw [Int8.toInt_toInt32, Int32.toInt_toInt8]
  have e : c.toInt.bmod 256 = c.toInt - 256 := by
    rw [Int.bmod_def]
    split <;> omega
  show c.toInt.bmod 256 < 0
  rw [e]
  omega
theorem CM_q {q : SS} (h : RT q) {p : Int} (h0 : 0 ≤ p) : CM (CH q p) (MH q p) := by
  unfold CH MH CM
  by_cases g : p < (q.1 60 18).toInt
  · rw [if_pos g, if_pos g]
    have b := RT_byte h p.toNat (by omega)
    rw [RT_tape h p.toNat (by omega)]
    by_cases c : (q.1 18 p.toNat).toInt < 128
    · exact Or.inl ⟨t8lo b.1 c, c⟩
    · exact Or.inr ⟨by omega, t8hi (by omega) b.2⟩
  · rw [if_neg g, if_neg g]
    exact Or.inl ⟨rfl, by decide⟩
theorem CM_eq {c m : Int32} (h : CM c m) {k : Int32} (k0 : 0 ≤ k.toInt) (k1 : k.toInt < 128) : c = k ↔ m = k := by
  rcases h with ⟨rfl, _⟩ | ⟨h1, h2⟩
  · exact Iff.rfl
  · exact ⟨fun e => by rw [e] at h1; exact absurd h1 (by omega), fun e => by rw [e] at h2; exact absurd h2 (by omega)⟩
abbrev dig (c : Int32) : Prop := 48 ≤ c.toInt ∧ c.toInt ≤ 57
theorem CM_dig {c m : Int32} (h : CM c m) : dig c ↔ dig m := by
  unfold dig
  rcases h with ⟨rfl, _⟩ | ⟨h1, h2⟩
  · exact Iff.rfl
  · exact ⟨fun e => absurd e.2 (by omega), fun e => absurd e.1 (by omega)⟩
theorem CM_same {c m : Int32} (h : CM c m) (d : dig c) : m = c := by
  rcases h with ⟨h, _⟩ | ⟨h1, h2⟩
  · exact h
  · exact absurd d.2 (by omega)
theorem x_nextE {q y : SS} (h : RT q) (f : Fr wL v0 q y) (h0 : 0 ≤ (y.1 17 3).toInt) : f_X5_next y = some (CH q (y.1 17 3).toInt) := by
  have l0 : (0 : Int32).toInt = 0 := rfl
  have l120 : (120 : Int32).toInt = 120 := rfl
  have e2 : (y.1 17 2).toInt = (q.1 60 18).toInt := congrArg Int32.toInt ((f.1 17 2 rfl).trans (RT_len h))
  have e18 : y.1 18 = q.1 18 := Fr_r f (fun _ => rfl)
  have b := RT_l120 h
  unfold f_X5_next CH
  rw [if_neg (by rw [Int32.lt_iff_toInt_lt, l0]; omega)]
  by_cases g : (y.1 17 3).toInt < (q.1 60 18).toInt
  · rw [if_neg (by rw [Int32.le_iff_toInt_le]; omega), if_neg (by rw [Int32.le_iff_toInt_le, l120]; omega), if_pos ⟨h0, by omega⟩, if_pos g, e18]
    rfl
  · rw [if_pos (by rw [Int32.le_iff_toInt_le]; omega), if_neg g]
theorem m_lookE {q z : SS} (h120 : (q.1 60 18).toInt ≤ 120) (e73 : z.1 73 = q.1 73) (e18 : z.1 60 18 = q.1 60 18) (h0 : 0 ≤ (z.1 60 19).toInt) : f_X12_look z = some (MH q (z.1 60 19).toInt) := by
  unfold f_X12_look MH
  rw [e18]
  by_cases g : (z.1 60 19).toInt < (q.1 60 18).toInt
  · rw [if_neg (by rw [Int32.le_iff_toInt_le]; omega), if_pos ⟨h0, by omega⟩, if_pos g, e73]
    rfl
  · rw [if_pos (by rw [Int32.le_iff_toInt_le]; omega), if_neg g]
/-! names, digits, levels -/
def nmc (c : Int32) : Int32 := if c = 98 then 1 else if c = 102 then 3 else if c = 104 then 4 else if c = 110 then 2 else if c = 115 then 5 else if c = 119 then 0 else -1
theorem swI {ρ : Type} {x k : Int32} {o d : Option ρ} {n : Int} {t : List (Int × Option ρ)} (h : k.toInt = n) : sw x ((n, o) :: t) d = if x = k then o else sw x t d := by
  show (if x.toInt = n then o else sw x t d) = _
  rw [← h]
  by_cases g : x = k
  · rw [if_pos g, if_pos (congrArg Int32.toInt g)]
  · rw [if_neg g, if_neg (fun e => g (Int32.toInt_inj.mp e))]
theorem x_nameE (y : SS) (c : Int32) : f_X5_nameOf y c = some (nmc c) := by
  unfold f_X5_nameOf nmc
  rw [swI (k := 98) (n := 98) rfl, swI (k := 102) (n := 102) rfl, swI (k := 104) (n := 104) rfl, swI (k := 110) (n := 110) rfl, swI (k := 115) (n := 115) rfl, swI (k := 119) (n := 119) rfl]
  repeat (split; rfl)
  rfl
theorem m_nameE (z : SS) (c : Int32) : f_X12_nameOf z c = some (nmc c) := by
  unfold f_X12_nameOf nmc
  rw [swI (k := 98) (n := 98) rfl, swI (k := 102) (n := 102) rfl, swI (k := 104) (n := 104) rfl, swI (k := 110) (n := 110) rfl, swI (k := 115) (n := 115) rfl, swI (k := 119) (n := 119) rfl]
  repeat (split; rfl)
  rfl
theorem CM_nmc {c m : Int32} (h : CM c m) : nmc c = nmc m := by
  unfold nmc
  simp only [CM_eq h (k := 98) (by decide) (by decide), CM_eq h (k := 102) (by decide) (by decide), CM_eq h (k := 104) (by decide) (by decide), CM_eq h (k := 110) (by decide) (by decide), CM_eq h (k := 115) (by decide) (by decide), CM_eq h (k := 119) (by decide) (by decide)]
def lvc (c : Int32) : Int32 := if c = 37 then 5 else if c = 38 then 2 else if c = 42 then 5 else if c = 43 then 4 else if c = 45 then 4 else if c = 47 then 5 else if c = 60 then 3 else if c = 61 then 3 else if c = 62 then 3 else if c = 124 then 1 else 0
theorem x_levelE (y : SS) (c : Int32) : f_X5_levelOf y c = some (lvc c) := by
  unfold f_X5_levelOf lvc
  rw [swI (k := 37) (n := 37) rfl, swI (k := 38) (n := 38) rfl, swI (k := 42) (n := 42) rfl, swI (k := 43) (n := 43) rfl, swI (k := 45) (n := 45) rfl, swI (k := 47) (n := 47) rfl, swI (k := 60) (n := 60) rfl, swI (k := 61) (n := 61) rfl, swI (k := 62) (n := 62) rfl, swI (k := 124) (n := 124) rfl]
  repeat (split; rfl)
  rfl
def dgc (c : Int32) : Int32 := if 48 ≤ c.toInt ∧ c.toInt ≤ 57 then 1 else 0
theorem x_digE (y : SS) (c : Int32) : f_X5_isDigit y c = some (dgc c) := by
  have l48 : (48 : Int32).toInt = 48 := rfl
  have l57 : (57 : Int32).toInt = 57 := rfl
  unfold f_X5_isDigit dgc
  simp only [Int32.lt_iff_toInt_lt, l48, l57]
  by_cases a : c.toInt < 48
  · rw [if_pos a, if_neg (by omega)]
  · by_cases b : 57 < c.toInt
    · rw [if_neg a, if_pos b, if_neg (by omega)]
    · rw [if_neg a, if_neg b, if_pos (by omega)]
theorem m_digE (z : SS) (c : Int32) : f_X12_in z c 48 57 = some (dgc c) := by
  have l48 : (48 : Int32).toInt = 48 := rfl
  have l57 : (57 : Int32).toInt = 57 := rfl
  unfold f_X12_in dgc
  simp only [Int32.lt_iff_toInt_lt, l48, l57]
  by_cases a : c.toInt < 48
  · rw [if_pos a, if_neg (by omega)]
  · by_cases b : 57 < c.toInt
    · rw [if_neg a, if_pos b, if_neg (by omega)]
    · rw [if_neg a, if_neg b, if_pos (by omega)]
theorem dgc_1 {c : Int32} (h : dig c) : dgc c = 1 := by
  unfold dgc
  exact if_pos h
theorem dgc_0 {c : Int32} (h : ¬ dig c) : dgc c = 0 := by
  unfold dgc
  exact if_neg h

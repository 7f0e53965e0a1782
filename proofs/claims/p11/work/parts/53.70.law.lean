/-! ===== two runs side by side ===== -/
def T2 {α β : Type} (o1 : Option α) (o2 : Option β) (R : α → β → Prop) : Prop := ∃ a b, o1 = some a ∧ o2 = some b ∧ R a b
theorem T2_s {α β : Type} {a : α} {b : β} {R : α → β → Prop} (h : R a b) : T2 (some a) (some b) R := ⟨a, b, rfl, rfl, h⟩
theorem T2_l {α α' β : Type} {o1 : Option α} {o2 : Option β} {f : α → Option α'} {P : α → Prop} {R : α' → β → Prop} (h : T o1 P) (k : ∀ a, P a → T2 (f a) o2 R) : T2 (o1.bind f) o2 R := by
  obtain ⟨a, rfl, ha⟩ := h
  exact k a ha
theorem T2_r {α β β' : Type} {o1 : Option α} {o2 : Option β} {g : β → Option β'} {P : β → Prop} {R : α → β' → Prop} (h : T o2 P) (k : ∀ b, P b → T2 o1 (g b) R) : T2 o1 (o2.bind g) R := by
  obtain ⟨b, rfl, hb⟩ := h
  exact k b hb
theorem T2_le {α α' β : Type} {o1 : Option α} {o2 : Option β} {f : α → Option α'} {R : α' → β → Prop} {a : α} (h : o1 = some a) (k : T2 (f a) o2 R) : T2 (o1.bind f) o2 R := by
  rw [h]; exact k
theorem T2_re {α β β' : Type} {o1 : Option α} {o2 : Option β} {g : β → Option β'} {R : α → β' → Prop} {b : β} (h : o2 = some b) (k : T2 o1 (g b) R) : T2 o1 (o2.bind g) R := by
  rw [h]; exact k
theorem T2_bb {α α' β β' : Type} {o1 : Option α} {o2 : Option β} {f : α → Option α'} {g : β → Option β'} {R : α → β → Prop} {S : α' → β' → Prop} (h : T2 o1 o2 R) (k : ∀ a b, R a b → T2 (f a) (g b) S) : T2 (o1.bind f) (o2.bind g) S := by
  obtain ⟨a, b, rfl, rfl, hr⟩ := h
  exact k a b hr
theorem T2_al {α β : Type} {o1 : Option α} {o2 : Option β} {R : α → β → Prop} {P : α → Prop} (h : T2 o1 o2 R) (t : T o1 P) : T2 o1 o2 (fun a b => R a b ∧ P a) := by
  obtain ⟨a, b, h1, h2, hr⟩ := h
  obtain ⟨a', h1', hp⟩ := t
  rw [h1] at h1'
  cases h1'
  exact ⟨a, b, h1, h2, hr, hp⟩
theorem T2_ar {α β : Type} {o1 : Option α} {o2 : Option β} {R : α → β → Prop} {P : β → Prop} (h : T2 o1 o2 R) (t : T o2 P) : T2 o1 o2 (fun a b => R a b ∧ P b) := by
  obtain ⟨a, b, h1, h2, hr⟩ := h
  obtain ⟨b', h2', hp⟩ := t
  rw [h2] at h2'
  cases h2'
  exact ⟨a, b, h1, h2, hr, hp⟩
theorem T2_m {α β : Type} {o1 : Option α} {o2 : Option β} {R S : α → β → Prop} (h : T2 o1 o2 R) (k : ∀ a b, R a b → S a b) : T2 o1 o2 S := by
  obtain ⟨a, b, h1, h2, hr⟩ := h
  exact ⟨a, b, h1, h2, k a b hr⟩
theorem T2_pl {α β : Type} {c : Prop} [Decidable c] {x y : Option α} {o2 : Option β} {R : α → β → Prop} (h : c) (k : T2 x o2 R) : T2 (if c then x else y) o2 R := by
  rw [if_pos h]; exact k
theorem T2_ql {α β : Type} {c : Prop} [Decidable c] {x y : Option α} {o2 : Option β} {R : α → β → Prop} (h : ¬ c) (k : T2 y o2 R) : T2 (if c then x else y) o2 R := by
  rw [if_neg h]; exact k
theorem T2_pr {α β : Type} {c : Prop} [Decidable c] {x y : Option β} {o1 : Option α} {R : α → β → Prop} (h : c) (k : T2 o1 x R) : T2 o1 (if c then x else y) R := by
  rw [if_pos h]; exact k
theorem T2_qr {α β : Type} {c : Prop} [Decidable c] {x y : Option β} {o1 : Option α} {R : α → β → Prop} (h : ¬ c) (k : T2 o1 y R) : T2 o1 (if c then x else y) R := by
  rw [if_neg h]; exact k
theorem T2_nl {γ α β : Type} {e : γ} {f : γ → Option α} {o2 : Option β} {R : α → β → Prop} (k : T2 (f e) o2 R) : T2 (nm e f) o2 R := k
theorem T2_nr {γ α β : Type} {e : γ} {g : γ → Option β} {o1 : Option α} {R : α → β → Prop} (k : T2 o1 (g e) R) : T2 o1 (nm e g) R := k
theorem T2_T {α β : Type} {o1 : Option α} {o2 : Option β} {R : α → β → Prop} (h : T2 o1 o2 R) : T o1 (fun a => T o2 (R a)) := by
  obtain ⟨a, b, h1, h2, hr⟩ := h
  exact ⟨a, h1, b, h2, hr⟩
/-! ===== the tape, as each side reads it ===== -/
def CH (q : SS) (p : Int) : Int32 := if p < (q.1 60 18).toInt then q.1 18 p.toNat else -1
def MH (q : SS) (p : Int) : Int32 := if p < (q.1 60 18).toInt then q.1 73 p.toNat else -1
def CM (c m : Int32) : Prop := (m = c ∧ c.toInt < 128) ∨ (128 ≤ c.toInt ∧ m.toInt < 0)
theorem t8lo {c : Int32} (h0 : 0 ≤ c.toInt) (h : c.toInt < 128) : c.toInt8.toInt32 = c := by
  apply Int32.toInt_inj.mp
  rw [Int8.toInt_toInt32, Int32.toInt_toInt8]
  exact Int.bmod_eq_of_le (by omega) (by omega)
theorem t8hi {c : Int32} (h0 : 128 ≤ c.toInt) (h : c.toInt ≤ 255) : (c.toInt8.toInt32).toInt < 0 := by
  rw [Int8.toInt_toInt32, Int32.toInt_toInt8]
  have e : c.toInt.bmod 256 = c.toInt - 256 := by
    rw [Int.bmod_def]
    split <;> omega
  show c.toInt.bmod 256 < 0
  rw [e]
  omega
theorem CM_q {q : SS} (h : RT q) {p : Int} (h0 : 0 ≤ p) : CM (CH q p) (MH q p) := by
  unfold CH MH CM
  by_cases g : p < (q.1 60 18).toInt
  · rw [if_pos g, if_pos g]
    have b := RT_byte h p.toNat (by omega)
    rw [RT_tape h p.toNat (by omega)]
    by_cases c : (q.1 18 p.toNat).toInt < 128
    · exact Or.inl ⟨t8lo b.1 c, c⟩
    · exact Or.inr ⟨by omega, t8hi (by omega) b.2⟩
  · rw [if_neg g, if_neg g]
    exact Or.inl ⟨rfl, by decide⟩
theorem CM_eq {c m : Int32} (h : CM c m) {k : Int32} (k0 : 0 ≤ k.toInt) (k1 : k.toInt < 128) : c = k ↔ m = k := by
  rcases h with ⟨rfl, _⟩ | ⟨h1, h2⟩
  · exact Iff.rfl
  · exact ⟨fun e => by rw [e] at h1; exact absurd h1 (by omega), fun e => by rw [e] at h2; exact absurd h2 (by omega)⟩
abbrev dig (c : Int32) : Prop := 48 ≤ c.toInt ∧ c.toInt ≤ 57
theorem CM_dig {c m : Int32} (h : CM c m) : dig c ↔ dig m := by
  unfold dig
  rcases h with ⟨rfl, _⟩ | ⟨h1, h2⟩
  · exact Iff.rfl
  · exact ⟨fun e => absurd e.2 (by omega), fun e => absurd e.1 (by omega)⟩
theorem CM_same {c m : Int32} (h : CM c m) (d : dig c) : m = c := by
  rcases h with ⟨h, _⟩ | ⟨h1, h2⟩
  · exact h
  · exact absurd d.2 (by omega)
theorem x_nextE {q y : SS} (h : RT q) (f : Fr wL v0 q y) (h0 : 0 ≤ (y.1 17 3).toInt) : f_X5_next y = some (CH q (y.1 17 3).toInt) := by
  have l0 : (0 : Int32).toInt = 0 := rfl
  have l120 : (120 : Int32).toInt = 120 := rfl
  have e2 : (y.1 17 2).toInt = (q.1 60 18).toInt := congrArg Int32.toInt ((f.1 17 2 rfl).trans (RT_len h))
  have e18 : y.1 18 = q.1 18 := Fr_r f (fun _ => rfl)
  have b := RT_l120 h
  unfold f_X5_next CH
  rw [if_neg (by rw [Int32.lt_iff_toInt_lt, l0]; omega)]
  by_cases g : (y.1 17 3).toInt < (q.1 60 18).toInt
  · rw [if_neg (by rw [Int32.le_iff_toInt_le]; omega), if_neg (by rw [Int32.le_iff_toInt_le, l120]; omega), if_pos ⟨h0, by omega⟩, if_pos g, e18]
    rfl
  · rw [if_pos (by rw [Int32.le_iff_toInt_le]; omega), if_neg g]
theorem m_lookE {q z : SS} (h120 : (q.1 60 18).toInt ≤ 120) (e73 : z.1 73 = q.1 73) (e18 : z.1 60 18 = q.1 60 18) (h0 : 0 ≤ (z.1 60 19).toInt) : f_X12_look z = some (MH q (z.1 60 19).toInt) := by
  unfold f_X12_look MH
  rw [e18]
  by_cases g : (z.1 60 19).toInt < (q.1 60 18).toInt
  · rw [if_neg (by rw [Int32.le_iff_toInt_le]; omega), if_pos ⟨h0, by omega⟩, if_pos g, e73]
    rfl
  · rw [if_pos (by rw [Int32.le_iff_toInt_le]; omega), if_neg g]
/-! names, digits, levels -/
def nmc (c : Int32) : Int32 := if c = 98 then 1 else if c = 102 then 3 else if c = 104 then 4 else if c = 110 then 2 else if c = 115 then 5 else if c = 119 then 0 else -1
theorem swI {ρ : Type} {x k : Int32} {o d : Option ρ} {n : Int} {t : List (Int × Option ρ)} (h : k.toInt = n) : sw x ((n, o) :: t) d = if x = k then o else sw x t d := by
  show (if x.toInt = n then o else sw x t d) = _
  rw [← h]
  by_cases g : x = k
  · rw [if_pos g, if_pos (congrArg Int32.toInt g)]
  · rw [if_neg g, if_neg (fun e => g (Int32.toInt_inj.mp e))]
theorem x_nameE (y : SS) (c : Int32) : f_X5_nameOf y c = some (nmc c) := by
  unfold f_X5_nameOf nmc
  rw [swI (k := 98) (n := 98) rfl, swI (k := 102) (n := 102) rfl, swI (k := 104) (n := 104) rfl, swI (k := 110) (n := 110) rfl, swI (k := 115) (n := 115) rfl, swI (k := 119) (n := 119) rfl]
  repeat (split; rfl)
  rfl
theorem m_nameE (z : SS) (c : Int32) : f_X12_nameOf z c = some (nmc c) := by
  unfold f_X12_nameOf nmc
  rw [swI (k := 98) (n := 98) rfl, swI (k := 102) (n := 102) rfl, swI (k := 104) (n := 104) rfl, swI (k := 110) (n := 110) rfl, swI (k := 115) (n := 115) rfl, swI (k := 119) (n := 119) rfl]
  repeat (split; rfl)
  rfl
theorem CM_nmc {c m : Int32} (h : CM c m) : nmc c = nmc m := by
  unfold nmc
  simp only [CM_eq h (k := 98) (by decide) (by decide), CM_eq h (k := 102) (by decide) (by decide), CM_eq h (k := 104) (by decide) (by decide), CM_eq h (k := 110) (by decide) (by decide), CM_eq h (k := 115) (by decide) (by decide), CM_eq h (k := 119) (by decide) (by decide)]
def lvc (c : Int32) : Int32 := if c = 37 then 5 else if c = 38 then 2 else if c = 42 then 5 else if c = 43 then 4 else if c = 45 then 4 else if c = 47 then 5 else if c = 60 then 3 else if c = 61 then 3 else if c = 62 then 3 else if c = 124 then 1 else 0
theorem x_levelE (y : SS) (c : Int32) : f_X5_levelOf y c = some (lvc c) := by
  unfold f_X5_levelOf lvc
  rw [swI (k := 37) (n := 37) rfl, swI (k := 38) (n := 38) rfl, swI (k := 42) (n := 42) rfl, swI (k := 43) (n := 43) rfl, swI (k := 45) (n := 45) rfl, swI (k := 47) (n := 47) rfl, swI (k := 60) (n := 60) rfl, swI (k := 61) (n := 61) rfl, swI (k := 62) (n := 62) rfl, swI (k := 124) (n := 124) rfl]
  repeat (split; rfl)
  rfl
def dgc (c : Int32) : Int32 := if 48 ≤ c.toInt ∧ c.toInt ≤ 57 then 1 else 0
theorem x_digE (y : SS) (c : Int32) : f_X5_isDigit y c = some (dgc c) := by
  have l48 : (48 : Int32).toInt = 48 := rfl
  have l57 : (57 : Int32).toInt = 57 := rfl
  unfold f_X5_isDigit dgc
  simp only [Int32.lt_iff_toInt_lt, l48, l57]
  by_cases a : c.toInt < 48
  · rw [if_pos a, if_neg (by omega)]
  · by_cases b : 57 < c.toInt
    · rw [if_neg a, if_pos b, if_neg (by omega)]
    · rw [if_neg a, if_neg b, if_pos (by omega)]
theorem m_digE (z : SS) (c : Int32) : f_X12_in z c 48 57 = some (dgc c) := by
  have l48 : (48 : Int32).toInt = 48 := rfl
  have l57 : (57 : Int32).toInt = 57 := rfl
  unfold f_X12_in dgc
  simp only [Int32.lt_iff_toInt_lt, l48, l57]
  by_cases a : c.toInt < 48
  · rw [if_pos a, if_neg (by omega)]
  · by_cases b : 57 < c.toInt
    · rw [if_neg a, if_pos b, if_neg (by omega)]
    · rw [if_neg a, if_neg b, if_pos (by omega)]
theorem dgc_1 {c : Int32} (h : dig c) : dgc c = 1 := by
  unfold dgc
  exact if_pos h
theorem dgc_0 {c : Int32} (h : ¬ dig c) : dgc c = 0 := by
  unfold dgc
  exact if_neg h
/-! ===== steps laid on either side ===== -/
def al (a w a' w' : Int32) : Prop := w' = w ∧ ((a = 110 ∧ a' = 2) ∨ (a = 48 ∧ a' = 1) ∨ (a = 33 ∧ a' = 3) ∨ (a = 126 ∧ a' = 4) ∨ (a' = a ∧ 1 ≤ (lvc a).toInt))
def PM (y z y' s : SS) : Prop := y'.1 17 3 = s.1 60 19 ∧ (y'.1 19 4).toInt - (y.1 19 4).toInt = (s.1 60 22).toInt - (z.1 60 22).toInt ∧ 0 ≤ (s.1 60 22).toInt - (z.1 60 22).toInt ∧ (∀ k : Nat, (k : Int) < (y.1 19 4).toInt → y'.1 20 k = y.1 20 k ∧ y'.1 21 k = y.1 21 k) ∧ (∀ k : Nat, (k : Int) < (s.1 60 22).toInt - (z.1 60 22).toInt → al (y'.1 20 ((y.1 19 4).toInt.toNat + k)) (y'.1 21 ((y.1 19 4).toInt.toNat + k)) (s.1 74 ((130 + (z.1 60 22).toInt).toNat + k)) (s.1 75 ((130 + (z.1 60 22).toInt).toNat + k)))
theorem PM_refl {y z : SS} (h : y.1 17 3 = z.1 60 19) : PM y z y z := ⟨h, by omega, by omega, fun _ _ => ⟨rfl, rfl⟩, fun k hk => absurd hk (by omega)⟩
theorem PM_pos {y z y' s : SS} (h : PM y z y' s) : PM y z (sI y' 17 3 (y'.1 17 3 + 1)) (sI s 60 19 (s.1 60 19 + 1)) := ⟨congrArg (· + 1) h.1, h.2⟩
theorem PM_tr {y z y1 z1 y2 z2 : SS} (hl : 0 ≤ (y.1 19 4).toInt) (hz : 0 ≤ (z.1 60 22).toInt) (h : PM y z y1 z1) (c : ∀ k : Nat, (k : Int) < 130 + (z1.1 60 22).toInt → z2.1 74 k = z1.1 74 k ∧ z2.1 75 k = z1.1 75 k) (g : PM y1 z1 y2 z2) : PM y z y2 z2 := by
  obtain ⟨h1, h2, h3, h4, h5⟩ := h
  obtain ⟨g1, g2, g3, g4, g5⟩ := g
  refine ⟨g1, by omega, by omega, fun k hk => ?_, fun k hk => ?_⟩
  · have a := g4 k (by omega)
    have b := h4 k hk
    exact ⟨a.1.trans b.1, a.2.trans b.2⟩
  · by_cases x : (k : Int) < (z1.1 60 22).toInt - (z.1 60 22).toInt
    · have a := g4 ((y.1 19 4).toInt.toNat + k) (by omega)
      have b := c ((130 + (z.1 60 22).toInt).toNat + k) (by omega)
      rw [a.1, a.2, b.1, b.2]
      exact h5 k x
    · have a := g5 (k - ((z1.1 60 22).toInt - (z.1 60 22).toInt).toNat) (by omega)
      have e1 : (y1.1 19 4).toInt.toNat + (k - ((z1.1 60 22).toInt - (z.1 60 22).toInt).toNat) = (y.1 19 4).toInt.toNat + k := by omega
      have e2 : (130 + (z1.1 60 22).toInt).toNat + (k - ((z1.1 60 22).toInt - (z.1 60 22).toInt).toNat) = (130 + (z.1 60 22).toInt).toNat + k := by omega
      rw [e1, e2] at a
      exact a
def xAd (y : SS) (a w : Int32) : SS := sI (sI (sI y 20 (y.1 19 4).toInt.toNat a) 21 (y.1 19 4).toInt.toNat w) 19 4 (y.1 19 4 + 1)
def mAd (z : SS) (a w : Int32) : SS := sI (sI (sI z 74 (130 + (z.1 60 22).toInt).toNat (a.toInt8.toInt32)) 75 (130 + (z.1 60 22).toInt).toNat w) 60 22 (z.1 60 22 + 1)
theorem x_addE {y : SS} (a w : Int32) (h0 : 0 ≤ (y.1 19 4).toInt) (h : (y.1 19 4).toInt < 121) : f_X4_addStep y a w = some (xAd y a w) := by
  have l121 : (121 : Int32).toInt = 121 := rfl
  unfold f_X4_addStep
  rw [if_neg (by rw [Int32.le_iff_toInt_le, l121]; omega), if_pos ⟨h0, h⟩]
  show (if vin (y.1 19 4) 121 then _ else none) = _
  rw [if_pos ⟨h0, h⟩]
  rfl
theorem m_addE {z : SS} (a w : Int32) (h0 : 0 ≤ (z.1 60 22).toInt) (h : (z.1 60 22).toInt < 130) : f_X12_addStep z a w = some (mAd z a w) := by
  have l130 : (130 : Int32).toInt = 130 := rfl
  have ad : ((130 : Int32) + z.1 60 22).toInt = 130 + (z.1 60 22).toInt := by rw [tadd (by omega) (by omega), l130]
  have ix : ((130 : Int32) + z.1 60 22).toNatClampNeg = (130 + (z.1 60 22).toInt).toNat := congrArg Int.toNat ad
  unfold f_X12_addStep
  rw [n8, if_pos ⟨by omega, by omega⟩]
  show (if vin ((130 : Int32) + z.1 60 22) 260 then nm (sI (sI z 74 ((130 : Int32) + z.1 60 22).toNatClampNeg (a.toInt8.toInt32)) 75 ((130 : Int32) + z.1 60 22).toNatClampNeg w) fun q2 => nm (sI q2 60 22 ((q2.1 60 22) + (1 : Int32))) fun q3 => some q3 else none) = _
  rw [if_pos ⟨by omega, by omega⟩, ix]
  rfl
theorem PM_add {y z y' s : SS} {a w a' w' : Int32} (hl : 0 ≤ (y.1 19 4).toInt) (hl2 : (y.1 19 4).toInt ≤ 121) (hz : 0 ≤ (z.1 60 22).toInt) (hz2 : (z.1 60 22).toInt ≤ 130) (hs : (s.1 60 22).toInt < 130) (h : PM y z y' s) (e : al a w (a'.toInt8.toInt32) w') : PM y z (xAd y' a w) (mAd s a' w') := by
  obtain ⟨h1, h2, h3, h4, h5⟩ := h
  have i1 := inc1 (a := y'.1 19 4) (by omega) (by omega)
  have i2 := inc1 (a := s.1 60 22) (by omega) (by omega)
  have rL : (xAd y' a w).1 19 4 = y'.1 19 4 + 1 := rfl
  have rD : (mAd s a' w').1 60 22 = s.1 60 22 + 1 := rfl
  have x20 : ∀ k : Nat, (xAd y' a w).1 20 k = if k = (y'.1 19 4).toInt.toNat then a else y'.1 20 k := fun k => by
    unfold xAd
    rw [sI_ro (by decide), sI_ro (by decide), sI_rd]
    simp
  have x21 : ∀ k : Nat, (xAd y' a w).1 21 k = if k = (y'.1 19 4).toInt.toNat then w else y'.1 21 k := fun k => by
    unfold xAd
    rw [sI_ro (by decide), sI_rd, sI_ro (by decide)]
    simp
  have m74 : ∀ k : Nat, (mAd s a' w').1 74 k = if k = (130 + (s.1 60 22).toInt).toNat then a'.toInt8.toInt32 else s.1 74 k := fun k => by
    unfold mAd
    rw [sI_ro (by decide), sI_ro (by decide), sI_rd]
    simp
  have m75 : ∀ k : Nat, (mAd s a' w').1 75 k = if k = (130 + (s.1 60 22).toInt).toNat then w' else s.1 75 k := fun k => by
    unfold mAd
    rw [sI_ro (by decide), sI_rd, sI_ro (by decide)]
    simp
  refine ⟨h1, by rw [rL, rD, i1, i2]; omega, by rw [rD, i2]; omega, fun k hk => ?_, fun k hk => ?_⟩
  · rw [x20, x21, if_neg (by omega), if_neg (by omega)]
    exact h4 k hk
  · rw [rD, i2] at hk
    rw [x20, x21, m74, m75]
    by_cases x : (k : Int) < (s.1 60 22).toInt - (z.1 60 22).toInt
    · rw [if_neg (by omega), if_neg (by omega), if_neg (by omega), if_neg (by omega)]
      exact h5 k x
    · rw [if_pos (by omega), if_pos (by omega), if_pos (by omega), if_pos (by omega)]
      exact e
/-- both stand at the start of a piece -/
def AQ (q y z : SS) : Prop := XL q y ∧ z.1 73 = q.1 73 ∧ z.1 60 18 = q.1 60 18 ∧ EN z ∧ y.1 17 3 = z.1 60 19 ∧ (y.1 19 4).toInt ≤ (z.1 60 19).toInt
/-- what a piece leaves: both read on, or both refuse at the same byte -/
def RQ (q y z : SS) (r : Int32 × SS) (s : SS) : Prop := (s.1 60 20 = -1 ∧ r.1 = 1 ∧ PM y z r.2 s) ∨ (0 ≤ (s.1 60 20).toInt ∧ r.2.1 17 3 = s.1 60 20 ∧ (r.1 = 0 ∨ (r.1 = 1 ∧ dig (CH q (s.1 60 20).toInt))))
/-! ===== a number, read on either side ===== -/
theorem T2_fx33 {A0 A1 A2 B0 B1 B2 α β : Type} {R : α → β → Prop} {F : (A0 → A1 → A2 → Option α) → A0 → A1 → A2 → Option α} {G : (B0 → B1 → B2 → Option β) → B0 → B1 → B2 → Option β} (I : A0 → A1 → A2 → B0 → B1 → B2 → Prop) (μ : A2 → Nat) (h : ∀ rf rg a0 a1 a2 b0 b1 b2, I a0 a1 a2 b0 b1 b2 → (∀ c0 c1 c2 d0 d1 d2, I c0 c1 c2 d0 d1 d2 → μ c2 < μ a2 → T2 (rf c0 c1 c2) (rg d0 d1 d2) R) → T2 (F rf a0 a1 a2) (G rg b0 b1 b2) R) : ∀ n m a0 a1 a2 b0 b1 b2, I a0 a1 a2 b0 b1 b2 → μ a2 < n → μ a2 < m → T2 (fx3 F n a0 a1 a2) (fx3 G m b0 b1 b2) R
  | 0, _, _, _, _, _, _, _, _, hm, _ => absurd hm (Nat.not_lt_zero _)
  | _ + 1, 0, _, _, _, _, _, _, _, _, hm => absurd hm (Nat.not_lt_zero _)
  | n + 1, m + 1, a0, a1, a2, b0, b1, b2, hI, h1, h2 => h _ _ a0 a1 a2 b0 b1 b2 hI (fun c0 c1 c2 d0 d1 d2 hb hl => T2_fx33 I μ h n m c0 c1 c2 d0 d1 d2 hb (by omega) (by omega))
theorem m_wrE {z : SS} (n : z.1 60 20 = -1) : f_X12_wrong z = some (sI z 60 20 (z.1 60 19)) := by
  unfold f_X12_wrong
  rw [if_neg (by rw [n]; decide)]
  rfl
theorem AQ_b {q y z : SS} (A : AQ q y z) : 0 ≤ (z.1 60 19).toInt ∧ (z.1 60 19).toInt ≤ (q.1 60 18).toInt ∧ (q.1 60 18).toInt ≤ 120 ∧ 0 ≤ (z.1 60 22).toInt ∧ (z.1 60 22).toInt ≤ (z.1 60 19).toInt ∧ 0 ≤ (y.1 19 4).toInt ∧ (y.1 19 4).toInt ≤ (z.1 60 19).toInt := by
  obtain ⟨a, b, c, d, e, f⟩ := A
  obtain ⟨d1, d2, d3, d4, d5, _⟩ := d
  have t : (z.1 60 18).toInt = (q.1 60 18).toInt := congrArg Int32.toInt c
  exact ⟨d1, by omega, by omega, d4, d5, a.2.1, f⟩
theorem sim_num {q y z : SS} (hT : RT q) (A : AQ q y z) (hd : dig (CH q (z.1 60 19).toInt)) : T2 (f_X5_readNumber y) (f_X12_figure z) (fun y' s => RQ q y z (1, y') s) := by
  have l4 : (4 : Int32).toInt = 4 := rfl
  have l0 : (0 : Int32).toInt = 0 := rfl
  obtain ⟨b1, b2, b3, b4, b5, b6, b7⟩ := AQ_b A
  have fin : ∀ (y1 z1 : SS) (l1 l2 : Int32), XL q y1 → z1.1 73 = q.1 73 → z1.1 60 18 = q.1 60 18 → PM y z y1 z1 → z1.1 60 20 = -1 → z1.1 60 22 = z.1 60 22 → 0 ≤ (z1.1 60 19).toInt → 1 ≤ l2.toInt → T2 (b_X5_readNumber_48 y1 l1) (b_X12_figure_52 z1 l1 l2) (fun y' s => RQ q y z (1, y') s) := by
    intro y1 z1 l1 l2 hX e73 e18 hP hn hL h0 hl
    have hL' : (z1.1 60 22).toInt = (z.1 60 22).toInt := congrArg Int32.toInt hL
    have hc : (y1.1 19 4).toInt = (y.1 19 4).toInt := by have := hP.2.1; omega
    have cm := CM_q hT h0
    unfold b_X5_readNumber_48 b_X12_figure_52
    refine T2_le (x_addE 48 l1 (by omega) (by omega)) (T2_qr (fun e => by rw [e] at hl; exact absurd hl (by decide)) (T2_re (m_lookE b3 e73 e18 h0) (T2_re (m_digE _ _) ?_)))
    have al1 : al 48 l1 ((1 : Int32).toInt8.toInt32) l1 := ⟨rfl, Or.inr (Or.inl ⟨rfl, by decide⟩)⟩
    by_cases d : dig (MH q (z1.1 60 19).toInt)
    · rw [dgc_1 d]
      refine T2_qr (by decide) ?_
      unfold b_X12_figure_70 b_X12_figure_74
      refine T2_re (m_wrE hn) (T2_re (m_addE 1 l1 (by show 0 ≤ (z1.1 60 22).toInt; omega) (by show (z1.1 60 22).toInt < 130; omega)) (T2_s (Or.inr ⟨h0, ?_, Or.inr ⟨rfl, ?_⟩⟩)))
      · exact hP.1
      · exact (CM_dig cm).mpr d
    · rw [dgc_0 d]
      refine T2_pr rfl ?_
      unfold b_X12_figure_74
      exact T2_re (m_addE 1 l1 (by omega) (by omega)) (T2_s (Or.inl ⟨hn, rfl, PM_add b6 (by omega) b4 (by omega) (by omega) hP al1⟩))
  unfold f_X5_readNumber b_X5_readNumber_4 f_X12_figure b_X12_figure_4
  refine T2_fx33 (fun y1 l1 l2 z1 m1 m2 => m1 = l1 ∧ m2 = l2 ∧ 0 ≤ l2.toInt ∧ l2.toInt ≤ 4 ∧ XL q y1 ∧ z1.1 73 = q.1 73 ∧ z1.1 60 18 = q.1 60 18 ∧ PM y z y1 z1 ∧ z1.1 60 20 = -1 ∧ z1.1 60 22 = z.1 60 22 ∧ 0 ≤ (z1.1 60 19).toInt ∧ (z1.1 60 19).toInt ≤ (q.1 60 18).toInt ∧ (1 ≤ l2.toInt ∨ dig (CH q (z1.1 60 19).toInt))) (fun l2 => (4 - l2.toInt).toNat) ?_ _ _ _ _ _ _ _ _ ⟨rfl, rfl, by decide, by decide, A.1, A.2.1, A.2.2.1, PM_refl A.2.2.2.2.1, A.2.2.2.1.2.2.2.2.2.1, rfl, b1, b2, Or.inr hd⟩ (by unfold FU; decide) (by unfold FU; decide)
  rintro rf rg y1 l1 l2 z1 m1 m2 ⟨rfl, rfl, h0, h4, hX, e73, e18, hP, hn, hL, p0, p1, hdd⟩ hr
  by_cases g : (4 : Int32) ≤ m2
  · have g' := Int32.le_iff_toInt_le.mp g
    exact T2_pl g (T2_pr g (fin y1 z1 m1 m2 hX e73 e18 hP hn hL p0 (by omega)))
  have g' := Int32.lt_iff_toInt_lt.mp (Int32.not_le.mp g)
  have ep : (y1.1 17 3).toInt = (z1.1 60 19).toInt := congrArg Int32.toInt hP.1
  have cE := x_nextE hT hX.1 (by omega)
  rw [ep] at cE
  have mE := m_lookE b3 e73 e18 p0
  have cm := CM_q hT p0
  refine T2_ql g (T2_qr g (T2_le cE (T2_le (x_digE _ _) (T2_re mE (T2_re (m_digE _ _) ?_)))))
  by_cases d : dig (CH q (z1.1 60 19).toInt)
  · have d' := (CM_dig cm).mp d
    rw [dgc_1 d, dgc_1 d']
    refine T2_ql (by decide) (T2_qr (by decide) (T2_le cE (T2_re mE (T2_nl (T2_nl (T2_nr (T2_nr ?_)))))))
    rw [CM_same cm d]
    have i := inc1 (a := m2) (by omega) (by omega)
    have lt : (z1.1 60 19).toInt < (q.1 60 18).toInt := by
      by_cases c : (z1.1 60 19).toInt < (q.1 60 18).toInt
      · exact c
      · unfold CH dig at d
        rw [if_neg c] at d
        exact absurd d.1 (by decide)
    have i2 := inc1 (a := z1.1 60 19) (by omega) (by omega)
    exact hr _ _ _ _ _ _ ⟨rfl, rfl, by omega, by omega, XL_s hX, e73, e18, PM_pos hP, hn, hL, by show 0 ≤ (z1.1 60 19 + 1).toInt; omega, by show (z1.1 60 19 + 1).toInt ≤ (q.1 60 18).toInt; omega, Or.inl (by omega)⟩ (by omega)
  · have d' := fun x => d ((CM_dig cm).mpr x)
    rw [dgc_0 d, dgc_0 d']
    exact T2_pl rfl (T2_pr rfl (fin y1 z1 m1 m2 hX e73 e18 hP hn hL p0 (by rcases hdd with h | h; exact h; exact absurd h d)))
/-- the model's figure where no digit stands -/
theorem fig_no {q z : SS} (h120 : (q.1 60 18).toInt ≤ 120) (e73 : z.1 73 = q.1 73) (e18 : z.1 60 18 = q.1 60 18) (h0 : 0 ≤ (z.1 60 19).toInt) (hn : z.1 60 20 = -1) (l0 : 0 ≤ (z.1 60 22).toInt) (l1 : (z.1 60 22).toInt < 130) (d : ¬ dig (MH q (z.1 60 19).toInt)) : f_X12_figure z = some (mAd (sI z 60 20 (z.1 60 19)) 1 0) := by
  have mE := m_lookE h120 e73 e18 h0
  have h : T (f_X12_figure z) (fun s => s = mAd (sI z 60 20 (z.1 60 19)) 1 0) := by
    unfold f_X12_figure b_X12_figure_4
    rw [fx3_s]
    refine T_len (by decide) (T_rw mE (T_rw (m_digE z _) ?_))
    rw [dgc_0 d]
    refine T_p rfl ?_
    unfold b_X12_figure_52
    refine T_p rfl ?_
    unfold b_X12_figure_70
    refine T_rw (m_wrE hn) ?_
    unfold b_X12_figure_74
    exact T_rw (m_addE 1 0 (by exact l0) (by exact l1)) (T_some.mpr rfl)
  obtain ⟨s, h1, h2⟩ := h
  rw [h1, h2]
/-! ===== the model's levels, one behind another ===== -/
theorem CM_lvc {c m : Int32} (h : CM c m) : lvc c = lvc m := by
  unfold lvc
  simp only [CM_eq h (k := 37) (by decide) (by decide), CM_eq h (k := 38) (by decide) (by decide), CM_eq h (k := 42) (by decide) (by decide), CM_eq h (k := 43) (by decide) (by decide), CM_eq h (k := 45) (by decide) (by decide), CM_eq h (k := 47) (by decide) (by decide), CM_eq h (k := 60) (by decide) (by decide), CM_eq h (k := 61) (by decide) (by decide), CM_eq h (k := 62) (by decide) (by decide), CM_eq h (k := 124) (by decide) (by decide)]
theorem lvc_in (m : Int32) : (lvc m = 5 ∧ (m = 42 ∨ m = 47 ∨ m = 37)) ∨ (lvc m = 4 ∧ (m = 43 ∨ m = 45)) ∨ (lvc m = 3 ∧ (m = 60 ∨ m = 61 ∨ m = 62)) ∨ (lvc m = 2 ∧ m = 38) ∨ (lvc m = 1 ∧ m = 124) ∨ lvc m = 0 := by
  by_cases h1 : m = 37
  · subst h1; exact Or.inl ⟨rfl, Or.inr (Or.inr rfl)⟩
  by_cases h2 : m = 38
  · subst h2; exact Or.inr (Or.inr (Or.inr (Or.inl ⟨rfl, rfl⟩)))
  by_cases h3 : m = 42
  · subst h3; exact Or.inl ⟨rfl, Or.inl rfl⟩
  by_cases h4 : m = 43
  · subst h4; exact Or.inr (Or.inl ⟨rfl, Or.inl rfl⟩)
  by_cases h5 : m = 45
  · subst h5; exact Or.inr (Or.inl ⟨rfl, Or.inr rfl⟩)
  by_cases h6 : m = 47
  · subst h6; exact Or.inl ⟨rfl, Or.inr (Or.inl rfl)⟩
  by_cases h7 : m = 60
  · subst h7; exact Or.inr (Or.inr (Or.inl ⟨rfl, Or.inl rfl⟩))
  by_cases h8 : m = 61
  · subst h8; exact Or.inr (Or.inr (Or.inl ⟨rfl, Or.inr (Or.inl rfl)⟩))
  by_cases h9 : m = 62
  · subst h9; exact Or.inr (Or.inr (Or.inl ⟨rfl, Or.inr (Or.inr rfl)⟩))
  by_cases h10 : m = 124
  · subst h10; exact Or.inr (Or.inr (Or.inr (Or.inr (Or.inl ⟨rfl, rfl⟩))))
  refine Or.inr (Or.inr (Or.inr (Or.inr (Or.inr ?_))))
  unfold lvc
  rw [if_neg h1, if_neg h2, if_neg h3, if_neg h4, if_neg h5, if_neg h6, if_neg h7, if_neg h8, if_neg h9, if_neg h10]
def FP5 (r : GT_X12_operand) (rec : SS → Option SS) (q : SS) : Option SS :=
  if 0 ≤ (q.1 60 20) then (some q) else ((f_X12_look q).bind fun r2 => if r2 = (42 : Int32) then (b_X12_product_38 r rec q) else ((f_X12_look q).bind fun r7 => if r7 = (47 : Int32) then (b_X12_product_38 r rec q) else ((f_X12_look q).bind fun r8 => if r8 = (37 : Int32) then (b_X12_product_38 r rec q) else (some q))))
def FP4 (r : GT_X12_operand) (rec : SS → Option SS) (q : SS) : Option SS :=
  if 0 ≤ (q.1 60 20) then (some q) else ((f_X12_look q).bind fun r2 => if r2 = (43 : Int32) then (b_X12_sum_29 r rec q) else ((f_X12_look q).bind fun r7 => if r7 = (45 : Int32) then (b_X12_sum_29 r rec q) else (some q)))
def FP3 (r : GT_X12_operand) (r1 : SS) : Option SS :=
  (f_X12_look r1).bind fun r2 => if 0 ≤ (r1.1 60 20) then (some r1) else (if r2 = (60 : Int32) then (b_X12_compared_35 r r1 r2) else (if r2 = (61 : Int32) then (b_X12_compared_35 r r1 r2) else (if r2 = (62 : Int32) then (b_X12_compared_35 r r1 r2) else (some r1))))
def FP2 (r : GT_X12_operand) (rec : SS → Option SS) (q : SS) : Option SS :=
  if 0 ≤ (q.1 60 20) then (some q) else ((f_X12_look q).bind fun r2 => if r2 = (38 : Int32) then (nm (sI q 60 19 ((q.1 60 19) + (1 : Int32))) fun q3 => (r.2.2.2.1 q3).bind fun r4 => (f_X12_addStep r4 (38 : Int32) (0 : Int32)).bind fun r5 => rec r5) else (some q))
def FP1 (r : GT_X12_operand) (rec : SS → Option SS) (q : SS) : Option SS :=
  if 0 ≤ (q.1 60 20) then (some q) else ((f_X12_look q).bind fun r2 => if r2 = (124 : Int32) then (nm (sI q 60 19 ((q.1 60 19) + (1 : Int32))) fun q3 => (r.2.2.2.2.1 q3).bind fun r4 => (f_X12_addStep r4 (124 : Int32) (0 : Int32)).bind fun r5 => rec r5) else (some q))
/-- what stands behind the level above, at each level -/
def CC (r : GT_X12_operand) (k : Nat) : Nat → SS → Option SS
  | 5 => fx1 (FP5 r) k
  | 4 => fx1 (FP4 r) k
  | 3 => FP3 r
  | 2 => fx1 (FP2 r) k
  | 1 => fx1 (FP1 r) k
  | _ => some
def MF (r : GT_X12_operand) : Nat → SS → Option SS
  | 1 => r.2.2.2.2.2
  | 2 => r.2.2.2.2.1
  | 3 => r.2.2.2.1
  | 4 => r.2.2.1
  | 5 => r.2.1
  | _ => r.1
theorem B1_e (r : GT_X12_operand) : b_X12_either_4 r = fx1 (FP1 r) FU := congrArg (fun F => fx1 F FU) (show _ = FP1 r from rfl)
theorem B2_e (r : GT_X12_operand) : b_X12_both_4 r = fx1 (FP2 r) FU := congrArg (fun F => fx1 F FU) (show _ = FP2 r from rfl)
theorem B4_e (r : GT_X12_operand) : b_X12_sum_4 r = fx1 (FP4 r) FU := congrArg (fun F => fx1 F FU) (show _ = FP4 r from rfl)
theorem B5_e (r : GT_X12_operand) : b_X12_product_4 r = fx1 (FP5 r) FU := congrArg (fun F => fx1 F FU) (show _ = FP5 r from rfl)
theorem CC_1 (r : GT_X12_operand) (k : Nat) : CC r k 1 = fx1 (FP1 r) k := rfl
theorem CC_2 (r : GT_X12_operand) (k : Nat) : CC r k 2 = fx1 (FP2 r) k := rfl
theorem CC_3 (r : GT_X12_operand) (k : Nat) : CC r k 3 = FP3 r := rfl
theorem CC_4 (r : GT_X12_operand) (k : Nat) : CC r k 4 = fx1 (FP4 r) k := rfl
theorem CC_5 (r : GT_X12_operand) (k : Nat) : CC r k 5 = fx1 (FP5 r) k := rfl
theorem MF_s {L : Nat} (h1 : 1 ≤ L) (h5 : L ≤ 5) (n : Nat) (q : SS) : MF (g_X12_operand (n + 1)) L q = (MF (g_X12_operand n) (L + 1) q).bind (CC (g_X12_operand n) FU L) := by
  have c : L = 1 ∨ L = 2 ∨ L = 3 ∨ L = 4 ∨ L = 5 := by omega
  rcases c with rfl | rfl | rfl | rfl | rfl
  · show fb_X12_either (g_X12_operand n) q = ((g_X12_operand n).2.2.2.2.1 q).bind _
    rw [CC_1, ← B1_e]
    rfl
  · show fb_X12_both (g_X12_operand n) q = ((g_X12_operand n).2.2.2.1 q).bind _
    rw [CC_2, ← B2_e]
    rfl
  · show fb_X12_compared (g_X12_operand n) q = ((g_X12_operand n).2.2.1 q).bind _
    rw [CC_3]
    rfl
  · show fb_X12_sum (g_X12_operand n) q = ((g_X12_operand n).2.1 q).bind _
    rw [CC_4, ← B4_e]
    rfl
  · show fb_X12_product (g_X12_operand n) q = ((g_X12_operand n).1 q).bind _
    rw [CC_5, ← B5_e]
    rfl
/-- the char is no sign of this level -/
theorem CC_no {r : GT_X12_operand} {k L : Nat} {s : SS} {m : Int32} (h1 : 1 ≤ L) (h5 : L ≤ 5) (hm : f_X12_look s = some m) (hl : (lvc m).toInt ≠ (L : Int)) : CC r (k + 1) L s = some s := by
  have c : L = 1 ∨ L = 2 ∨ L = 3 ∨ L = 4 ∨ L = 5 := by omega
  have ne : ∀ k : Int32, (lvc k).toInt = (L : Int) → ¬ m = k := fun k hk e => hl (by rw [e]; exact hk)
  rcases c with rfl | rfl | rfl | rfl | rfl
  · show FP1 r (fx1 (FP1 r) k) s = some s
    generalize fx1 (FP1 r) k = rec
    unfold FP1
    rw [hm, bind_s, if_neg (ne 124 rfl), ite_self]
  · show FP2 r (fx1 (FP2 r) k) s = some s
    generalize fx1 (FP2 r) k = rec
    unfold FP2
    rw [hm, bind_s, if_neg (ne 38 rfl), ite_self]
  · show FP3 r s = some s
    unfold FP3
    rw [hm, bind_s, if_neg (ne 60 rfl), if_neg (ne 61 rfl), if_neg (ne 62 rfl), ite_self]
  · show FP4 r (fx1 (FP4 r) k) s = some s
    generalize fx1 (FP4 r) k = rec
    unfold FP4
    rw [hm, bind_s, bind_s, if_neg (ne 43 rfl), if_neg (ne 45 rfl), ite_self]
  · show FP5 r (fx1 (FP5 r) k) s = some s
    generalize fx1 (FP5 r) k = rec
    unfold FP5
    rw [hm, bind_s, bind_s, bind_s, if_neg (ne 42 rfl), if_neg (ne 47 rfl), if_neg (ne 37 rfl), ite_self]
/-- refused already -/
theorem CC_w {r : GT_X12_operand} {k L : Nat} {s : SS} {m : Int32} (hm : f_X12_look s = some m) (hw : 0 ≤ (s.1 60 20).toInt) : CC r (k + 1) L s = some s := by
  have l0 : (0 : Int32).toInt = 0 := rfl
  have w : (0 : Int32) ≤ s.1 60 20 := Int32.le_iff_toInt_le.mpr (by rw [l0]; exact hw)
  match L with
  | 0 => rfl
  | 1 => show FP1 r (fx1 (FP1 r) k) s = some s; unfold FP1; rw [if_pos w]
  | 2 => show FP2 r (fx1 (FP2 r) k) s = some s; unfold FP2; rw [if_pos w]
  | 3 => show FP3 r s = some s; unfold FP3; rw [hm, bind_s, if_pos w]
  | 4 => show FP4 r (fx1 (FP4 r) k) s = some s; unfold FP4; rw [if_pos w]
  | 5 => show FP5 r (fx1 (FP5 r) k) s = some s; unfold FP5; rw [if_pos w]
  | _ + 6 => rfl
def aft (r : GT_X12_operand) (k L : Nat) : SS → Option SS := if L = 3 then some else CC r k L
/-- a sign of this level -/
theorem CC_op {r : GT_X12_operand} {k L : Nat} {s : SS} {m : Int32} (h1 : 1 ≤ L) (hm : f_X12_look s = some m) (hl : (lvc m).toInt = (L : Int)) (hn : s.1 60 20 = -1) : CC r (k + 1) L s = (MF r (L + 1) (sI s 60 19 (s.1 60 19 + 1))).bind fun r5 => (f_X12_addStep r5 m 0).bind fun r6 => aft r k L r6 := by
  have w : ¬ (0 : Int32) ≤ s.1 60 20 := by rw [hn]; decide
  have i5 : (5 : Int32).toInt = 5 := rfl
  have i4 : (4 : Int32).toInt = 4 := rfl
  have i3 : (3 : Int32).toInt = 3 := rfl
  have i2 : (2 : Int32).toInt = 2 := rfl
  have i1 : (1 : Int32).toInt = 1 := rfl
  have i0 : (0 : Int32).toInt = 0 := rfl
  rcases lvc_in m with ⟨e, h⟩ | ⟨e, h⟩ | ⟨e, h⟩ | ⟨e, h⟩ | ⟨e, h⟩ | e
  · rw [e, i5] at hl
    obtain rfl : L = 5 := by omega
    show FP5 r (fx1 (FP5 r) k) s = _
    unfold FP5 b_X12_product_38
    rw [if_neg w, hm]
    rcases h with rfl | rfl | rfl <;> rfl
  · rw [e, i4] at hl
    obtain rfl : L = 4 := by omega
    show FP4 r (fx1 (FP4 r) k) s = _
    unfold FP4 b_X12_sum_29
    rw [if_neg w, hm]
    rcases h with rfl | rfl <;> rfl
  · rw [e, i3] at hl
    obtain rfl : L = 3 := by omega
    show FP3 r s = _
    unfold FP3 b_X12_compared_35
    rw [hm, bind_s, if_neg w]
    rcases h with rfl | rfl | rfl <;> rfl
  · rw [e, i2] at hl
    obtain rfl : L = 2 := by omega
    show FP2 r (fx1 (FP2 r) k) s = _
    unfold FP2
    rw [if_neg w, hm]
    subst h
    rfl
  · rw [e, i1] at hl
    obtain rfl : L = 1 := by omega
    show FP1 r (fx1 (FP1 r) k) s = _
    unfold FP1
    rw [if_neg w, hm]
    subst h
    rfl
  · rw [e, i0] at hl
    exact absurd hl (by omega)
def ch (b l : Nat) : Nat → Nat → SS → Option SS
  | 0, _, s => some s
  | hi + 1, k, s => if hi + 1 < l then some s else (CC (g_X12_operand (b + 5 - (hi + 1))) k (hi + 1) s).bind (ch b l hi FU)
theorem ch_no {b l : Nat} {s : SS} {m : Int32} (hm : f_X12_look s = some m) : ∀ (hi k : Nat), hi ≤ 5 → (∀ L : Nat, l ≤ L → L ≤ hi → (lvc m).toInt ≠ (L : Int)) → ch b l hi (k + 1) s = some s
  | 0, _, _, _ => rfl
  | hi + 1, k, h5, h => by
    unfold ch
    by_cases c : hi + 1 < l
    · rw [if_pos c]
    · rw [if_neg c, CC_no (by omega) h5 hm (h (hi + 1) (by omega) (Nat.le_refl _)), bind_s]
      exact ch_no hm hi 999999 (by omega) (fun L h1 h2 => h L h1 (by omega))
theorem ch_w {b l : Nat} {s : SS} {m : Int32} (hm : f_X12_look s = some m) (hw : 0 ≤ (s.1 60 20).toInt) : ∀ (hi k : Nat), ch b l hi (k + 1) s = some s
  | 0, _ => rfl
  | hi + 1, k => by
    unfold ch
    by_cases c : hi + 1 < l
    · rw [if_pos c]
    · rw [if_neg c, CC_w hm hw, bind_s]
      exact ch_w hm hw hi 999999
/-- a sign of a level between: the levels above it stop, its own goes on -/
theorem ch_op {b l v : Nat} {s : SS} {m : Int32} (hm : f_X12_look s = some m) (hn : s.1 60 20 = -1) (hv : (lvc m).toInt = (v : Int)) (h1 : 1 ≤ v) (hl : l ≤ v) : ∀ (hi k d : Nat), v ≤ hi → hi ≤ 5 → d ≤ k → d ≤ 999999 → ∃ k', d ≤ k' ∧ ch b l hi (k + 1) s = (MF (g_X12_operand (b + 5 - v)) (v + 1) (sI s 60 19 (s.1 60 19 + 1))).bind fun r5 => (f_X12_addStep r5 m 0).bind fun r6 => ch b l (if v = 3 then 2 else v) k' r6
  | 0, _, _, h, _, _, _ => absurd h (by omega)
  | hi + 1, k, d, h, h5, hd, hd2 => by
    by_cases c : v = hi + 1
    · subst c
      by_cases c3 : hi + 1 = 3
      · obtain rfl : hi = 2 := by omega
        refine ⟨FU, by unfold FU; omega, ?_⟩
        rw [ch, if_neg (by omega), CC_op h1 hm hv hn, if_pos rfl]
        generalize MF (g_X12_operand (b + 5 - (2 + 1))) (2 + 1 + 1) (sI s 60 19 (s.1 60 19 + 1)) = o
        cases o with
        | none => rfl
        | some r5 =>
          simp only [bind_s]
          generalize f_X12_addStep r5 m 0 = o2
          cases o2 with
          | none => rfl
          | some r6 => rfl
      · refine ⟨k, hd, ?_⟩
        rw [ch, if_neg (by omega), CC_op h1 hm hv hn, if_neg c3]
        generalize MF (g_X12_operand (b + 5 - (hi + 1))) (hi + 1 + 1) (sI s 60 19 (s.1 60 19 + 1)) = o
        cases o with
        | none => rfl
        | some r5 =>
          simp only [bind_s]
          generalize f_X12_addStep r5 m 0 = o2
          cases o2 with
          | none => rfl
          | some r6 =>
            show (aft _ k (hi + 1) r6).bind _ = ch b l (hi + 1) k r6
            unfold aft
            rw [if_neg c3, ch, if_neg (by omega)]
    · obtain ⟨k', h1', h2'⟩ := ch_op hm hn hv h1 hl hi 999999 d (by omega) (by omega) hd2 hd2
      refine ⟨k', h1', ?_⟩
      rw [← h2', ch, if_neg (by omega), CC_no (by omega) h5 hm (by omega), bind_s]
      rfl
/-- the model's level l is its operand, and the levels 5 to l behind it -/
theorem MF_ch (b : Nat) (q : SS) : ∀ j : Nat, j ≤ 5 → MF (g_X12_operand (b + j)) (6 - j) q = (MF (g_X12_operand b) 6 q).bind (fun s => ch b (6 - j) 5 FU s)
  | 0, _ => by
    show MF (g_X12_operand b) 6 q = _
    cases MF (g_X12_operand b) 6 q with
    | none => rfl
    | some s => rfl
  | j + 1, h => by
    have e : 6 - (j + 1) + 1 = 6 - j := by omega
    have ih := MF_ch b q j (by omega)
    rw [show b + (j + 1) = (b + j) + 1 from rfl, MF_s (by omega) (by omega), e, ih]
    cases MF (g_X12_operand b) 6 q with
    | none => rfl
    | some s =>
      show (ch b (6 - j) 5 FU s).bind (CC (g_X12_operand (b + j)) FU (6 - (j + 1))) = ch b (6 - (j + 1)) 5 FU s
      have k : ∀ (hi k : Nat) (s : SS), 6 - (j + 1) ≤ hi → hi ≤ 5 → ch b (6 - (j + 1)) hi k s = (if hi = 6 - (j + 1) then CC (g_X12_operand (b + j)) k (6 - (j + 1)) s else (ch b (6 - j) hi k s).bind (CC (g_X12_operand (b + j)) FU (6 - (j + 1)))) := by
        intro hi
        induction hi with
        | zero => intro k s h1 h2; omega
        | succ hi ihh =>
          intro k s h1 h2
          rw [ch, if_neg (by omega)]
          by_cases c : hi + 1 = 6 - (j + 1)
          · rw [if_pos c, ← c, show b + 5 - (hi + 1) = b + j by omega]
            cases CC (g_X12_operand (b + j)) k (hi + 1) s with
            | none => rfl
            | some t =>
              show ch b (hi + 1) hi FU t = some t
              cases hi with
              | zero => rfl
              | succ hi => rw [ch, if_pos (by omega)]
          · rw [if_neg c, ch, if_neg (by omega)]
            cases CC (g_X12_operand (b + 5 - (hi + 1))) k (hi + 1) s with
            | none => rfl
            | some t =>
              show ch b (6 - (j + 1)) hi FU t = (ch b (6 - j) hi FU t).bind _
              rw [ihh FU t (by omega) (by omega)]
              by_cases c2 : hi = 6 - (j + 1)
              · rw [if_pos c2]
                have : ch b (6 - j) hi FU t = some t := by
                  cases hi with
                  | zero => rfl
                  | succ hi => rw [ch, if_pos (by omega)]
                rw [this, bind_s]
              · rw [if_neg c2]
      have := k 5 FU s (by omega) (by omega)
      by_cases c : 5 = 6 - (j + 1)
      · rw [if_pos c] at this
        obtain rfl : j = 0 := by omega
        rw [this]
        rfl
      · rw [if_neg c] at this
        exact this.symm
/-! ===== the class's loop beside the model's levels ===== -/
theorem T_un {ρ : Type} {o : Option ρ} {r : ρ} {P : ρ → Prop} (h : T o P) (e : o = some r) : P r := by
  obtain ⟨a, h1, h2⟩ := h
  rw [e] at h1
  cases h1
  exact h2
def FJ (r : GT_X5_readJoined) (rec : SS → Int32 → Int32 → Int32 → Int32 → Int32 → Option (Int32 × SS)) (q : SS) (l1 l2 l3 l4 l5 : Int32) : Option (Int32 × SS) :=
  if (120 : Int32) ≤ l5 then (if l4 = 0 ∨ l4 = 1 then some (l4, q) else none) else (if l4 = 0 then (if l4 = 0 ∨ l4 = 1 then some (l4, q) else none) else ((f_X5_next q).bind fun r2 => (f_X5_levelOf q r2).bind fun r3 => if r3 < l1 then (some ((1 : Int32), q)) else (if r3 ≤ l3 then (nm (sI q 17 3 ((q.1 17 3) + (1 : Int32))) fun q4 => (r.1 q4 (r3 + (1 : Int32)) l2).bind fun r5 => (f_X4_addStep r5.2 r2 (0 : Int32)).bind fun r6 => if r3 = (3 : Int32) then (b_X5_readJoined_97 r rec r6 l1 l2 r5.1 l5 (r3 - (1 : Int32))) else (b_X5_readJoined_97 r rec r6 l1 l2 r5.1 l5 r3)) else (some ((1 : Int32), q)))))
theorem FJ_e (r : GT_X5_readJoined) : b_X5_readJoined_12 r = fx6 (FJ r) FU := rfl
theorem J_end {r : GT_X5_readJoined} {k : Nat} {y : SS} {l1 l2 l3 l5 : Int32} : fx6 (FJ r) (k + 1) y l1 l2 l3 0 l5 = some (0, y) := by
  show FJ r (fx6 (FJ r) k) y l1 l2 l3 0 l5 = _
  unfold FJ
  rw [if_pos (show (0 : Int32) = 0 ∨ (0 : Int32) = 1 from Or.inl rfl), if_pos (show (0 : Int32) = 0 from rfl), ite_self]
theorem J_120 {r : GT_X5_readJoined} {k : Nat} {y : SS} {l1 l2 l3 l5 : Int32} (h : 120 ≤ l5.toInt) : fx6 (FJ r) (k + 1) y l1 l2 l3 1 l5 = some (1, y) := by
  show FJ r (fx6 (FJ r) k) y l1 l2 l3 1 l5 = _
  unfold FJ
  rw [if_pos (show (120 : Int32) ≤ l5 from Int32.le_iff_toInt_le.mpr h), if_pos (show (1 : Int32) = 0 ∨ (1 : Int32) = 1 from Or.inr rfl)]
theorem J_stop {r : GT_X5_readJoined} {k : Nat} {y : SS} {l1 l2 l3 l5 c : Int32} (hc : f_X5_next y = some c) (h : (lvc c).toInt < l1.toInt ∨ l3.toInt < (lvc c).toInt) : fx6 (FJ r) (k + 1) y l1 l2 l3 1 l5 = some (1, y) := by
  show FJ r (fx6 (FJ r) k) y l1 l2 l3 1 l5 = _
  unfold FJ
  rw [if_pos (show (1 : Int32) = 0 ∨ (1 : Int32) = 1 from Or.inr rfl), if_neg (show ¬ (1 : Int32) = 0 by decide), hc, bind_s, x_levelE, bind_s]
  by_cases a : lvc c < l1
  · rw [if_pos a, ite_self]
  · rw [if_neg a]
    have a' := Int32.le_iff_toInt_le.mp (Int32.not_lt.mp a)
    rw [if_neg (show ¬ lvc c ≤ l3 from fun e => by have := Int32.le_iff_toInt_le.mp e; omega), ite_self]
theorem J_op {r : GT_X5_readJoined} {k : Nat} {y : SS} {l1 l2 l3 l5 c : Int32} (hc : f_X5_next y = some c) (h5 : l5.toInt < 120) (h : l1.toInt ≤ (lvc c).toInt ∧ (lvc c).toInt ≤ l3.toInt) : fx6 (FJ r) (k + 1) y l1 l2 l3 1 l5 = (r.1 (sI y 17 3 (y.1 17 3 + 1)) (lvc c + 1) l2).bind fun r5 => (f_X4_addStep r5.2 c 0).bind fun r6 => fx6 (FJ r) k r6 l1 l2 (if lvc c = 3 then 2 else lvc c) r5.1 (l5 + 1) := by
  have l120 : (120 : Int32).toInt = 120 := rfl
  show FJ r (fx6 (FJ r) k) y l1 l2 l3 1 l5 = _
  unfold FJ b_X5_readJoined_97
  rw [if_neg (by rw [Int32.le_iff_toInt_le, l120]; omega), if_neg (show ¬ (1 : Int32) = 0 by decide), hc, bind_s, x_levelE, bind_s, if_neg (by rw [Int32.lt_iff_toInt_lt]; omega), if_pos (Int32.le_iff_toInt_le.mpr h.2)]
  by_cases e : lvc c = 3
  · rw [e]
    rfl
  · simp only [if_neg e]
    rfl
theorem dig_lv {c : Int32} (h : dig c) : lvc c = 0 := by
  rcases lvc_in c with ⟨_, h1⟩ | ⟨_, h1⟩ | ⟨_, h1⟩ | ⟨_, h1⟩ | ⟨_, h1⟩ | h1
  · rcases h1 with rfl | rfl | rfl <;> exact absurd h (by decide)
  · rcases h1 with rfl | rfl <;> exact absurd h (by decide)
  · rcases h1 with rfl | rfl | rfl <;> exact absurd h (by decide)
  · subst h1; exact absurd h (by decide)
  · subst h1; exact absurd h (by decide)
  · exact h1
theorem CM_op {c m : Int32} (h : CM c m) (hl : 1 ≤ (lvc c).toInt) : m = c := by
  rcases h with ⟨h, _⟩ | ⟨h1, h2⟩
  · exact h
  · exfalso
    rcases lvc_in c with ⟨_, h3⟩ | ⟨_, h3⟩ | ⟨_, h3⟩ | ⟨_, h3⟩ | ⟨_, h3⟩ | h3
    · rcases h3 with rfl | rfl | rfl <;> exact absurd h1 (by decide)
    · rcases h3 with rfl | rfl <;> exact absurd h1 (by decide)
    · rcases h3 with rfl | rfl | rfl <;> exact absurd h1 (by decide)
    · subst h3; exact absurd h1 (by decide)
    · subst h3; exact absurd h1 (by decide)
    · rw [h3] at hl; exact absurd hl (by decide)
theorem op8 {c : Int32} (hl : 1 ≤ (lvc c).toInt) : c.toInt8.toInt32 = c ∧ (∀ d : Nat, stepd c 0 (d + 2) = some (d + 1)) := by
  rcases lvc_in c with ⟨_, h3⟩ | ⟨_, h3⟩ | ⟨_, h3⟩ | ⟨_, h3⟩ | ⟨_, h3⟩ | h3
  · rcases h3 with rfl | rfl | rfl <;> exact ⟨by decide, fun d => rfl⟩
  · rcases h3 with rfl | rfl <;> exact ⟨by decide, fun d => rfl⟩
  · rcases h3 with rfl | rfl | rfl <;> exact ⟨by decide, fun d => rfl⟩
  · subst h3; exact ⟨by decide, fun d => rfl⟩
  · subst h3; exact ⟨by decide, fun d => rfl⟩
  · rw [h3] at hl; exact absurd hl (by decide)
theorem al_op {c : Int32} (hl : 1 ≤ (lvc c).toInt) : al c 0 (c.toInt8.toInt32) 0 := by
  rw [(op8 hl).1]
  exact ⟨rfl, Or.inr (Or.inr (Or.inr (Or.inr ⟨rfl, hl⟩)))⟩
theorem x_addT {q y : SS} (h : XL q y) (a b : Int32) : T (f_X4_addStep y a b) (fun r => XL q r ∧ r.1 17 3 = y.1 17 3) := by
  have t := x_addStep h a b
  by_cases c : (y.1 19 4).toInt < 121
  · have e := x_addE a b h.2.1 c
    exact T_of e ⟨T_un t e, rfl⟩
  · have l121 : (121 : Int32).toInt = 121 := rfl
    have e : f_X4_addStep y a b = some y := by
      unfold f_X4_addStep
      rw [if_pos (Int32.le_iff_toInt_le.mpr (by rw [l121]; omega))]
    exact T_of e ⟨h, rfl⟩
theorem SG_ZX {o : Int32} {c : Int} {d : Nat} {q z s : SS} (g : SG o c d z s) (e73 : z.1 73 = q.1 73) (e18 : z.1 60 18 = q.1 60 18) : s.1 73 = q.1 73 ∧ s.1 60 18 = q.1 60 18 := by
  have a : s.1 73 = z.1 73 := Fr_r g.1 (fun _ => rfl)
  exact ⟨a.trans e73, (SG_tp g).trans e18⟩
/-- what stands behind a piece: refused, both unwind -/
theorem sim_w {q y z y6 s6 : SS} {o fl l32 l3 l5 : Int32} {nC b l hi kc km : Nat} (hT : RT q) (hX : XL q y6) (h120 : (q.1 60 18).toInt ≤ 120) (e73 : s6.1 73 = q.1 73) (e18 : s6.1 60 18 = q.1 60 18) (h0 : 0 ≤ (s6.1 60 19).toInt) (hl1 : 1 ≤ l32.toInt) (w : 0 ≤ (s6.1 60 20).toInt) (p : y6.1 17 3 = s6.1 60 20) (f : fl = 0 ∨ (fl = 1 ∧ dig (CH q (s6.1 60 20).toInt))) : T2 (fx6 (FJ (g_X5_readJoined nC)) (kc + 1) y6 l32 o l3 fl l5) (ch b l hi (km + 1) s6) (RQ q y z) := by
  have cm := ch_w (b := b) (l := l) (m_lookE h120 e73 e18 h0) w hi km
  rw [cm]
  rcases f with rfl | ⟨rfl, d⟩
  · rw [J_end]
    exact T2_s (Or.inr ⟨w, p, Or.inl rfl⟩)
  · have e : (y6.1 17 3).toInt = (s6.1 60 20).toInt := congrArg Int32.toInt p
    have nx := x_nextE hT hX.1 (by omega)
    rw [e] at nx
    rw [J_stop nx (Or.inl (by rw [dig_lv d]; show (0 : Int) < _; omega))]
    exact T2_s (Or.inr ⟨w, p, Or.inr ⟨rfl, d⟩⟩)
theorem sim_loop {q y z : SS} {o : Int32} {l nC b : Nat} (hT : RT q) (A : AQ q y z) (ho : z.1 60 21 = o) (hl1 : 1 ≤ l) {l32 : Int32} (e32 : l32.toInt = (l : Int))
    (HJ : ∀ v : Nat, l ≤ v → v ≤ 5 → ∀ (v32 : Int32) (y z : SS), v32.toInt = (v : Int) + 1 → AQ q y z → z.1 60 21 = o → T2 ((g_X5_readJoined nC).1 y v32 o) (MF (g_X12_operand (b + 5 - v)) (v + 1) z) (fun r s => (RQ q y z r s ∧ PX q r) ∧ SG o 0 1 z s)) :
    ∀ (d : Nat) (y1 s : SS) (l3 l5 : Int32) (hi kc km : Nat), XL q y1 → SG o 0 1 z s → s.1 60 20 = -1 → PM y z y1 s → l3.toInt = (hi : Int) → l ≤ hi + 1 → hi ≤ 5 → (q.1 60 18).toInt - (s.1 60 19).toInt ≤ d → d ≤ kc → d ≤ km → d ≤ 999999 → 0 ≤ l5.toInt → l5.toInt ≤ (s.1 60 19).toInt → T2 (fx6 (FJ (g_X5_readJoined nC)) (kc + 1) y1 l32 o l3 1 l5) (ch b l hi (km + 1) s) (RQ q y z) := by
  obtain ⟨b1, b2, b3, b4, b5, b6, b7⟩ := AQ_b A
  have eN : EN z := A.2.2.2.1
  have o0 : 0 ≤ o.toInt ∧ o.toInt ≤ 6 := by
    have := eN.2.2.2.2.2.2
    rw [ho] at this
    exact this
  intro d
  induction d with
  | zero =>
    intro y1 s l3 l5 hi kc km hX hS hn hP hl3 hlh h5 hd _ _ _ h50 h5s
    obtain ⟨e73, e18⟩ := SG_ZX hS A.2.1 A.2.2.1
    have hr0 : 0 ≤ (s.1 60 19).toInt := by have := hS.2.1.1; omega
    have ep : (y1.1 17 3).toInt = (s.1 60 19).toInt := congrArg Int32.toInt hP.1
    have nx := x_nextE hT hX.1 (by omega)
    have mx := m_lookE b3 e73 e18 hr0
    rw [ep] at nx
    have cN : CH q (s.1 60 19).toInt = -1 := by unfold CH; rw [if_neg (by omega)]
    have mN : MH q (s.1 60 19).toInt = -1 := by unfold MH; rw [if_neg (by omega)]
    rw [cN] at nx
    rw [mN] at mx
    rw [J_stop nx (Or.inl (by show (0 : Int) < _; omega)), ch_no mx hi km h5 (fun L h1 h2 => by show (0 : Int) ≠ _; omega)]
    exact T2_s (Or.inl ⟨hn, rfl, hP⟩)
  | succ d ih =>
    intro y1 s l3 l5 hi kc km hX hS hn hP hl3 hlh h5 hd hkc hkm h9 h50 h5s
    obtain ⟨e73, e18⟩ := SG_ZX hS A.2.1 A.2.2.1
    have hr0 : 0 ≤ (s.1 60 19).toInt := by have := hS.2.1.1; omega
    have ep : (y1.1 17 3).toInt = (s.1 60 19).toInt := congrArg Int32.toInt hP.1
    have nx := x_nextE hT hX.1 (by omega)
    have mx := m_lookE b3 e73 e18 hr0
    rw [ep] at nx
    have cm := CM_q hT hr0
    have lv := CM_lvc cm
    by_cases s1 : (lvc (CH q (s.1 60 19).toInt)).toInt < l32.toInt ∨ l3.toInt < (lvc (CH q (s.1 60 19).toInt)).toInt
    · rw [J_stop nx s1, ch_no mx hi km h5 (fun L h1 h2 => by rw [← lv]; omega)]
      exact T2_s (Or.inl ⟨hn, rfl, hP⟩)
    have lt : (s.1 60 19).toInt < (q.1 60 18).toInt := by
      by_cases c : (s.1 60 19).toInt < (q.1 60 18).toInt
      · exact c
      · exfalso
        apply s1
        left
        have cN : CH q (s.1 60 19).toInt = -1 := by unfold CH; rw [if_neg c]
        rw [cN]
        show (0 : Int) < _
        omega
    have mc := CM_op cm (by omega)
    rw [mc] at mx
    generalize hcc : CH q (s.1 60 19).toInt = c at nx cm lv s1 mc mx
    obtain ⟨v, hv⟩ : ∃ v : Nat, (lvc c).toInt = (v : Int) := ⟨(lvc c).toInt.toNat, by omega⟩
    have op := op8 (c := c) (by omega)
    obtain ⟨k', hk1, hk2⟩ := ch_op (b := b) mx hn hv (by omega) (by omega : l ≤ v) hi km (d + 1) (by omega) h5 hkm h9
    rw [J_op nx (by omega) ⟨by omega, by omega⟩, hk2]
    have t3 := SG_tp hS
    have i19 := inc1 (a := s.1 60 19) (by omega) (by omega)
    have hS1 := SG_hr eN hS hn (by rw [e18]; exact lt)
    have e1 : EN (sI s 60 19 (s.1 60 19 + 1)) := SG_EN eN hS1 hn (by decide) o0
    have n3 := SG_nw hS hn
    have b1' : (s.1 60 22).toInt + 0 ≤ (z.1 60 22).toInt + ((s.1 60 19).toInt - (z.1 60 19).toInt) := n3.2.1
    have A1 : AQ q (sI y1 17 3 (y1.1 17 3 + 1)) (sI s 60 19 (s.1 60 19 + 1)) := ⟨XL_s hX, e73, e18, e1, congrArg (· + 1) hP.1, by
      show (y1.1 19 4).toInt ≤ (s.1 60 19 + 1).toInt
      have := hP.2.1
      omega⟩
    have iv := inc1 (a := lvc c) (by omega) (by omega)
    refine T2_bb (HJ v (by omega) (by omega) (lvc c + 1) _ _ (by omega) A1 n3.1) (fun r5 s5 hR => ?_)
    obtain ⟨⟨hR, hX5, _⟩, hS5⟩ := hR
    have hS6 := SG_tr eN hS1 hn hS5
    have e73' := SG_ZX hS6 A.2.1 A.2.2.1
    have aT := SG_add (c := 0) (e' := 1) (a := c) (w := 0) eN (SG_le hS6 (by decide)) (by decide) (fun _ => by rw [op.1]; exact op.2 0)
    have h5b := hS5.2.1
    have h5b' : (s.1 60 19 + 1).toInt ≤ (s5.1 60 19).toInt ∧ (s5.1 60 19).toInt ≤ (s.1 60 18).toInt := h5b
    have t3' : (s.1 60 18).toInt = (q.1 60 18).toInt := congrArg Int32.toInt e18
    rcases hR with ⟨n5, f5, P5⟩ | ⟨w5, p5, f5⟩
    · have n6 := SG_nw hS5 n5
      have b6' : (s5.1 60 22).toInt + 0 ≤ (s.1 60 22).toInt + ((s5.1 60 19).toInt - (s.1 60 19 + 1).toInt) := n6.2.1
      have PP := PM_tr b6 b4 (PM_pos hP) hS5.2.2.2.1 P5
      have l5' : (r5.2.1 19 4).toInt - (y.1 19 4).toInt = (s5.1 60 22).toInt - (z.1 60 22).toInt := PP.2.1
      have aE := m_addE (z := s5) c 0 (by have := PP.2.2.1; omega) (by omega)
      have a6 := T_un aT aE
      have i5 := inc1 (a := l5) (by omega) (by omega)
      refine T2_le (x_addE c 0 (by have := PP.2.2.1; omega) (by omega)) (T2_re aE ?_)
      rw [f5]
      have P7 := PM_add (a := c) (w := 0) (a' := c) (w' := 0) b6 (by omega) b4 (by omega) (by omega) PP (al_op (by omega))
      have X7 : XL q (xAd r5.2 c 0) := T_un (x_addStep hX5 c 0) (x_addE c 0 (by have := PP.2.2.1; omega) (by omega))
      have hr7 : (mAd s5 c 0).1 60 19 = s5.1 60 19 := rfl
      obtain ⟨kc', rfl⟩ : ∃ x, kc = x + 1 := ⟨kc - 1, by omega⟩
      obtain ⟨k'', rfl⟩ : ∃ x, k' = x + 1 := ⟨k' - 1, by omega⟩
      refine ih _ _ _ _ _ _ _ X7 a6.1 (a6.2.2.1.trans n5) P7 ?_ ?_ ?_ (by rw [hr7]; omega) (by omega) (by omega) (by omega) (by omega) (by rw [hr7]; omega)
      · by_cases e3 : lvc c = 3
        · have : v = 3 := by rw [e3] at hv; have : (3 : Int32).toInt = 3 := rfl; omega
          rw [if_pos e3, if_pos this]
          rfl
        · have : v ≠ 3 := fun e => e3 (Int32.toInt_inj.mp (by rw [hv, e]; rfl))
          rw [if_neg e3, if_neg this]
          exact hv
      · split <;> omega
      · split <;> omega
    · refine T2_l (x_addT hX5 c 0) (fun y6 h6 => T2_r aT (fun s6 g6 => ?_))
      have z6 := SG_ZX g6.1 A.2.1 A.2.2.1
      have w6 : s6.1 60 20 = s5.1 60 20 := g6.2.2.1
      obtain ⟨kc', rfl⟩ : ∃ x, kc = x + 1 := ⟨kc - 1, by omega⟩
      obtain ⟨k'', rfl⟩ : ∃ x, k' = x + 1 := ⟨k' - 1, by omega⟩
      exact sim_w hT h6.1 b3 z6.1 z6.2 (by rw [g6.2.1]; omega) (by omega) (by rw [w6]; exact w5) (by rw [h6.2, p5, w6]) (by rw [w6]; exact f5)
/-! ===== operands, and all that calls itself ===== -/
theorem MF_T {L n : Nat} (h1 : 1 ≤ L) (h6 : L ≤ 6) {z : SS} {o : Int32} (e : EN z) (ho : z.1 60 21 = o) (hb : 10 * (6 - o.toInt) + (7 - (L : Int)) ≤ (n : Int)) : T (MF (g_X12_operand n) L z) (SG o 0 1 z) := by
  have m := MJ_all n
  have c : L = 1 ∨ L = 2 ∨ L = 3 ∨ L = 4 ∨ L = 5 ∨ L = 6 := by omega
  rw [← ho]
  rw [← ho] at hb
  rcases c with rfl | rfl | rfl | rfl | rfl | rfl
  · exact m.2.2.2.2.2 z e (by omega)
  · exact m.2.2.2.2.1 z e (by omega)
  · exact m.2.2.2.1 z e (by omega)
  · exact m.2.2.1 z e (by omega)
  · exact m.2.1 z e (by omega)
  · exact m.1 z e (by omega)
def OS (q : SS) (o : Int32) : Prop := ∀ (n b : Nat) (y z : SS), AQ q y z → z.1 60 21 = o → 10 * (6 - o.toInt) + 1 ≤ (n : Int) → 10 * (6 - o.toInt) + 1 ≤ (b : Int) → T2 ((g_X5_readJoined n).2.1 y o) ((g_X12_operand b).1 z) (RQ q y z)
theorem sim_J {q : SS} {o : Int32} (hT : RT q) (o0 : 0 ≤ o.toInt ∧ o.toInt ≤ 6) (HO : OS q o) : ∀ (j : Nat), j ≤ 5 → ∀ (n b : Nat) (l32 : Int32) (y z : SS), l32.toInt = 6 - (j : Int) → AQ q y z → z.1 60 21 = o → 10 * (6 - o.toInt) + 2 + (j : Int) ≤ (n : Int) → 10 * (6 - o.toInt) + 1 ≤ (b : Int) → T2 ((g_X5_readJoined n).1 y l32 o) (MF (g_X12_operand (b + j)) (6 - j) z) (RQ q y z) := by
  intro j
  induction j using Nat.strongRecOn with
  | ind j ih =>
    intro hj n b l32 y z e32 A ho hn hb
    obtain ⟨n', rfl⟩ : ∃ x, n = x + 1 := ⟨n - 1, by omega⟩
    obtain ⟨b1, b2, b3, b4, b5, b6, b7⟩ := AQ_b A
    show T2 (fb_X5_readJoined (g_X5_readJoined n') y l32 o) _ _
    unfold fb_X5_readJoined
    rw [MF_ch b z j hj, FJ_e, fu_s]
    have hO := HO n' b y z A ho (by omega) hb
    have hOX := (LJ_all n' q y A.1).2.1 o o0 (by omega)
    have hOS : T ((g_X12_operand b).1 z) (SG o 0 1 z) := MF_T (L := 6) (by omega) (by omega) A.2.2.2.1 ho (by omega)
    refine T2_bb (T2_ar (T2_al hO hOX) hOS) (fun r1 s hR => ?_)
    obtain ⟨⟨hR, hX, _⟩, hS⟩ := hR
    have hs := hS.2.1
    have tz : (z.1 60 18).toInt = (q.1 60 18).toInt := congrArg Int32.toInt A.2.2.1
    rcases hR with ⟨n5, f5, P5⟩ | ⟨w5, p5, f5⟩
    · rw [f5]
      refine sim_loop (l := 6 - j) hT A ho (by omega) (by omega) ?_ 120 r1.2 s 5 0 5 999999 999999 hX hS n5 P5 rfl (by omega) (by omega) (by omega) (by omega) (by omega) (by omega) (by decide) (by show (0 : Int) ≤ _; omega)
      intro v h1 h2 v32 y2 z2 ev A2 ho2
      have i1 := ih (5 - v) (by omega) (by omega) n' b v32 y2 z2 (by omega) A2 ho2 (by omega) hb
      rw [show b + (5 - v) = b + 5 - v by omega, show 6 - (5 - v) = v + 1 by omega] at i1
      exact T2_ar (T2_al i1 ((LJ_all n' q y2 A2.1).1 v32 o ⟨by omega, by omega⟩ o0 (by omega))) (MF_T (by omega) (by omega) A2.2.2.2.1 ho2 (by omega))
    · have z6 := SG_ZX hS A.2.1 A.2.2.1
      exact sim_w hT hX b3 z6.1 z6.2 (by omega) (by omega) w5 p5 f5
theorem m_opE0 {z : SS} (h : z.1 60 21 = 6) (n : z.1 60 20 = -1) : f_X12_opens z = some (0, sI z 60 20 (z.1 60 19)) := by
  unfold f_X12_opens
  rw [if_pos h, m_wrE n]
  rfl
theorem m_opE1 {z : SS} (h : z.1 60 21 ≠ 6) : f_X12_opens z = some (1, sI (sI z 60 21 (z.1 60 21 + 1)) 60 19 (z.1 60 19 + 1)) := by
  unfold f_X12_opens
  rw [if_neg h]
  rfl
theorem nm_dig {c : Int32} (h : dig c) : nmc c = -1 := by
  unfold nmc
  rw [if_neg (fun e => by rw [e] at h; exact absurd h (by decide)), if_neg (fun e => by rw [e] at h; exact absurd h (by decide)), if_neg (fun e => by rw [e] at h; exact absurd h (by decide)), if_neg (fun e => by rw [e] at h; exact absurd h (by decide)), if_neg (fun e => by rw [e] at h; exact absurd h (by decide)), if_neg (fun e => by rw [e] at h; exact absurd h (by decide))]
theorem T2_wrap {q y z : SS} {o1 : Option (Int32 × SS)} {o2 : Option SS} (h : T2 o1 o2 (RQ q y z)) : T2 (o1.bind fun r => if r.1 = 0 ∨ r.1 = 1 then some (r.1, r.2) else none) o2 (RQ q y z) := by
  obtain ⟨a, b, h1, h2, hr⟩ := h
  refine ⟨a, b, ?_, h2, hr⟩
  rw [h1, bind_s, if_pos]
  rcases hr with ⟨_, f, _⟩ | ⟨_, _, f | ⟨f, _⟩⟩
  · exact Or.inr f
  · exact Or.inl f
  · exact Or.inr f
theorem sim_t23 {q y z : SS} {o : Int32} (A : AQ q y z) {rr : GT_X5_readJoined} {rm : GT_X12_operand} {r1 : Int32 × SS} {r4 : SS} {x a a' : Int32} (hR : RQ q y z r1 r4 ∧ XL q r1.2) (hS : SG o 1 1 z (sI r4 60 21 x)) (hal : al a 0 (a'.toInt8.toInt32) 0) (hst : stepd (a'.toInt8.toInt32) 0 1 = some 1) : T2 (b_X5_readTurned_23 rr r1.2 r1.1 a) (b_X12_operand_80 rm (sI r4 60 21 x) a') (RQ q y z) := by
  obtain ⟨b1, b2, b3, b4, b5, b6, b7⟩ := AQ_b A
  obtain ⟨hR, hX⟩ := hR
  have aT := SG_add (c := 0) (e' := 1) (a := a') (w := 0) A.2.2.2.1 hS (by decide) (fun _ => hst)
  unfold b_X5_readTurned_23 b_X12_operand_80
  have hb := hS.2.1
  have tz : (z.1 60 18).toInt = (q.1 60 18).toInt := congrArg Int32.toInt A.2.2.1
  rcases hR with ⟨n5, f5, P5⟩ | ⟨w5, p5, f5⟩
  · have n6 : (r4.1 60 22).toInt + 1 ≤ (z.1 60 22).toInt + ((r4.1 60 19).toInt - (z.1 60 19).toInt) := (SG_nw hS n5).2.1
    have hb' : (z.1 60 19).toInt ≤ (r4.1 60 19).toInt ∧ (r4.1 60 19).toInt ≤ (z.1 60 18).toInt := hb
    have p2 := P5.2.1
    have p3 := P5.2.2.1
    have aE := m_addE (z := sI r4 60 21 x) a' 0 (by show 0 ≤ (r4.1 60 22).toInt; omega) (by show (r4.1 60 22).toInt < 130; omega)
    have P6 : PM y z r1.2 (sI r4 60 21 x) := P5
    rw [f5]
    refine T2_le (x_addE a 0 (by omega) (by omega)) (T2_re aE (T2_pl (Or.inr rfl) (T2_s (Or.inl ⟨n5, rfl, PM_add b6 (by omega) b4 (by omega) (by show (r4.1 60 22).toInt < 130; omega) P6 hal⟩))))
  · refine T2_l (x_addT hX a 0) (fun y6 h6 => T2_r aT (fun s6 g6 => T2_pl ?_ (T2_s (Or.inr ⟨?_, ?_, ?_⟩))))
    · rcases f5 with f | ⟨f, _⟩
      · exact Or.inl f
      · exact Or.inr f
    · rw [g6.2.2.1]; exact w5
    · rw [g6.2.2.1]; exact h6.2.trans p5
    · rw [g6.2.2.1]; exact f5
/-! ===== an operand on either side ===== -/
theorem sim_O1 {q y z : SS} {o : Int32} {n b : Nat} (hT : RT q) (A : AQ q y z) (ho : z.1 60 21 = o) (H : o.toInt = 6 ∨ (o.toInt < 6 ∧ OS q (o + 1) ∧ 10 * (6 - o.toInt) ≤ (n : Int) ∧ 10 * (6 - o.toInt) ≤ (b : Int))) : T2 (fb_X5_readOperand (g_X5_readJoined n) y o) (fb_X12_operand (g_X12_operand b) z) (RQ q y z) := by
  obtain ⟨b1, b2, b3, b4, b5, b6, b7⟩ := AQ_b A
  have eN : EN z := A.2.2.2.1
  have hn : z.1 60 20 = -1 := eN.2.2.2.2.2.1
  have o0 : 0 ≤ o.toInt ∧ o.toInt ≤ 6 := by
    have := eN.2.2.2.2.2.2
    rw [ho] at this
    exact this
  have l6 : (6 : Int32).toInt = 6 := rfl
  have e73 := A.2.1
  have e18 := A.2.2.1
  have ep : (y.1 17 3).toInt = (z.1 60 19).toInt := congrArg Int32.toInt A.2.2.2.2.1
  have nx := x_nextE hT A.1.1 (by omega)
  rw [ep] at nx
  have mx := m_lookE b3 e73 e18 b1
  have cm := CM_q hT b1
  have lt0 : CH q (z.1 60 19).toInt ≠ -1 → (z.1 60 19).toInt < (q.1 60 18).toInt := fun h => by
    by_cases c : (z.1 60 19).toInt < (q.1 60 18).toInt
    · exact c
    · exact absurd (by unfold CH; rw [if_neg c]) h
  have sg0 : SG o 0 0 z z := by
    have := SG_refl eN
    rw [ho] at this
    exact this
  unfold fb_X5_readOperand fb_X12_operand
  refine T2_le nx (T2_le (x_nameE y _) (T2_le (x_digE y _) (T2_re mx (T2_re (m_nameE z _) ?_))))
  rw [← CM_nmc cm]
  by_cases d : dig (CH q (z.1 60 19).toInt)
  · have mc := CM_same cm d
    rw [dgc_1 d, nm_dig d, mc]
    refine T2_ql (by decide) (T2_pr (by decide) (T2_qr (fun e => by rw [e] at d; exact absurd d (by decide)) (T2_qr (fun e => by rw [e] at d; exact absurd d (by decide)) (T2_qr (fun e => by rw [e] at d; exact absurd d (by decide)) ?_))))
    exact T2_bb (sim_num hT A d) (fun y' s h => T2_s h)
  rw [dgc_0 d]
  refine T2_pl rfl ?_
  have dm : ¬ dig (MH q (z.1 60 19).toInt) := fun h => d ((CM_dig cm).mpr h)
  by_cases nl : nmc (CH q (z.1 60 19).toInt) < 0
  · refine T2_pl nl (T2_pr nl ?_)
    have k33 := CM_eq cm (k := 33) (by decide) (by decide)
    have k45 := CM_eq cm (k := 45) (by decide) (by decide)
    have k40 := CM_eq cm (k := 40) (by decide) (by decide)
    have other : T2 (some ((0 : Int32), y)) ((f_X12_figure z).bind fun r18 => some r18) (RQ q y z) := T2_re (fig_no b3 e73 e18 b1 hn b4 (by omega) dm) (T2_s (Or.inr ⟨b1, A.2.2.2.2.1, Or.inl rfl⟩))
    rcases H with o6 | ⟨o5, IH, hn1, hb1⟩
    · have z6 : z.1 60 21 = 6 := Int32.toInt_inj.mp (by rw [ho, o6]; rfl)
      have op := m_opE0 z6 hn
      refine T2_pl (Int32.le_iff_toInt_le.mpr (by omega)) ?_
      have w46 : ∀ l1, T2 (some ((0 : Int32), y)) (b_X12_operand_46 (g_X12_operand b) z l1) (RQ q y z) := fun l1 => by
        unfold b_X12_operand_46
        exact T2_re op (T2_pr rfl (T2_s (Or.inr ⟨b1, A.2.2.2.2.1, Or.inl rfl⟩)))
      by_cases c33 : MH q (z.1 60 19).toInt = 33
      · exact T2_pr c33 (w46 _)
      by_cases c45 : MH q (z.1 60 19).toInt = 45
      · exact T2_qr c33 (T2_pr c45 (w46 _))
      by_cases c40 : MH q (z.1 60 19).toInt = 40
      · exact T2_qr c33 (T2_qr c45 (T2_pr c40 (T2_re op (T2_pr rfl (T2_s (Or.inr ⟨b1, A.2.2.2.2.1, Or.inl rfl⟩))))))
      · exact T2_qr c33 (T2_qr c45 (T2_qr c40 other))
    · have op := m_opE1 (z := z) (fun e => by rw [ho] at e; rw [e] at o5; exact absurd o5 (by decide))
      have i1 := inc1 (a := o) (by omega) (by omega)
      refine T2_ql (fun e => by have := Int32.le_iff_toInt_le.mp e; omega) ?_
      have hA : CH q (z.1 60 19).toInt ≠ -1 → AQ q (sI y 17 3 (y.1 17 3 + 1)) (sI (sI z 60 21 (z.1 60 21 + 1)) 60 19 (z.1 60 19 + 1)) ∧ SG (o + 1) 1 0 z (sI (sI z 60 21 (z.1 60 21 + 1)) 60 19 (z.1 60 19 + 1)) := fun hc => by
        have lt := lt0 hc
        have g := SG_hr eN (SG_op (o' := o + 1) (x := z.1 60 21 + 1) sg0 (fun _ => by rw [ho])) hn (by show (z.1 60 19).toInt < (z.1 60 18).toInt; rw [e18]; exact lt)
        have i19 := inc1 (a := z.1 60 19) (by omega) (by omega)
        have e3 := SG_EN eN g hn (by decide) (by omega)
        exact ⟨⟨XL_s A.1, e73, e18, e3, congrArg (· + 1) A.2.2.2.2.1, by show (y.1 19 4).toInt ≤ (z.1 60 19 + 1).toInt; omega⟩, g⟩
      have pm0 : PM y z (sI y 17 3 (y.1 17 3 + 1)) (sI (sI z 60 21 (z.1 60 21 + 1)) 60 19 (z.1 60 19 + 1)) := PM_pos (PM_refl A.2.2.2.2.1)
      have o3 : (sI (sI z 60 21 (z.1 60 21 + 1)) 60 19 (z.1 60 19 + 1)).1 60 21 = o + 1 := by
        show z.1 60 21 + 1 = o + 1
        rw [ho]
      have can : o + 1 - 1 = o := Int32.add_sub_cancel o 1
      -- a piece behind the sign, told from the operand's own start
      have lift : ∀ (r1 : Int32 × SS) (r4 : SS), CH q (z.1 60 19).toInt ≠ -1 → RQ q (sI y 17 3 (y.1 17 3 + 1)) (sI (sI z 60 21 (z.1 60 21 + 1)) 60 19 (z.1 60 19 + 1)) r1 r4 → SG (o + 1) 0 1 (sI (sI z 60 21 (z.1 60 21 + 1)) 60 19 (z.1 60 19 + 1)) r4 → RQ q y z r1 r4 ∧ SG (o + 1) 1 1 z r4 := fun r1 r4 hc hR hS => by
        have g := (hA hc).2
        refine ⟨?_, SG_le (SG_tr eN g hn hS) (by decide)⟩
        rcases hR with ⟨a1, a2, a3⟩ | h
        · exact Or.inl ⟨a1, a2, PM_tr b6 b4 pm0 hS.2.2.2.1 a3⟩
        · exact Or.inr h
      obtain ⟨n1, rfl⟩ : ∃ x, n = x + 1 := ⟨n - 1, by omega⟩
      have turned : ∀ (a a' : Int32) (c : Int32), CH q (z.1 60 19).toInt ≠ -1 → (c = 33 ∨ c = 45) → (a = if c = 33 then 33 else 126) → (a' = if c = 33 then 3 else 4) → al a 0 (a'.toInt8.toInt32) 0 → stepd (a'.toInt8.toInt32) 0 1 = some 1 → T2 (b_X5_readOperand_75 (g_X5_readJoined (n1 + 1)) y o c) (b_X12_operand_46 (g_X12_operand b) z c) (RQ q y z) := fun a a' c hc c2 ea ea' h1 h2 => by
        unfold b_X5_readOperand_75 b_X12_operand_46
        refine T2_nl (T2_ql (fun e => by rcases c2 with h | h <;> (rw [h] at e; exact absurd e (by decide))) (T2_re op (T2_qr (show ¬ (1 : Int32) = 0 by decide) (T2_wrap ?_))))
        show T2 (fb_X5_readTurned (g_X5_readJoined n1) (sI y 17 3 (y.1 17 3 + 1)) c (o + 1)) ((((g_X12_operand b).1 (sI (sI z 60 21 (z.1 60 21 + 1)) 60 19 (z.1 60 19 + 1)))).bind _) _
        unfold fb_X5_readTurned
        have A3 := (hA hc).1
        have t1 := IH n1 b _ _ A3 o3 (by omega) (by omega)
        refine T2_bb (T2_ar (T2_al t1 ((LJ_all n1 q _ A3.1).2.1 (o + 1) (by omega) (by omega))) (MF_T (L := 6) (by omega) (by omega) A3.2.2.2.1 o3 (by omega))) (fun r1 r4 hR => ?_)
        obtain ⟨⟨hR, hX, _⟩, hS⟩ := hR
        obtain ⟨hR', hS'⟩ := lift r1 r4 hc hR hS
        have hS5 : SG o 1 1 z (sI r4 60 21 (r4.1 60 21 - 1)) := SG_op hS' (fun n4 => by rw [(SG_nw hS' n4).1, can])
        have fin := sim_t23 (rr := g_X5_readJoined n1) (rm := g_X12_operand b) A ⟨hR', hX⟩ hS5 h1 h2
        refine T2_nr ?_
        rcases c2 with h | h
        · subst h
          rw [if_pos rfl] at ea ea'
          subst ea ea'
          exact T2_pl rfl (T2_pr rfl fin)
        · subst h
          rw [if_neg (by decide)] at ea ea'
          subst ea ea'
          exact T2_ql (by decide) (T2_qr (by decide) fin)
      by_cases c33 : CH q (z.1 60 19).toInt = 33
      · have m33 := k33.mp c33
        refine T2_pl c33 (T2_pr m33 ?_)
        rw [c33, m33]
        exact turned 33 3 33 (by rw [c33]; decide) (Or.inl rfl) rfl rfl ⟨rfl, Or.inr (Or.inr (Or.inl ⟨rfl, by decide⟩))⟩ rfl
      by_cases c45 : CH q (z.1 60 19).toInt = 45
      · have m45 := k45.mp c45
        refine T2_ql c33 (T2_pl c45 (T2_qr (fun e => c33 (k33.mpr e)) (T2_pr m45 ?_)))
        rw [c45, m45]
        exact turned 126 4 45 (by rw [c45]; decide) (Or.inr rfl) rfl rfl ⟨rfl, Or.inr (Or.inr (Or.inr (Or.inl ⟨rfl, by decide⟩)))⟩ rfl
      by_cases c40 : CH q (z.1 60 19).toInt = 40
      · have m40 := k40.mp c40
        have hc : CH q (z.1 60 19).toInt ≠ -1 := by rw [c40]; decide
        refine T2_ql c33 (T2_ql c45 (T2_pl c40 (T2_qr (fun e => c33 (k33.mpr e)) (T2_qr (fun e => c45 (k45.mpr e)) (T2_pr m40 ?_)))))
        rw [c40]
        unfold b_X5_readOperand_75
        refine T2_nl (T2_pl rfl (T2_re op (T2_qr (show ¬ (1 : Int32) = 0 by decide) (T2_wrap ?_))))
        show T2 (fb_X5_readEnclosed (g_X5_readJoined n1) (sI y 17 3 (y.1 17 3 + 1)) (o + 1)) ((((g_X12_operand b).2.2.2.2.2 (sI (sI z 60 21 (z.1 60 21 + 1)) 60 19 (z.1 60 19 + 1)))).bind _) _
        unfold fb_X5_readEnclosed
        have A3 := (hA hc).1
        obtain ⟨bb, rfl⟩ : ∃ x, b = x + 5 := ⟨b - 5, by omega⟩
        have t1 := sim_J hT (by omega) IH 5 (by omega) n1 bb 1 _ _ (by decide) A3 o3 (by omega) (by omega)
        refine T2_bb (T2_ar (T2_al t1 ((LJ_all n1 q _ A3.1).1 1 (o + 1) (by decide) (by omega) (by show 10 * (6 - (o + 1).toInt) + 8 - 1 ≤ _; omega))) (MF_T (L := 1) (by omega) (by omega) A3.2.2.2.1 o3 (by omega))) (fun r1 r4 hR => ?_)
        obtain ⟨⟨hR, hX, _⟩, hS⟩ := hR
        obtain ⟨hR', hS'⟩ := lift r1 r4 hc hR hS
        have zx := SG_ZX hS' e73 e18
        have hb4 := hS'.2.1
        rcases hR' with ⟨n5, f5, P5⟩ | ⟨w5, p5, f5⟩
        · have ep4 : (r1.2.1 17 3).toInt = (r4.1 60 19).toInt := congrArg Int32.toInt P5.1
          have nx4 := x_nextE hT hX.1 (by omega)
          rw [ep4] at nx4
          have mx4 := m_lookE b3 zx.1 zx.2 (by omega : 0 ≤ (r4.1 60 19).toInt)
          have cm4 := CM_q hT (by omega : 0 ≤ (r4.1 60 19).toInt)
          have k41 := CM_eq cm4 (k := 41) (by decide) (by decide)
          refine T2_ql (by rw [f5]; decide) (T2_le nx4 (T2_pr (by rw [n5]; decide) (T2_re mx4 ?_)))
          by_cases c41 : CH q (r4.1 60 19).toInt = 41
          · exact T2_pl c41 (T2_pr (k41.mp c41) (T2_nl (T2_nr (T2_nr (T2_s (Or.inl ⟨n5, rfl, PM_pos P5⟩))))))
          · refine T2_ql c41 (T2_qr (fun e => c41 (k41.mpr e)) (T2_re (m_wrE n5) (T2_s (Or.inr ⟨?_, P5.1, Or.inl rfl⟩))))
            show 0 ≤ (r4.1 60 19).toInt
            omega
        · have w : ¬ r4.1 60 20 < 0 := fun e => by
            have := Int32.lt_iff_toInt_lt.mp e
            have l0 : (0 : Int32).toInt = 0 := rfl
            omega
          rcases f5 with f | ⟨f, dd⟩
          · exact T2_pl f (T2_qr w (T2_s (Or.inr ⟨w5, p5, Or.inl rfl⟩)))
          · have ep4 : (r1.2.1 17 3).toInt = (r4.1 60 20).toInt := congrArg Int32.toInt p5
            have nx4 := x_nextE hT hX.1 (by omega)
            rw [ep4] at nx4
            exact T2_ql (by rw [f]; decide) (T2_le nx4 (T2_ql (fun e => by rw [e] at dd; exact absurd dd (by decide)) (T2_qr w (T2_s (Or.inr ⟨w5, p5, Or.inl rfl⟩)))))
      · refine T2_ql c33 (T2_ql c45 (T2_ql c40 (T2_qr (fun e => c33 (k33.mpr e)) (T2_qr (fun e => c45 (k45.mpr e)) (T2_qr (fun e => c40 (k40.mpr e)) other)))))
  · have pos : 0 ≤ (nmc (CH q (z.1 60 19).toInt)).toInt := by
      have := Int32.le_iff_toInt_le.mp (Int32.not_lt.mp nl)
      exact this
    refine T2_ql nl (T2_qr nl (T2_nl ?_))
    have al1 : al 110 (nmc (CH q (z.1 60 19).toInt)) ((2 : Int32).toInt8.toInt32) (nmc (MH q (z.1 60 19).toInt)) := ⟨(CM_nmc cm).symm, Or.inl ⟨rfl, by decide⟩⟩
    have P := PM_pos (PM_add b6 (by omega) b4 (by omega) (by omega) (PM_refl A.2.2.2.2.1) al1)
    exact T2_le (x_addE (y := sI y 17 3 (y.1 17 3 + 1)) 110 _ b6 (by show (y.1 19 4).toInt < 121; omega)) (T2_re (m_nameE z _) (T2_re (m_addE 2 _ b4 (by omega)) (T2_nr (T2_s (Or.inl ⟨hn, rfl, P⟩)))))
theorem sim_O {q : SS} (hT : RT q) : ∀ (k : Nat), k ≤ 6 → ∀ o : Int32, o.toInt = 6 - (k : Int) → OS q o := by
  intro k
  induction k with
  | zero =>
    intro _ o eo n b y z A ho hn hb
    obtain ⟨n', rfl⟩ : ∃ x, n = x + 1 := ⟨n - 1, by omega⟩
    obtain ⟨b', rfl⟩ : ∃ x, b = x + 1 := ⟨b - 1, by omega⟩
    exact sim_O1 hT A ho (Or.inl (by omega))
  | succ k ih =>
    intro hk o eo n b y z A ho hn hb
    obtain ⟨n', rfl⟩ : ∃ x, n = x + 1 := ⟨n - 1, by omega⟩
    obtain ⟨b', rfl⟩ : ∃ x, b = x + 1 := ⟨b - 1, by omega⟩
    have i := inc1 (a := o) (by omega) (by omega)
    have IH := ih (by omega) (o + 1) (by omega)
    exact sim_O1 hT A ho (Or.inr ⟨by omega, IH, by omega, by omega⟩)
/-! ===== a line on either side ===== -/
def RLn (q : SS) (r : Int32 × SS) (s : SS) : Prop := (s.1 60 20 = -1 ∧ r.1 = 1 ∧ r.2.1 17 3 = s.1 60 19 ∧ (r.2.1 19 4).toInt ≤ (s.1 60 19).toInt + 1 ∧ s.1 60 21 = 0) ∨ (0 ≤ (s.1 60 20).toInt ∧ r.2.1 17 3 = s.1 60 20 ∧ (r.1 = 0 ∨ (r.1 = 1 ∧ dig (CH q (s.1 60 20).toInt))))
theorem OS_0 {q : SS} (hT : RT q) : OS q 0 := sim_O hT 6 (Nat.le_refl 6) 0 rfl
theorem sim_either {q y z : SS} (hT : RT q) (A : AQ q y z) (ho : z.1 60 21 = 0) : T2 (f_X5_readJoined y 1 0) (f_X12_either z) (fun r s => (RQ q y z r s ∧ XL q r.2) ∧ SG 0 0 1 z s) := by
  have h := sim_J hT (by decide) (OS_0 hT) 5 (by omega) 900 895 1 y z rfl A ho (by decide) (by decide)
  have g := m_either A.2.2.2.1
  rw [ho] at g
  exact T2_ar (T2_al h (T_mono (x_joined A.1) (fun r hr => hr.1))) g
theorem l47 {q y : SS} {b : Int32} (hX : XL q y) (hb : b = 0 ∨ b = 1) : T (b_X5_readLine_47 y b) (fun r => r.1 = b ∧ XL q r.2 ∧ r.2.1 17 3 = y.1 17 3) := by
  unfold b_X5_readLine_47
  exact T_b (x_addT hX 59 0) (fun r hr => T_p hb (T_some.mpr ⟨rfl, hr.1, hr.2⟩))
theorem l47n {q y : SS} (hX : XL q y) (hl : (y.1 19 4).toInt ≤ 120) : T (b_X5_readLine_47 y 1) (fun r => r.1 = 1 ∧ XL q r.2 ∧ r.2.1 17 3 = y.1 17 3 ∧ (r.2.1 19 4).toInt = (y.1 19 4).toInt + 1) := by
  have e := x_addE (y := y) 59 0 hX.2.1 (by omega)
  have t := T_un (x_addStep hX 59 0) e
  have i := inc1 (a := y.1 19 4) (by have := hX.2.1; omega) (by omega)
  unfold b_X5_readLine_47
  exact T_rw e (T_p (Or.inr rfl) (T_some.mpr ⟨rfl, t, rfl, i⟩))
theorem sim_line {q y z : SS} {m : Nat} (hT : RT q) (A : AQ q y z) (ho : z.1 60 21 = 0) (L : LN z m) (hm : 2 * (m : Int) ≤ (z.1 60 19).toInt) : T2 (f_X5_readLine y) (f_X12_line z) (RLn q) := by
  obtain ⟨b1, b2, b3, b4, b5, b6, b7⟩ := AQ_b A
  have l0 : (0 : Int32).toInt = 0 := rfl
  have l61 : (61 : Int32).toInt = 61 := rfl
  have eN : EN z := A.2.2.2.1
  have L1 := L.1
  have hv : ((61 : Int32) + z.1 76 1).toInt = 61 + (m : Int) := by rw [tadd (by omega) (by omega), l61, L1]
  have ev : ((61 : Int32) + z.1 76 1).toNatClampNeg = 61 + m := by
    show ((61 : Int32) + z.1 76 1).toInt.toNat = _
    omega
  unfold f_X5_readLine f_X12_line
  refine T2_pr (by decide) (T2_nr ?_)
  rw [show (1 : Int32).toNatClampNeg = 1 from rfl]
  refine T2_pr ⟨by omega, by omega⟩ (T2_nr ?_)
  rw [ev]
  generalize hx0 : (z.1 60 22).toInt16.toInt32.toInt16.toInt32 = x0
  have A2 : AQ q y (sI z 77 (61 + m) x0) := A
  refine T2_bb (sim_either hT A2 ho) (fun r1 r3 hR => ?_)
  obtain ⟨⟨hR, hX⟩, hS⟩ := hR
  have eN2 : EN (sI z 77 (61 + m) x0) := eN
  have zx := SG_ZX (q := q) hS A.2.1 A.2.2.1
  have hb3 : (z.1 60 19).toInt ≤ (r3.1 60 19).toInt ∧ (r3.1 60 19).toInt ≤ (z.1 60 18).toInt := hS.2.1
  have tz : (z.1 60 18).toInt = (q.1 60 18).toInt := congrArg Int32.toInt A.2.2.1
  rcases hR with ⟨n5, f5, P5⟩ | ⟨w5, p5, f5⟩
  · have d3 : (r3.1 60 22).toInt + 0 ≤ (z.1 60 22).toInt + ((r3.1 60 19).toInt - (z.1 60 19).toInt) := (SG_nw hS n5).2.1
    have q2 : (r1.2.1 19 4).toInt - (y.1 19 4).toInt = (r3.1 60 22).toInt - (z.1 60 22).toInt := P5.2.1
    have ep3 : (r1.2.1 17 3).toInt = (r3.1 60 19).toInt := congrArg Int32.toInt P5.1
    have nx := x_nextE hT hX.1 (by omega)
    rw [ep3] at nx
    have mx := m_lookE b3 zx.1 zx.2 (by omega : 0 ≤ (r3.1 60 19).toInt)
    have cm := CM_q hT (by omega : 0 ≤ (r3.1 60 19).toInt)
    have k63 := CM_eq cm (k := 63) (by decide) (by decide)
    refine T2_ql (by rw [f5]; decide) (T2_qr (by rw [n5]; decide) (T2_le nx (T2_re mx ?_)))
    by_cases c63 : CH q (r3.1 60 19).toInt = 63
    · refine T2_pl c63 (T2_pr (k63.mp c63) (T2_nl (T2_nr (T2_pr ⟨by omega, by omega⟩ (T2_nr ?_)))))
      have lt : (r3.1 60 19).toInt < (q.1 60 18).toInt := by
        by_cases c : (r3.1 60 19).toInt < (q.1 60 18).toInt
        · exact c
        · unfold CH at c63
          rw [if_neg c] at c63
          exact absurd c63 (by decide)
      have g7 := SG_hr eN2 hS n5 (by rw [zx.2]; exact lt)
      have e7 : EN (sI r3 60 19 (r3.1 60 19 + 1)) := SG_EN eN2 g7 n5 (by decide) (by decide)
      have i3 := inc1 (a := r3.1 60 19) (by omega) (by omega)
      have xe := x_addE (y := sI r1.2 17 3 (r1.2.1 17 3 + 1)) 63 0 hX.2.1 (by show (r1.2.1 19 4).toInt < 121; omega)
      have xx := T_un (x_addStep (XL_s (x := r1.2.1 17 3 + 1) hX) 63 0) xe
      refine T2_le xe ?_
      generalize hx1 : ((sI r3 60 19 (r3.1 60 19 + 1)).1 60 22).toInt16.toInt32.toInt16.toInt32 = x1
      have i4 := inc1 (a := r1.2.1 19 4) (by have := hX.2.1; omega) (by omega)
      have A8 : AQ q (xAd (sI r1.2 17 3 (r1.2.1 17 3 + 1)) 63 0) (sI (sI r3 60 19 (r3.1 60 19 + 1)) 77 (61 + m) x1) := ⟨xx, zx.1, zx.2, e7, congrArg (· + 1) P5.1, by
        show (r1.2.1 19 4 + 1).toInt ≤ (r3.1 60 19 + 1).toInt
        omega⟩
      refine T2_bb (sim_either hT A8 (SG_nw hS n5).1) (fun r6 r9 hR9 => ?_)
      obtain ⟨⟨hR9, hX9⟩, hS9⟩ := hR9
      have hb9 : (r3.1 60 19 + 1).toInt ≤ (r9.1 60 19).toInt ∧ (r9.1 60 19).toInt ≤ (r3.1 60 18).toInt := hS9.2.1
      have t3 : (r3.1 60 18).toInt = (q.1 60 18).toInt := congrArg Int32.toInt zx.2
      have mo := line66 (z := r9) hv (by omega)
      rcases hR9 with ⟨n9, f9, P9⟩ | ⟨w9, p9, f9⟩
      · have d9 : (r9.1 60 22).toInt + 0 ≤ (r3.1 60 22).toInt + ((r9.1 60 19).toInt - (r3.1 60 19 + 1).toInt) := (SG_nw hS9 n9).2.1
        have q9 : (r6.2.1 19 4).toInt - (r1.2.1 19 4 + 1).toInt = (r9.1 60 22).toInt - (r3.1 60 22).toInt := P9.2.1
        rw [f9, mo]
        obtain ⟨a, ha, hp⟩ := l47n hX9 (by omega)
        exact ⟨a, _, ha, rfl, Or.inl ⟨n9, hp.1, hp.2.2.1.trans P9.1, by show (a.2.1 19 4).toInt ≤ (r9.1 60 19).toInt + 1; omega, (SG_nw hS9 n9).1⟩⟩
      · rw [mo]
        obtain ⟨a, ha, hp⟩ := l47 (b := r6.1) hX9 (by rcases f9 with f | ⟨f, _⟩; exact Or.inl f; exact Or.inr f)
        exact ⟨a, _, ha, rfl, Or.inr ⟨w9, hp.2.2.trans p9, by rw [hp.1]; exact f9⟩⟩
    · refine T2_ql c63 (T2_qr (fun e => c63 (k63.mpr e)) ?_)
      rw [f5, line66 (z := r3) hv (by omega)]
      obtain ⟨a, ha, hp⟩ := l47n hX (by omega)
      exact ⟨a, _, ha, rfl, Or.inl ⟨n5, hp.1, hp.2.2.1.trans P5.1, by show (a.2.1 19 4).toInt ≤ (r3.1 60 19).toInt + 1; omega, (SG_nw hS n5).1⟩⟩
  · have mo := line66 (z := r3) hv (by omega)
    have fin : T2 (b_X5_readLine_47 r1.2 r1.1) (b_X12_line_66 r3 ((61 : Int32) + z.1 76 1)) (RLn q) := by
      rw [mo]
      obtain ⟨a, ha, hp⟩ := l47 (b := r1.1) hX (by rcases f5 with f | ⟨f, _⟩; exact Or.inl f; exact Or.inr f)
      exact ⟨a, _, ha, rfl, Or.inr ⟨w5, hp.2.2.trans p5, by rw [hp.1]; exact f5⟩⟩
    have w : (0 : Int32) ≤ r3.1 60 20 := Int32.le_iff_toInt_le.mpr (by rw [l0]; exact w5)
    rcases f5 with f | ⟨f, dd⟩
    · exact T2_pl f (T2_pr w fin)
    · have ep4 : (r1.2.1 17 3).toInt = (r3.1 60 20).toInt := congrArg Int32.toInt p5
      have nx4 := x_nextE hT hX.1 (by omega)
      rw [ep4] at nx4
      exact T2_ql (by rw [f]; decide) (T2_le nx4 (T2_ql (fun e => by rw [e] at dd; exact absurd dd (by decide)) (T2_pr w fin)))
/-! ===== a text on either side, and the law's answer ===== -/
theorem T2_fx32 {A0 A1 A2 B0 B1 α β : Type} {R : α → β → Prop} {F : (A0 → A1 → A2 → Option α) → A0 → A1 → A2 → Option α} {G : (B0 → B1 → Option β) → B0 → B1 → Option β} (I : A0 → A1 → A2 → B0 → B1 → Prop) (μ : B0 → Nat) (h : ∀ rf rg a0 a1 a2 b0 b1, I a0 a1 a2 b0 b1 → (∀ c0 c1 c2 d0 d1, I c0 c1 c2 d0 d1 → μ d0 < μ b0 → T2 (rf c0 c1 c2) (rg d0 d1) R) → T2 (F rf a0 a1 a2) (G rg b0 b1) R) : ∀ n m a0 a1 a2 b0 b1, I a0 a1 a2 b0 b1 → μ b0 < n → μ b0 < m → T2 (fx3 F n a0 a1 a2) (fx2 G m b0 b1) R
  | 0, _, _, _, _, _, _, _, hm, _ => absurd hm (Nat.not_lt_zero _)
  | _ + 1, 0, _, _, _, _, _, _, _, hm => absurd hm (Nat.not_lt_zero _)
  | n + 1, m + 1, a0, a1, a2, b0, b1, hI, h1, h2 => h _ _ a0 a1 a2 b0 b1 hI (fun c0 c1 c2 d0 d1 hb hl => T2_fx32 I μ h n m c0 c1 c2 d0 d1 hb (by omega) (by omega))
theorem m_86w {s : SS} (w : 0 ≤ (s.1 60 20).toInt) : b_X12_readText_86 s 0 = some (s.1 60 20, sI s 60 18 0) := by
  have l0 : (0 : Int32).toInt = 0 := rfl
  unfold b_X12_readText_86
  show (if s.1 60 20 < 0 then _ else some (s.1 60 20, sI s 60 18 0)) = _
  rw [if_neg (fun e => by have := Int32.lt_iff_toInt_lt.mp e; omega)]
theorem m_86n {s : SS} {m : Nat} (e : EN s) (L : LN s m) (hm : 2 * (m : Int) ≤ (s.1 60 19).toInt + 1) : T (b_X12_readText_86 s 0) (fun r => r.1 = -1) := by
  obtain ⟨e1, e2, e3, e4, e5, e6, _, _⟩ := e
  unfold b_X12_readText_86
  exact T_nm (T_p (by show s.1 60 20 < 0; rw [e6]; decide) (T_mono (m_105 (y := sI s 60 18 0) (m := m) L e4 (by show (s.1 60 22).toInt ≤ 121; omega) (by omega)) (fun r hr => hr.1)))
theorem sim_text {q zz : SS} (hT : RT q) (e73 : zz.1 73 = q.1 73) (e18 : zz.1 60 18 = q.1 60 18) : T2 (f_X5_readText q) (f_X12_readText zz 0) (fun r s => r.1 = s.1) := by
  have l0 : (0 : Int32).toInt = 0 := rfl
  have l120 : (120 : Int32).toInt = 120 := rfl
  have z1 : (1 : Int32).toNatClampNeg = 1 := rfl
  have t0 := RT_l0 hT
  have t120 := RT_l120 hT
  have tz : (zz.1 60 18).toInt = (q.1 60 18).toInt := congrArg Int32.toInt e18
  unfold f_X5_readText f_X12_readText f_X4_clear
  refine T2_nl (T2_le rfl (T2_nr (T2_nr (T2_nr (T2_nr (T2_pr (by decide) (T2_nr ?_)))))))
  rw [z1]
  have e0 : EN (sI (sI (sI (sI (sI zz 60 19 0) 60 20 (-1)) 60 21 0) 60 22 0) 76 1 0) := ⟨Int.le_refl 0, by show (0 : Int) ≤ (zz.1 60 18).toInt; omega, by show (zz.1 60 18).toInt ≤ 120; omega, Int.le_refl 0, Int.le_refl 0, rfl, Int.le_refl 0, (by decide : (0 : Int) ≤ 6)⟩
  have L0 : LN (sI (sI (sI (sI (sI zz 60 19 0) 60 20 (-1)) 60 21 0) 60 22 0) 76 1 0) 0 := ⟨rfl, rfl, fun k k1 k2 => absurd k2 (by show ¬ ((k : Int) < 130 + 0); omega), fun l hl => absurd hl (by omega)⟩
  have x0 : XL q (sI (sI q 17 3 0) 19 4 0) := ⟨Fr_sI (Fr_sI (Fr_refl q) rfl) rfl, by show (0 : Int) ≤ 0; omega, by show (0 : Int) ≤ 121; omega⟩
  have A0 : AQ q (sI (sI q 17 3 0) 19 4 0) (sI (sI (sI (sI (sI zz 60 19 0) 60 20 (-1)) 60 21 0) 60 22 0) 76 1 0) := ⟨x0, e73, e18, e0, rfl, Int.le_refl 0⟩
  have o0 : (sI (sI (sI (sI (sI zz 60 19 0) 60 20 (-1)) 60 21 0) 60 22 0) 76 1 0).1 60 21 = 0 := rfl
  have h00 : (sI (sI (sI (sI (sI zz 60 19 0) 60 20 (-1)) 60 21 0) 60 22 0) 76 1 0).1 60 19 = 0 := rfl
  generalize (sI (sI (sI (sI (sI zz 60 19 0) 60 20 (-1)) 60 21 0) 60 22 0) 76 1 0) = z5 at e0 L0 A0 o0 h00 ⊢
  have hh0 : (z5.1 60 19).toInt = 0 := congrArg Int32.toInt h00
  refine T2_bb (T2_ar (T2_al (sim_line hT A0 o0 L0 (by omega)) (x_readLine x0)) (m_line e0 L0 (by omega))) (fun r3 r6 h6 => ?_)
  obtain ⟨⟨hR, hX, _⟩, f6, t6, ⟨p60, p61⟩, c6⟩ := h6
  have tq6 : r6.1 60 18 = q.1 60 18 := t6.trans A0.2.2.1
  have e736 : r6.1 73 = q.1 73 := (Fr_r f6 (fun _ => rfl)).trans A0.2.1
  have tz5 : (z5.1 60 18).toInt = (q.1 60 18).toInt := congrArg Int32.toInt A0.2.2.1
  unfold b_X5_readText_19 b_X12_readText_31
  refine T2_fx32 (fun y1 l1 l2 s k1 => k1 = 0 ∧ 0 ≤ l2.toInt ∧ l2.toInt ≤ 120 ∧ XL q y1 ∧ s.1 73 = q.1 73 ∧ s.1 60 18 = q.1 60 18 ∧ 0 ≤ (s.1 60 19).toInt ∧ (s.1 60 19).toInt ≤ (q.1 60 18).toInt ∧ ((s.1 60 20 = -1 ∧ l1 = 1 ∧ y1.1 17 3 = s.1 60 19 ∧ (y1.1 19 4).toInt ≤ (s.1 60 19).toInt + 1 ∧ l2.toInt ≤ (s.1 60 19).toInt ∧ s.1 60 21 = 0 ∧ ∃ m : Nat, EN s ∧ LN s m ∧ 2 * (m : Int) ≤ (s.1 60 19).toInt + 1) ∨ (0 ≤ (s.1 60 20).toInt ∧ y1.1 17 3 = s.1 60 20 ∧ (l1 = 0 ∨ (l1 = 1 ∧ dig (CH q (s.1 60 20).toInt)))))) (fun s => ((q.1 60 18).toInt - (s.1 60 19).toInt).toNat) ?_ _ _ _ _ _ _ _ ⟨rfl, by decide, by decide, hX, e736, tq6, by omega, by omega, ?_⟩ (by unfold FU; omega) (by unfold FU; omega)
  · rintro rf rg y1 l1 l2 s k1 ⟨rfl, h20, h2m, hX, e73, e18, p0, p1, hc⟩ hr
    have e17 : (y1.1 17 2).toInt = (q.1 60 18).toInt := congrArg Int32.toInt ((hX.1.1 17 2 rfl).trans (RT_len hT))
    have ts : (s.1 60 18).toInt = (q.1 60 18).toInt := congrArg Int32.toInt e18
    have mx := m_lookE t120 e73 e18 p0
    rcases hc with ⟨hn, rfl, hp, hl, h2h, ho, m, eN, L, hm⟩ | ⟨w, hp, hf⟩
    · have nw : ¬ (0 : Int32) ≤ s.1 60 20 := by rw [hn]; decide
      have ep : (y1.1 17 3).toInt = (s.1 60 19).toInt := congrArg Int32.toInt hp
      have nx := x_nextE hT hX.1 (by omega)
      rw [ep] at nx
      have cm := CM_q hT p0
      have k59 := CM_eq cm (k := 59) (by decide) (by decide)
      have fin : T2 (b_X5_readText_59 y1 1) (b_X12_readText_64 s 0) (fun r s => r.1 = s.1) := by
        unfold b_X5_readText_59 b_X12_readText_64
        refine T2_ql (by decide) (T2_qr nw ?_)
        by_cases lt : (s.1 60 19).toInt < (q.1 60 18).toInt
        · refine T2_pl (Int32.lt_iff_toInt_lt.mpr (by omega)) (T2_qr (fun e => by have := Int32.le_iff_toInt_le.mp e; omega) (T2_re (m_wrE hn) ?_))
          rw [m_86w (by show 0 ≤ (s.1 60 19).toInt; exact p0)]
          exact T2_s hp
        · refine T2_ql (fun e => by have := Int32.lt_iff_toInt_lt.mp e; omega) (T2_pr (Int32.le_iff_toInt_le.mpr (by omega)) ?_)
          obtain ⟨a, ha, hpa⟩ := m_86n eN L hm
          exact ⟨_, a, rfl, ha, hpa.symm⟩
      by_cases g : (120 : Int32) ≤ l2
      · have g' := Int32.le_iff_toInt_le.mp g
        have mN : MH q (s.1 60 19).toInt = -1 := by unfold MH; rw [if_neg (by omega)]
        rw [mN] at mx
        exact T2_pl g (T2_qr nw (T2_re mx (T2_qr (by decide) fin)))
      refine T2_ql g (T2_ql (by decide) (T2_le nx (T2_qr nw (T2_re mx ?_))))
      by_cases c59 : CH q (s.1 60 19).toInt = 59
      · refine T2_pl c59 (T2_pr (k59.mp c59) (T2_nl (T2_nr ?_)))
        have lt : (s.1 60 19).toInt < (q.1 60 18).toInt := by
          by_cases c : (s.1 60 19).toInt < (q.1 60 18).toInt
          · exact c
          · unfold CH at c59
            rw [if_neg c] at c59
            exact absurd c59 (by decide)
        have i := inc1 (a := s.1 60 19) (by omega) (by omega)
        have i2 := inc1 (a := l2) (by omega) (by omega)
        have e20 : EN (sI s 60 19 (s.1 60 19 + 1)) := ⟨by show 0 ≤ (s.1 60 19 + 1).toInt; omega, by show (s.1 60 19 + 1).toInt ≤ (s.1 60 18).toInt; omega, by show (s.1 60 18).toInt ≤ 120; omega, eN.2.2.2.1, by show (s.1 60 22).toInt ≤ (s.1 60 19 + 1).toInt; have := eN.2.2.2.2.1; omega, eN.2.2.2.2.2⟩
        have L20 : LN (sI s 60 19 (s.1 60 19 + 1)) m := L
        have hm2 : 2 * (m : Int) ≤ ((sI s 60 19 (s.1 60 19 + 1)).1 60 19).toInt := by
          show 2 * (m : Int) ≤ (s.1 60 19 + 1).toInt
          omega
        have A' : AQ q (sI y1 17 3 (y1.1 17 3 + 1)) (sI s 60 19 (s.1 60 19 + 1)) := ⟨XL_s hX, e73, e18, e20, congrArg (· + 1) hp, by
          show (y1.1 19 4).toInt ≤ (s.1 60 19 + 1).toInt
          omega⟩
        refine T2_bb (T2_ar (T2_al (sim_line hT A' ho L20 hm2) (x_readLine A'.1)) (m_line e20 L20 hm2)) (fun r8 r21 h => ?_)
        obtain ⟨⟨hR, hX8, _⟩, f8, t8, q8, c8⟩ := h
        have q8' : (s.1 60 19 + 1).toInt ≤ (r21.1 60 19).toInt ∧ (r21.1 60 19).toInt ≤ (s.1 60 18).toInt := q8
        have t8' : r21.1 60 18 = q.1 60 18 := t8.trans e18
        have e738 : r21.1 73 = q.1 73 := (Fr_r f8 (fun _ => rfl)).trans e73
        refine hr _ _ _ _ _ ⟨rfl, by omega, by omega, hX8, e738, t8', by omega, by omega, ?_⟩ (by omega)
        rcases hR with ⟨a1, a2, a3, a4, a5⟩ | h
        · rcases c8 with c | c
          · rw [a1, m1i] at c
            exact absurd c (by omega)
          · exact Or.inl ⟨a1, a2, a3, a4, by omega, a5, m + 1, c⟩
        · exact Or.inr h
      · exact T2_ql c59 (T2_qr (fun e => c59 (k59.mpr e)) fin)
    · have w' : (0 : Int32) ≤ s.1 60 20 := Int32.le_iff_toInt_le.mpr (by rw [l0]; exact w)
      have ep : (y1.1 17 3).toInt = (s.1 60 20).toInt := congrArg Int32.toInt hp
      have nx := x_nextE hT hX.1 (by omega)
      rw [ep] at nx
      have fin : T2 (b_X5_readText_59 y1 l1) (b_X12_readText_64 s 0) (fun r s => r.1 = s.1) := by
        unfold b_X5_readText_59 b_X12_readText_64
        refine T2_pr w' ?_
        rw [m_86w w]
        rcases hf with rfl | ⟨rfl, d⟩
        · exact T2_pl rfl (T2_s hp)
        · have lt : (s.1 60 20).toInt < (q.1 60 18).toInt := by
            by_cases c : (s.1 60 20).toInt < (q.1 60 18).toInt
            · exact c
            · unfold CH at d
              rw [if_neg c] at d
              exact absurd d (by decide)
          exact T2_ql (by decide) (T2_pl (Int32.lt_iff_toInt_lt.mpr (by omega)) (T2_s hp))
      refine T2_pr w' ?_
      by_cases g : (120 : Int32) ≤ l2
      · exact T2_pl g fin
      · refine T2_ql g ?_
        rcases hf with rfl | ⟨rfl, d⟩
        · exact T2_pl rfl fin
        · exact T2_ql (by decide) (T2_le nx (T2_ql (fun e => by rw [e] at d; exact absurd d (by decide)) fin))
  · rcases hR with ⟨a1, a2, a3, a4, a5⟩ | h
    · rcases c6 with c | c
      · rw [a1, m1i] at c
        exact absurd c (by omega)
      · exact Or.inl ⟨a1, a2, a3, a4, by show (0 : Int) ≤ _; omega, a5, 0 + 1, c⟩
    · exact Or.inr h
theorem opq_law {q : SS} (h : INV q) : T (f_X11_law q) (fun r => T (f_X12_law r.2) (fun s => INV s.2 ∧ r.1 = s.1)) := by
  have l0 : (0 : Int32).toInt = 0 := rfl
  have hT := INV_RT h
  obtain ⟨r, hr, y, hy, fy, e⟩ := xo_law h
  refine ⟨r, hr, ?_⟩
  show T (f_X12_law r.2) (fun s => INV s.2 ∧ r.1 = s.1)
  rw [e]
  have e73 : (sI y 17 2 0).1 73 = q.1 73 := by
    have a : y.1 73 = q.1 73 := Fr_r fy (fun _ => rfl)
    exact a
  have e18 : (sI y 17 2 0).1 60 18 = q.1 60 18 := fy.1 60 18 rfl
  obtain ⟨s, hs, hI⟩ := mo_law hy
  refine ⟨s, hs, hI, ?_⟩
  obtain ⟨a, b, ha, hb, hab⟩ := sim_text hT e73 e18
  unfold f_X11_law at hr
  unfold f_X12_law at hs
  rw [ha, bind_s] at hr
  rw [hb, bind_s] at hs
  by_cases c : 0 ≤ a.1
  · rw [if_pos c] at hr
    have c' := Int32.le_iff_toInt_le.mp c
    rw [if_neg (fun e => by rw [← hab] at e; have := Int32.lt_iff_toInt_lt.mp e; omega)] at hs
    unfold b_X11_law_26 f_X5_emptyTape at hr
    have hr' : (if 0 ≤ a.1 then some (((-100 : Int32) - a.1), sI a.2 17 2 0) else some ((1 : Int32), sI a.2 17 2 0)) = some r := hr
    rw [if_pos c] at hr'
    have e1 : r.1 = (-100 : Int32) - a.1 := (congrArg Prod.fst (Option.some.inj hr')).symm
    have e2 : s.1 = (-100 : Int32) - b.1 := (congrArg Prod.fst (Option.some.inj hs)).symm
    rw [e1, e2, hab]
  · rw [if_neg c] at hr
    have c' := Int32.lt_iff_toInt_lt.mp (Int32.not_le.mp c)
    rw [if_pos (by rw [← hab]; exact Int32.not_le.mp c)] at hs
    have hr' : ((f_X4_become a.2).bind fun r4 => b_X11_law_26 r4 a.1) = some r := hr
    have k : ∀ x : SS, b_X11_law_26 x a.1 = some (1, sI x 17 2 0) := fun x => by
      unfold b_X11_law_26 f_X5_emptyTape
      show (if 0 ≤ a.1 then _ else some ((1 : Int32), sI x 17 2 0)) = _
      rw [if_neg c]
    have hs' : (some ((1 : Int32), sI b.2 60 30 1)) = some s := hs
    have e2 : s.1 = 1 := (congrArg Prod.fst (Option.some.inj hs')).symm
    cases hb2 : f_X4_become a.2 with
    | none => rw [hb2] at hr'; cases hr'
    | some x =>
      rw [hb2, bind_s, k] at hr'
      have e1 : r.1 = 1 := (congrArg Prod.fst (Option.some.inj hr')).symm
      rw [e1, e2]

/-! ===== a run's answer, and what holds of it ===== -/
def T {ρ : Type} (o : Option ρ) (P : ρ → Prop) : Prop := ∃ r, o = some r ∧ P r
theorem T_some {ρ : Type} {r : ρ} {P : ρ → Prop} : T (some r) P ↔ P r := ⟨fun ⟨_, h, k⟩ => by cases h; exact k, fun h => ⟨_, rfl, h⟩⟩
theorem T_none {ρ : Type} {P : ρ → Prop} : T (none : Option ρ) P ↔ False := ⟨fun ⟨_, h, _⟩ => (by cases h), fun h => h.elim⟩
theorem T_bind {α ρ : Type} {o : Option α} {f : α → Option ρ} {P : ρ → Prop} : T (o.bind f) P ↔ T o (fun r => T (f r) P) := by
  cases o with
  | none => simp [T_none]
  | some x => simp [T_some]
theorem T_ite {ρ : Type} {c : Prop} [Decidable c] {a b : Option ρ} {P : ρ → Prop} : T (if c then a else b) P ↔ (c → T a P) ∧ (¬ c → T b P) := by
  by_cases h : c <;> simp [h]
theorem T_chk {ρ : Type} {c : Prop} [Decidable c] {a : Option ρ} {P : ρ → Prop} : T (if c then a else none) P ↔ c ∧ (c → T a P) := by
  by_cases h : c <;> simp [h, T_none]
theorem nm_eq {α β : Type} (e : α) (k : α → β) : nm e k = k e := rfl
theorem fu_s : FU = 999999 + 1 := rfl
theorem fx1_s {A0 ρ : Type} {F : (A0 → Option ρ) → A0 → Option ρ} {a0 : A0} : fx1 F FU a0 = F (fx1 F 999999) a0 := rfl
theorem fx2_s {A0 A1 ρ : Type} {F : (A0 → A1 → Option ρ) → A0 → A1 → Option ρ} {a0 : A0} {a1 : A1} : fx2 F FU a0 a1 = F (fx2 F 999999) a0 a1 := rfl
theorem fx3_s {A0 A1 A2 ρ : Type} {F : (A0 → A1 → A2 → Option ρ) → A0 → A1 → A2 → Option ρ} {a0 : A0} {a1 : A1} {a2 : A2} : fx3 F FU a0 a1 a2 = F (fx3 F 999999) a0 a1 a2 := rfl
theorem fx4_s {A0 A1 A2 A3 ρ : Type} {F : (A0 → A1 → A2 → A3 → Option ρ) → A0 → A1 → A2 → A3 → Option ρ} {a0 : A0} {a1 : A1} {a2 : A2} {a3 : A3} : fx4 F FU a0 a1 a2 a3 = F (fx4 F 999999) a0 a1 a2 a3 := rfl
theorem fx5_s {A0 A1 A2 A3 A4 ρ : Type} {F : (A0 → A1 → A2 → A3 → A4 → Option ρ) → A0 → A1 → A2 → A3 → A4 → Option ρ} {a0 : A0} {a1 : A1} {a2 : A2} {a3 : A3} {a4 : A4} : fx5 F FU a0 a1 a2 a3 a4 = F (fx5 F 999999) a0 a1 a2 a3 a4 := rfl
theorem fx6_s {A0 A1 A2 A3 A4 A5 ρ : Type} {F : (A0 → A1 → A2 → A3 → A4 → A5 → Option ρ) → A0 → A1 → A2 → A3 → A4 → A5 → Option ρ} {a0 : A0} {a1 : A1} {a2 : A2} {a3 : A3} {a4 : A4} {a5 : A5} : fx6 F FU a0 a1 a2 a3 a4 a5 = F (fx6 F 999999) a0 a1 a2 a3 a4 a5 := rfl
theorem fx7_s {A0 A1 A2 A3 A4 A5 A6 ρ : Type} {F : (A0 → A1 → A2 → A3 → A4 → A5 → A6 → Option ρ) → A0 → A1 → A2 → A3 → A4 → A5 → A6 → Option ρ} {a0 : A0} {a1 : A1} {a2 : A2} {a3 : A3} {a4 : A4} {a5 : A5} {a6 : A6} : fx7 F FU a0 a1 a2 a3 a4 a5 a6 = F (fx7 F 999999) a0 a1 a2 a3 a4 a5 a6 := rfl
theorem fx8_s {A0 A1 A2 A3 A4 A5 A6 A7 ρ : Type} {F : (A0 → A1 → A2 → A3 → A4 → A5 → A6 → A7 → Option ρ) → A0 → A1 → A2 → A3 → A4 → A5 → A6 → A7 → Option ρ} {a0 : A0} {a1 : A1} {a2 : A2} {a3 : A3} {a4 : A4} {a5 : A5} {a6 : A6} {a7 : A7} : fx8 F FU a0 a1 a2 a3 a4 a5 a6 a7 = F (fx8 F 999999) a0 a1 a2 a3 a4 a5 a6 a7 := rfl
theorem fx9_s {A0 A1 A2 A3 A4 A5 A6 A7 A8 ρ : Type} {F : (A0 → A1 → A2 → A3 → A4 → A5 → A6 → A7 → A8 → Option ρ) → A0 → A1 → A2 → A3 → A4 → A5 → A6 → A7 → A8 → Option ρ} {a0 : A0} {a1 : A1} {a2 : A2} {a3 : A3} {a4 : A4} {a5 : A5} {a6 : A6} {a7 : A7} {a8 : A8} : fx9 F FU a0 a1 a2 a3 a4 a5 a6 a7 a8 = F (fx9 F 999999) a0 a1 a2 a3 a4 a5 a6 a7 a8 := rfl
theorem fx10_s {A0 A1 A2 A3 A4 A5 A6 A7 A8 A9 ρ : Type} {F : (A0 → A1 → A2 → A3 → A4 → A5 → A6 → A7 → A8 → A9 → Option ρ) → A0 → A1 → A2 → A3 → A4 → A5 → A6 → A7 → A8 → A9 → Option ρ} {a0 : A0} {a1 : A1} {a2 : A2} {a3 : A3} {a4 : A4} {a5 : A5} {a6 : A6} {a7 : A7} {a8 : A8} {a9 : A9} : fx10 F FU a0 a1 a2 a3 a4 a5 a6 a7 a8 a9 = F (fx10 F 999999) a0 a1 a2 a3 a4 a5 a6 a7 a8 a9 := rfl
theorem fx11_s {A0 A1 A2 A3 A4 A5 A6 A7 A8 A9 A10 ρ : Type} {F : (A0 → A1 → A2 → A3 → A4 → A5 → A6 → A7 → A8 → A9 → A10 → Option ρ) → A0 → A1 → A2 → A3 → A4 → A5 → A6 → A7 → A8 → A9 → A10 → Option ρ} {a0 : A0} {a1 : A1} {a2 : A2} {a3 : A3} {a4 : A4} {a5 : A5} {a6 : A6} {a7 : A7} {a8 : A8} {a9 : A9} {a10 : A10} : fx11 F FU a0 a1 a2 a3 a4 a5 a6 a7 a8 a9 a10 = F (fx11 F 999999) a0 a1 a2 a3 a4 a5 a6 a7 a8 a9 a10 := rfl
theorem fx12_s {A0 A1 A2 A3 A4 A5 A6 A7 A8 A9 A10 A11 ρ : Type} {F : (A0 → A1 → A2 → A3 → A4 → A5 → A6 → A7 → A8 → A9 → A10 → A11 → Option ρ) → A0 → A1 → A2 → A3 → A4 → A5 → A6 → A7 → A8 → A9 → A10 → A11 → Option ρ} {a0 : A0} {a1 : A1} {a2 : A2} {a3 : A3} {a4 : A4} {a5 : A5} {a6 : A6} {a7 : A7} {a8 : A8} {a9 : A9} {a10 : A10} {a11 : A11} : fx12 F FU a0 a1 a2 a3 a4 a5 a6 a7 a8 a9 a10 a11 = F (fx12 F 999999) a0 a1 a2 a3 a4 a5 a6 a7 a8 a9 a10 a11 := rfl
theorem stv3_0 : stV 3 0 = 12 := rfl
theorem stv3_1 : stV 3 1 = 1 := rfl
theorem stv3_2 : stV 3 2 = 99 := rfl
theorem stv3_3 : stV 3 3 = 9 := rfl
theorem stv3_4 : stV 3 4 = 5 := rfl
theorem stv3_5 : stV 3 5 = 1 := rfl
theorem stv3_6 : stV 3 6 = 4 := rfl
theorem stv3_7 : stV 3 7 = 11 := rfl
theorem stv3_8 : stV 3 8 = 9 := rfl

/-! ===== rows read zero behind their length, in every state that a run reaches ===== -/
def ZL (σ : PSt) : Prop := ∀ k, k < pnc σ → 1 ≤ (ply σ k).1 → ∀ i, (ply σ k).2 ≤ i → piv σ k i = 0
theorem ZL_mkc {σ : PSt} (h : ZL σ) (t a n : Nat) : ZL (mkc σ t a n) := by
  intro k hk ht i hi
  by_cases e : k = σ.1
  · show up1 (piv σ) σ.1 (fun _ => 0) k i = 0
    unfold up1
    rw [if_pos e]
  · have hk' : k < σ.1 := by
      have : k < σ.1 + 1 := hk
      omega
    have e2 : ply (mkc σ t a n) k = ply σ k := if_neg e
    rw [e2] at ht hi
    show up1 (piv σ) σ.1 (fun _ => 0) k i = 0
    unfold up1
    rw [if_neg e]
    exact h k hk' ht i hi
theorem ZL_rows {t n : Nat} : ∀ (j : Nat) {σ : PSt}, ZL σ → ZL (mkrows t n j σ)
  | 0, _, h => h
  | j + 1, _, h => ZL_rows j (ZL_mkc h t n n)
theorem ZL_wiv0 {σ : PSt} (h : ZL σ) {o f : Nat} {x : Int32} (ho : (ply σ o).1 = 0) : ZL (wiv σ o f x) := by
  intro k hk ht i hi
  have ht' : 1 ≤ (ply σ k).1 := ht
  show up2 (piv σ) o f x k i = 0
  unfold up2
  rw [if_neg (fun y => by rw [y.1, ho] at ht'; omega)]
  exact h k hk ht i hi
theorem ZL_wivA {σ : PSt} (h : ZL σ) {o f : Nat} {x : Int32} (hf : f < (ply σ o).2) : ZL (wiv σ o f x) := by
  intro k hk ht i hi
  have hi' : (ply σ k).2 ≤ i := hi
  show up2 (piv σ) o f x k i = 0
  unfold up2
  rw [if_neg (fun y => by rw [y.1, y.2] at hi'; omega)]
  exact h k hk ht i hi
def KS (σ : PSt) (o : PO) : Prop := ∀ r, o = some r → ZL r.2.2
theorem KS_n {σ : PSt} : KS σ none := fun _ h => by cases h
theorem KS_s {σ : PSt} (h : ZL σ) (p : Nat) (st : List Value) : KS σ (some (p, st, σ)) := fun _ e => by cases e; exact h
theorem KS_m {σ : PSt} {α : Type} (h : ZL σ) (o : Option α) (p : α → Nat) (g : α → List Value) : KS σ (o.map fun x => (p x, g x, σ)) := fun _ e => by
  cases o with
  | none => cases e
  | some a => cases e; exact h
theorem KS_I1 {σ : PSt} (h : ZL σ) (st f p) : KS σ (oI1 st f p σ) := fun r e => by unfold oI1 at e; split at e <;> cases e; exact h
theorem KS_I2 {σ : PSt} (h : ZL σ) (st f p) : KS σ (oI2 st f p σ) := fun r e => by unfold oI2 at e; split at e <;> cases e; exact h
theorem KS_D2 {σ : PSt} (h : ZL σ) (st f p) : KS σ (oD2 st f p σ) := fun r e => by
  unfold oD2 at e
  split at e
  · split at e <;> cases e
    exact h
  · cases e
theorem KS_L2 {σ : PSt} (h : ZL σ) (st f p) : KS σ (oL2 st f p σ) := fun r e => by unfold oL2 at e; split at e <;> cases e; exact h
theorem KS_E2 {σ : PSt} (h : ZL σ) (st f p) : KS σ (oE2 st f p σ) := fun r e => by
  unfold oE2 at e
  split at e
  · split at e <;> cases e
    exact h
  · cases e
theorem KS_get {σ : PSt} (h : ZL σ) (c k st p) : KS σ (oGet c k st p σ) := fun r e => by
  unfold oGet at e
  split at e
  · split at e
    · split at e <;> cases e
      exact h
    · cases e
  · cases e
theorem KS_put {σ : PSt} (h : ZL σ) (b c k st p) : KS σ (oPut b c k st p σ) := fun r e => by
  unfold oPut at e
  split at e
  · split at e
    · split at e
      next hc =>
        unfold pval at e
        split at e
        · split at e <;> cases e
          exact ZL_wiv0 h (by rw [hc.2.1])
        · split at e <;> cases e
          exact h
        · split at e <;> cases e
          exact h
        · cases e
      next => cases e
    · cases e
  · cases e
theorem KS_ldI {σ : PSt} (h : ZL σ) (Λ t st p) : KS σ (oLdI Λ t st p σ) := fun r e => by
  unfold oLdI at e
  split at e
  · split at e <;> cases e
    exact h
  · split at e <;> cases e
    exact h
  · cases e
theorem KS_ldL {σ : PSt} (h : ZL σ) (st p) : KS σ (oLdL st p σ) := fun r e => by
  unfold oLdL at e
  split at e
  · split at e <;> cases e
    exact h
  · cases e
theorem KS_ldA {σ : PSt} (h : ZL σ) (st p) : KS σ (oLdA st p σ) := fun r e => by
  unfold oLdA at e
  split at e
  · split at e
    · exact KS_m h _ (fun _ => p) _ r e
    · cases e
  · cases e
theorem KS_stI {σ : PSt} (h : ZL σ) (t g st p) : KS σ (oStI t g st p σ) := fun r e => by
  unfold oStI at e
  split at e
  · split at e
    next hc =>
      cases e
      have v := hc.2.2
      exact ZL_wivA h (by have a := v.1; have b := v.2; show Int.toNat _ < _; omega)
    next => cases e
  · cases e
theorem KS_stL {σ : PSt} (h : ZL σ) (st p) : KS σ (oStL st p σ) := fun r e => by
  unfold oStL at e
  split at e
  · split at e <;> cases e
    exact h
  · cases e
theorem KS_len {σ : PSt} (h : ZL σ) (Λ st p) : KS σ (oLen Λ st p σ) := fun r e => by
  unfold oLen at e
  split at e
  · split at e <;> cases e
    exact h
  · split at e <;> cases e
    exact h
  · cases e
theorem KS_new {σ : PSt} (h : ZL σ) (t st p) : KS σ (oNewA t st p σ) := fun r e => by
  unfold oNewA at e
  split at e
  · split at e <;> cases e
    exact ZL_mkc h _ _ _
  · cases e
theorem KS_mna {σ : PSt} (h : ZL σ) (t st p) : KS σ (oMna t st p σ) := fun r e => by
  unfold oMna at e
  split at e
  next k n rest =>
    split at e
    next hc =>
      cases e
      refine ZL_rows _ ?_
      have a := ZL_mkc h t n.toNatClampNeg n.toNatClampNeg
      exact a
    next => cases e
  next => cases e
theorem KS_b {σ : PSt} {α : Type} {o : Option α} {f : α → PO} (h : ∀ a, KS σ (f a)) : KS σ (o.bind f) := by
  cases o with
  | none => exact KS_n
  | some a => exact h a
theorem KS_if {σ : PSt} {c : Prop} [Decidable c] {a b : PO} (h1 : KS σ a) (h2 : KS σ b) : KS σ (if c then a else b) := by
  split
  · exact h1
  · exact h2
theorem KS_nw {σ : PSt} (h : ZL σ) (o : Option Nat) (p : Nat) (st : List Value) (f : Nat → Nat) : KS σ (o.map fun ci => (p, .ref (pnc σ) :: st, mkc σ 0 ci (f ci))) := fun _ e => by
  cases o with
  | none => cases e
  | some a => cases e; exact ZL_mkc h _ _ _
theorem KS_S {σ : PSt} (h : ZL σ) (Λ : PRo) (b : Bool) (c p p2 : Nat) (i : Instr) (st : List Value) : KS σ (pS Λ b c p p2 σ i st) := by
  unfold pS
  split
  all_goals first
    | exact KS_n
    | exact KS_s h _ _
    | exact KS_I1 h _ _ _
    | exact KS_I2 h _ _ _
    | exact KS_D2 h _ _ _
    | exact KS_L2 h _ _ _
    | exact KS_E2 h _ _ _
    | exact KS_get h _ _ _ _
    | exact KS_put h _ _ _ _ _
    | exact KS_ldI h _ _ _ _
    | exact KS_ldL h _ _
    | exact KS_ldA h _ _
    | exact KS_stI h _ _ _ _
    | exact KS_stL h _ _
    | exact KS_len h _ _ _
    | exact KS_new h _ _ _
    | exact KS_nw h _ _ _ _
    | exact KS_m h _ _ _
    | exact KS_if (KS_b fun _ => KS_mna h _ _ _) KS_n
    | (split <;> first
        | exact KS_n
        | exact KS_s h _ _
        | exact KS_m h _ _ _
        | exact KS_if (KS_s h _ _) KS_n
        | exact KS_if (KS_m h _ _ _) KS_n
        | exact KS_if (KS_m h _ _ _) (KS_b fun _ => KS_m h _ _ _))
theorem ZL_cpy {σ : PSt} (h : ZL σ) {st : List Value} {r : List Value × PSt} (e : oCpy st σ = some r) : ZL r.2 := by
  unfold oCpy at e
  split at e
  next n dp b sp a rest =>
    split at e
    next hc =>
      split at e
      · cases e
        intro k hk ht i hi
        show up1 (piv σ) b _ k i = 0
        unfold up1
        by_cases c : k = b
        · subst c
          rw [if_pos rfl]
          have hi' : (ply σ k).2 ≤ i := hi
          have hcc := hc.2.2.2.2.2.2.2.1
          unfold va_cpy
          rw [if_neg (fun y => by omega)]
          exact h k hk ht i hi
        · rw [if_neg c]
          exact h k hk ht i hi
      · split at e
        · cases e
          exact h
        · cases e
    next => cases e
  next => cases e

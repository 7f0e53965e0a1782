/-! ===== the class's queries leave the model's cells alone ===== -/
def wQ (k _ : Nat) : Bool := Nat.blt k 60
def vQ (k : Nat) : Bool := Nat.blt k 60
def KC {ρ : Type} (q0 : SS) (o : Option ρ) (st : ρ → SS) : Prop := ∀ r, o = some r → Fr wQ vQ q0 (st r)
theorem KC_none {ρ : Type} {q0 : SS} {st : ρ → SS} : KC q0 none st := fun _ h => by cases h
theorem KC_some {ρ : Type} {q0 : SS} {st : ρ → SS} {r : ρ} (h : Fr wQ vQ q0 (st r)) : KC q0 (some r) st := fun r' e => by
  cases e
  exact h
theorem KC_i {ρ : Type} {q0 : SS} {st : ρ → SS} {c : Prop} [Decidable c] {a b : Option ρ} (h1 : KC q0 a st) (h2 : KC q0 b st) : KC q0 (if c then a else b) st := by
  by_cases h : c
  · rw [if_pos h]; exact h1
  · rw [if_neg h]; exact h2
theorem KC_ic {ρ : Type} {q0 : SS} {st : ρ → SS} {c : Prop} [Decidable c] {a b : Option ρ} (h1 : c → KC q0 a st) (h2 : KC q0 b st) : KC q0 (if c then a else b) st := by
  by_cases h : c
  · rw [if_pos h]; exact h1 h
  · rw [if_neg h]; exact h2
theorem KC_ns {ρ : Type} {q0 : SS} {st : ρ → SS} {e : SS} {f : SS → Option ρ} (h : Fr wQ vQ q0 e) (k : ∀ x, Fr wQ vQ q0 x → KC q0 (f x) st) : KC q0 (nm e f) st := k e h
theorem KC_nv {α ρ : Type} {q0 : SS} {st : ρ → SS} {e : α} {f : α → Option ρ} (k : ∀ x, KC q0 (f x) st) : KC q0 (nm e f) st := k e
theorem KC_bp {α ρ : Type} {q0 : SS} {st : ρ → SS} {o : Option α} {f : α → Option ρ} (k : ∀ x, KC q0 (f x) st) : KC q0 (o.bind f) st := by
  cases o with
  | none => exact KC_none
  | some x => exact k x
theorem KC_b {α ρ : Type} {q0 : SS} {st' : α → SS} {st : ρ → SS} {o : Option α} {f : α → Option ρ} (h : KC q0 o st') (k : ∀ x, Fr wQ vQ q0 (st' x) → KC q0 (f x) st) : KC q0 (o.bind f) st := by
  cases o with
  | none => exact KC_none
  | some x => exact k x (h x rfl)
theorem KC_s0 {ρ : Type} {q0 : SS} {st : ρ → SS} {x : Int32} {d : Option ρ} (h : KC q0 d st) : KC q0 (sw x [] d) st := h
theorem KC_sw {ρ : Type} {q0 : SS} {st : ρ → SS} {x : Int32} {k : Int} {o d : Option ρ} {t : List (Int × Option ρ)} (h1 : KC q0 o st) (h2 : KC q0 (sw x t d) st) : KC q0 (sw x ((k, o) :: t) d) st := by
  show KC q0 (if x.toInt = k then o else sw x t d) st
  exact KC_i h1 h2
theorem KC_fx1 {ρ : Type} {q0 : SS} {st : ρ → SS} {F : (SS → Option ρ) → SS → Option ρ} (h : ∀ rec, (∀ b0, Fr wQ vQ q0 b0 → KC q0 (rec b0) st) → ∀ a0, Fr wQ vQ q0 a0 → KC q0 (F rec a0) st) : ∀ n a0, Fr wQ vQ q0 a0 → KC q0 (fx1 F n a0) st
  | 0, _, _ => KC_none
  | n + 1, a0, e => h _ (fun b0 e => KC_fx1 h n b0 e) a0 e
theorem KC_fx2 {A1 ρ : Type} {q0 : SS} {st : ρ → SS} {F : (SS → A1 → Option ρ) → SS → A1 → Option ρ} (h : ∀ rec, (∀ b0 b1, Fr wQ vQ q0 b0 → KC q0 (rec b0 b1) st) → ∀ a0 a1, Fr wQ vQ q0 a0 → KC q0 (F rec a0 a1) st) : ∀ n a0 a1, Fr wQ vQ q0 a0 → KC q0 (fx2 F n a0 a1) st
  | 0, _, _, _ => KC_none
  | n + 1, a0, a1, e => h _ (fun b0 b1 e => KC_fx2 h n b0 b1 e) a0 a1 e
theorem KC_fx3 {A1 A2 ρ : Type} {q0 : SS} {st : ρ → SS} {F : (SS → A1 → A2 → Option ρ) → SS → A1 → A2 → Option ρ} (h : ∀ rec, (∀ b0 b1 b2, Fr wQ vQ q0 b0 → KC q0 (rec b0 b1 b2) st) → ∀ a0 a1 a2, Fr wQ vQ q0 a0 → KC q0 (F rec a0 a1 a2) st) : ∀ n a0 a1 a2, Fr wQ vQ q0 a0 → KC q0 (fx3 F n a0 a1 a2) st
  | 0, _, _, _, _ => KC_none
  | n + 1, a0, a1, a2, e => h _ (fun b0 b1 b2 e => KC_fx3 h n b0 b1 b2 e) a0 a1 a2 e
theorem KC_fx4 {A1 A2 A3 ρ : Type} {q0 : SS} {st : ρ → SS} {F : (SS → A1 → A2 → A3 → Option ρ) → SS → A1 → A2 → A3 → Option ρ} (h : ∀ rec, (∀ b0 b1 b2 b3, Fr wQ vQ q0 b0 → KC q0 (rec b0 b1 b2 b3) st) → ∀ a0 a1 a2 a3, Fr wQ vQ q0 a0 → KC q0 (F rec a0 a1 a2 a3) st) : ∀ n a0 a1 a2 a3, Fr wQ vQ q0 a0 → KC q0 (fx4 F n a0 a1 a2 a3) st
  | 0, _, _, _, _, _ => KC_none
  | n + 1, a0, a1, a2, a3, e => h _ (fun b0 b1 b2 b3 e => KC_fx4 h n b0 b1 b2 b3 e) a0 a1 a2 a3 e
theorem KC_fx5 {A1 A2 A3 A4 ρ : Type} {q0 : SS} {st : ρ → SS} {F : (SS → A1 → A2 → A3 → A4 → Option ρ) → SS → A1 → A2 → A3 → A4 → Option ρ} (h : ∀ rec, (∀ b0 b1 b2 b3 b4, Fr wQ vQ q0 b0 → KC q0 (rec b0 b1 b2 b3 b4) st) → ∀ a0 a1 a2 a3 a4, Fr wQ vQ q0 a0 → KC q0 (F rec a0 a1 a2 a3 a4) st) : ∀ n a0 a1 a2 a3 a4, Fr wQ vQ q0 a0 → KC q0 (fx5 F n a0 a1 a2 a3 a4) st
  | 0, _, _, _, _, _, _ => KC_none
  | n + 1, a0, a1, a2, a3, a4, e => h _ (fun b0 b1 b2 b3 b4 e => KC_fx5 h n b0 b1 b2 b3 b4 e) a0 a1 a2 a3 a4 e
theorem KC_fx6 {A1 A2 A3 A4 A5 ρ : Type} {q0 : SS} {st : ρ → SS} {F : (SS → A1 → A2 → A3 → A4 → A5 → Option ρ) → SS → A1 → A2 → A3 → A4 → A5 → Option ρ} (h : ∀ rec, (∀ b0 b1 b2 b3 b4 b5, Fr wQ vQ q0 b0 → KC q0 (rec b0 b1 b2 b3 b4 b5) st) → ∀ a0 a1 a2 a3 a4 a5, Fr wQ vQ q0 a0 → KC q0 (F rec a0 a1 a2 a3 a4 a5) st) : ∀ n a0 a1 a2 a3 a4 a5, Fr wQ vQ q0 a0 → KC q0 (fx6 F n a0 a1 a2 a3 a4 a5) st
  | 0, _, _, _, _, _, _, _ => KC_none
  | n + 1, a0, a1, a2, a3, a4, a5, e => h _ (fun b0 b1 b2 b3 b4 b5 e => KC_fx6 h n b0 b1 b2 b3 b4 b5 e) a0 a1 a2 a3 a4 a5 e
theorem KC_fx7 {A1 A2 A3 A4 A5 A6 ρ : Type} {q0 : SS} {st : ρ → SS} {F : (SS → A1 → A2 → A3 → A4 → A5 → A6 → Option ρ) → SS → A1 → A2 → A3 → A4 → A5 → A6 → Option ρ} (h : ∀ rec, (∀ b0 b1 b2 b3 b4 b5 b6, Fr wQ vQ q0 b0 → KC q0 (rec b0 b1 b2 b3 b4 b5 b6) st) → ∀ a0 a1 a2 a3 a4 a5 a6, Fr wQ vQ q0 a0 → KC q0 (F rec a0 a1 a2 a3 a4 a5 a6) st) : ∀ n a0 a1 a2 a3 a4 a5 a6, Fr wQ vQ q0 a0 → KC q0 (fx7 F n a0 a1 a2 a3 a4 a5 a6) st
  | 0, _, _, _, _, _, _, _, _ => KC_none
  | n + 1, a0, a1, a2, a3, a4, a5, a6, e => h _ (fun b0 b1 b2 b3 b4 b5 b6 e => KC_fx7 h n b0 b1 b2 b3 b4 b5 b6 e) a0 a1 a2 a3 a4 a5 a6 e
theorem KC_fx8 {A1 A2 A3 A4 A5 A6 A7 ρ : Type} {q0 : SS} {st : ρ → SS} {F : (SS → A1 → A2 → A3 → A4 → A5 → A6 → A7 → Option ρ) → SS → A1 → A2 → A3 → A4 → A5 → A6 → A7 → Option ρ} (h : ∀ rec, (∀ b0 b1 b2 b3 b4 b5 b6 b7, Fr wQ vQ q0 b0 → KC q0 (rec b0 b1 b2 b3 b4 b5 b6 b7) st) → ∀ a0 a1 a2 a3 a4 a5 a6 a7, Fr wQ vQ q0 a0 → KC q0 (F rec a0 a1 a2 a3 a4 a5 a6 a7) st) : ∀ n a0 a1 a2 a3 a4 a5 a6 a7, Fr wQ vQ q0 a0 → KC q0 (fx8 F n a0 a1 a2 a3 a4 a5 a6 a7) st
  | 0, _, _, _, _, _, _, _, _, _ => KC_none
  | n + 1, a0, a1, a2, a3, a4, a5, a6, a7, e => h _ (fun b0 b1 b2 b3 b4 b5 b6 b7 e => KC_fx8 h n b0 b1 b2 b3 b4 b5 b6 b7 e) a0 a1 a2 a3 a4 a5 a6 a7 e
theorem KC_fx9 {A1 A2 A3 A4 A5 A6 A7 A8 ρ : Type} {q0 : SS} {st : ρ → SS} {F : (SS → A1 → A2 → A3 → A4 → A5 → A6 → A7 → A8 → Option ρ) → SS → A1 → A2 → A3 → A4 → A5 → A6 → A7 → A8 → Option ρ} (h : ∀ rec, (∀ b0 b1 b2 b3 b4 b5 b6 b7 b8, Fr wQ vQ q0 b0 → KC q0 (rec b0 b1 b2 b3 b4 b5 b6 b7 b8) st) → ∀ a0 a1 a2 a3 a4 a5 a6 a7 a8, Fr wQ vQ q0 a0 → KC q0 (F rec a0 a1 a2 a3 a4 a5 a6 a7 a8) st) : ∀ n a0 a1 a2 a3 a4 a5 a6 a7 a8, Fr wQ vQ q0 a0 → KC q0 (fx9 F n a0 a1 a2 a3 a4 a5 a6 a7 a8) st
  | 0, _, _, _, _, _, _, _, _, _, _ => KC_none
  | n + 1, a0, a1, a2, a3, a4, a5, a6, a7, a8, e => h _ (fun b0 b1 b2 b3 b4 b5 b6 b7 b8 e => KC_fx9 h n b0 b1 b2 b3 b4 b5 b6 b7 b8 e) a0 a1 a2 a3 a4 a5 a6 a7 a8 e
theorem KC_fx10 {A1 A2 A3 A4 A5 A6 A7 A8 A9 ρ : Type} {q0 : SS} {st : ρ → SS} {F : (SS → A1 → A2 → A3 → A4 → A5 → A6 → A7 → A8 → A9 → Option ρ) → SS → A1 → A2 → A3 → A4 → A5 → A6 → A7 → A8 → A9 → Option ρ} (h : ∀ rec, (∀ b0 b1 b2 b3 b4 b5 b6 b7 b8 b9, Fr wQ vQ q0 b0 → KC q0 (rec b0 b1 b2 b3 b4 b5 b6 b7 b8 b9) st) → ∀ a0 a1 a2 a3 a4 a5 a6 a7 a8 a9, Fr wQ vQ q0 a0 → KC q0 (F rec a0 a1 a2 a3 a4 a5 a6 a7 a8 a9) st) : ∀ n a0 a1 a2 a3 a4 a5 a6 a7 a8 a9, Fr wQ vQ q0 a0 → KC q0 (fx10 F n a0 a1 a2 a3 a4 a5 a6 a7 a8 a9) st
  | 0, _, _, _, _, _, _, _, _, _, _, _ => KC_none
  | n + 1, a0, a1, a2, a3, a4, a5, a6, a7, a8, a9, e => h _ (fun b0 b1 b2 b3 b4 b5 b6 b7 b8 b9 e => KC_fx10 h n b0 b1 b2 b3 b4 b5 b6 b7 b8 b9 e) a0 a1 a2 a3 a4 a5 a6 a7 a8 a9 e
theorem KC_fx11 {A1 A2 A3 A4 A5 A6 A7 A8 A9 A10 ρ : Type} {q0 : SS} {st : ρ → SS} {F : (SS → A1 → A2 → A3 → A4 → A5 → A6 → A7 → A8 → A9 → A10 → Option ρ) → SS → A1 → A2 → A3 → A4 → A5 → A6 → A7 → A8 → A9 → A10 → Option ρ} (h : ∀ rec, (∀ b0 b1 b2 b3 b4 b5 b6 b7 b8 b9 b10, Fr wQ vQ q0 b0 → KC q0 (rec b0 b1 b2 b3 b4 b5 b6 b7 b8 b9 b10) st) → ∀ a0 a1 a2 a3 a4 a5 a6 a7 a8 a9 a10, Fr wQ vQ q0 a0 → KC q0 (F rec a0 a1 a2 a3 a4 a5 a6 a7 a8 a9 a10) st) : ∀ n a0 a1 a2 a3 a4 a5 a6 a7 a8 a9 a10, Fr wQ vQ q0 a0 → KC q0 (fx11 F n a0 a1 a2 a3 a4 a5 a6 a7 a8 a9 a10) st
  | 0, _, _, _, _, _, _, _, _, _, _, _, _ => KC_none
  | n + 1, a0, a1, a2, a3, a4, a5, a6, a7, a8, a9, a10, e => h _ (fun b0 b1 b2 b3 b4 b5 b6 b7 b8 b9 b10 e => KC_fx11 h n b0 b1 b2 b3 b4 b5 b6 b7 b8 b9 b10 e) a0 a1 a2 a3 a4 a5 a6 a7 a8 a9 a10 e
theorem KC_fx12 {A1 A2 A3 A4 A5 A6 A7 A8 A9 A10 A11 ρ : Type} {q0 : SS} {st : ρ → SS} {F : (SS → A1 → A2 → A3 → A4 → A5 → A6 → A7 → A8 → A9 → A10 → A11 → Option ρ) → SS → A1 → A2 → A3 → A4 → A5 → A6 → A7 → A8 → A9 → A10 → A11 → Option ρ} (h : ∀ rec, (∀ b0 b1 b2 b3 b4 b5 b6 b7 b8 b9 b10 b11, Fr wQ vQ q0 b0 → KC q0 (rec b0 b1 b2 b3 b4 b5 b6 b7 b8 b9 b10 b11) st) → ∀ a0 a1 a2 a3 a4 a5 a6 a7 a8 a9 a10 a11, Fr wQ vQ q0 a0 → KC q0 (F rec a0 a1 a2 a3 a4 a5 a6 a7 a8 a9 a10 a11) st) : ∀ n a0 a1 a2 a3 a4 a5 a6 a7 a8 a9 a10 a11, Fr wQ vQ q0 a0 → KC q0 (fx12 F n a0 a1 a2 a3 a4 a5 a6 a7 a8 a9 a10 a11) st
  | 0, _, _, _, _, _, _, _, _, _, _, _, _, _ => KC_none
  | n + 1, a0, a1, a2, a3, a4, a5, a6, a7, a8, a9, a10, a11, e => h _ (fun b0 b1 b2 b3 b4 b5 b6 b7 b8 b9 b10 b11 e => KC_fx12 h n b0 b1 b2 b3 b4 b5 b6 b7 b8 b9 b10 b11 e) a0 a1 a2 a3 a4 a5 a6 a7 a8 a9 a10 a11 e
def MC (q y : SS) : Prop := (∀ k, 60 ≤ k → y.1 k = q.1 k) ∧ ∀ k, 60 ≤ k → y.2 k = q.2 k
theorem bl60 {k : Nat} (h : 60 ≤ k) : Nat.blt k 60 = false := by
  cases g : Nat.blt k 60 with
  | false => rfl
  | true => exact absurd (Nat.le_of_ble_eq_true g) (by omega)
theorem MC_of {q y : SS} (f : Fr wQ vQ q y) : MC q y := ⟨fun k hk => Fr_r f (fun _ => bl60 hk), fun k hk => f.2 k (bl60 hk)⟩

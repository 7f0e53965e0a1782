/-! ===== what leaves the law's cells alone ===== -/
def wK (k i : Nat) : Bool := !(k == 13 || k == 14 || k == 74 || k == 75 || k == 76 || k == 77 || k == 78 || (k == 12 && i == 4) || (k == 60 && i == 30))
def vK (_ : Nat) : Bool := true
def KO {ρ : Type} (q0 : SS) (o : Option ρ) (st : ρ → SS) : Prop := ∀ r, o = some r → Fr wK vK q0 (st r)
theorem KO_none {ρ : Type} {q0 : SS} {st : ρ → SS} : KO q0 none st := fun _ h => by cases h
theorem KO_some {ρ : Type} {q0 : SS} {st : ρ → SS} {r : ρ} (h : Fr wK vK q0 (st r)) : KO q0 (some r) st := fun r' e => by
  cases e
  exact h
theorem KO_i {ρ : Type} {q0 : SS} {st : ρ → SS} {c : Prop} [Decidable c] {a b : Option ρ} (h1 : KO q0 a st) (h2 : KO q0 b st) : KO q0 (if c then a else b) st := by
  by_cases h : c
  · rw [if_pos h]; exact h1
  · rw [if_neg h]; exact h2
theorem KO_ic {ρ : Type} {q0 : SS} {st : ρ → SS} {c : Prop} [Decidable c] {a b : Option ρ} (h1 : c → KO q0 a st) (h2 : KO q0 b st) : KO q0 (if c then a else b) st := by
  by_cases h : c
  · rw [if_pos h]; exact h1 h
  · rw [if_neg h]; exact h2
theorem KO_ns {ρ : Type} {q0 : SS} {st : ρ → SS} {e : SS} {f : SS → Option ρ} (h : Fr wK vK q0 e) (k : ∀ x, Fr wK vK q0 x → KO q0 (f x) st) : KO q0 (nm e f) st := k e h
theorem KO_nv {α ρ : Type} {q0 : SS} {st : ρ → SS} {e : α} {f : α → Option ρ} (k : ∀ x, KO q0 (f x) st) : KO q0 (nm e f) st := k e
theorem KO_bp {α ρ : Type} {q0 : SS} {st : ρ → SS} {o : Option α} {f : α → Option ρ} (k : ∀ x, KO q0 (f x) st) : KO q0 (o.bind f) st := by
  cases o with
  | none => exact KO_none
  | some x => exact k x
theorem KO_b {α ρ : Type} {q0 : SS} {st' : α → SS} {st : ρ → SS} {o : Option α} {f : α → Option ρ} (h : KO q0 o st') (k : ∀ x, Fr wK vK q0 (st' x) → KO q0 (f x) st) : KO q0 (o.bind f) st := by
  cases o with
  | none => exact KO_none
  | some x => exact k x (h x rfl)
theorem KO_s0 {ρ : Type} {q0 : SS} {st : ρ → SS} {x : Int32} {d : Option ρ} (h : KO q0 d st) : KO q0 (sw x [] d) st := h
theorem KO_sw {ρ : Type} {q0 : SS} {st : ρ → SS} {x : Int32} {k : Int} {o d : Option ρ} {t : List (Int × Option ρ)} (h1 : KO q0 o st) (h2 : KO q0 (sw x t d) st) : KO q0 (sw x ((k, o) :: t) d) st := by
  show KO q0 (if x.toInt = k then o else sw x t d) st
  exact KO_i h1 h2
theorem Fr_sRL {w : Nat → Nat → Bool} {v : Nat → Bool} {a b : SS} (h : Fr w v a b) {k : Nat} {f : Nat → Int64} (hk : v k = true) : Fr w v a (sRL b k f) := ⟨h.1, fun j e => by
    funext i
    rw [sRL_rd, if_neg (fun c => by rw [c, hk] at e; cases e)]
    exact congrFun (h.2 j e) i⟩
theorem wK_row {a : Int32} (c : vin a 9) {i : Nat} : wK (3 + a.toNatClampNeg) i = true := by
  have h : a.toNatClampNeg < 9 := by
    have := c.2
    have e : a.toNatClampNeg = a.toInt.toNat := rfl
    have := c.1
    omega
  generalize a.toNatClampNeg = m at h
  have : m = 0 ∨ m = 1 ∨ m = 2 ∨ m = 3 ∨ m = 4 ∨ m = 5 ∨ m = 6 ∨ m = 7 ∨ m = 8 := by omega
  rcases this with rfl | rfl | rfl | rfl | rfl | rfl | rfl | rfl | rfl <;> rfl
theorem KO_fx1 {ρ : Type} {q0 : SS} {st : ρ → SS} {F : (SS → Option ρ) → SS → Option ρ} (h : ∀ rec, (∀ b0, Fr wK vK q0 b0 → KO q0 (rec b0) st) → ∀ a0, Fr wK vK q0 a0 → KO q0 (F rec a0) st) : ∀ n a0, Fr wK vK q0 a0 → KO q0 (fx1 F n a0) st
  | 0, _, _ => KO_none
  | n + 1, a0, e => h _ (fun b0 e => KO_fx1 h n b0 e) a0 e
theorem KO_fx2 {A1 ρ : Type} {q0 : SS} {st : ρ → SS} {F : (SS → A1 → Option ρ) → SS → A1 → Option ρ} (h : ∀ rec, (∀ b0 b1, Fr wK vK q0 b0 → KO q0 (rec b0 b1) st) → ∀ a0 a1, Fr wK vK q0 a0 → KO q0 (F rec a0 a1) st) : ∀ n a0 a1, Fr wK vK q0 a0 → KO q0 (fx2 F n a0 a1) st
  | 0, _, _, _ => KO_none
  | n + 1, a0, a1, e => h _ (fun b0 b1 e => KO_fx2 h n b0 b1 e) a0 a1 e
theorem KO_fx3 {A1 A2 ρ : Type} {q0 : SS} {st : ρ → SS} {F : (SS → A1 → A2 → Option ρ) → SS → A1 → A2 → Option ρ} (h : ∀ rec, (∀ b0 b1 b2, Fr wK vK q0 b0 → KO q0 (rec b0 b1 b2) st) → ∀ a0 a1 a2, Fr wK vK q0 a0 → KO q0 (F rec a0 a1 a2) st) : ∀ n a0 a1 a2, Fr wK vK q0 a0 → KO q0 (fx3 F n a0 a1 a2) st
  | 0, _, _, _, _ => KO_none
  | n + 1, a0, a1, a2, e => h _ (fun b0 b1 b2 e => KO_fx3 h n b0 b1 b2 e) a0 a1 a2 e
theorem KO_fx4 {A1 A2 A3 ρ : Type} {q0 : SS} {st : ρ → SS} {F : (SS → A1 → A2 → A3 → Option ρ) → SS → A1 → A2 → A3 → Option ρ} (h : ∀ rec, (∀ b0 b1 b2 b3, Fr wK vK q0 b0 → KO q0 (rec b0 b1 b2 b3) st) → ∀ a0 a1 a2 a3, Fr wK vK q0 a0 → KO q0 (F rec a0 a1 a2 a3) st) : ∀ n a0 a1 a2 a3, Fr wK vK q0 a0 → KO q0 (fx4 F n a0 a1 a2 a3) st
  | 0, _, _, _, _, _ => KO_none
  | n + 1, a0, a1, a2, a3, e => h _ (fun b0 b1 b2 b3 e => KO_fx4 h n b0 b1 b2 b3 e) a0 a1 a2 a3 e
theorem KO_fx5 {A1 A2 A3 A4 ρ : Type} {q0 : SS} {st : ρ → SS} {F : (SS → A1 → A2 → A3 → A4 → Option ρ) → SS → A1 → A2 → A3 → A4 → Option ρ} (h : ∀ rec, (∀ b0 b1 b2 b3 b4, Fr wK vK q0 b0 → KO q0 (rec b0 b1 b2 b3 b4) st) → ∀ a0 a1 a2 a3 a4, Fr wK vK q0 a0 → KO q0 (F rec a0 a1 a2 a3 a4) st) : ∀ n a0 a1 a2 a3 a4, Fr wK vK q0 a0 → KO q0 (fx5 F n a0 a1 a2 a3 a4) st
  | 0, _, _, _, _, _, _ => KO_none
  | n + 1, a0, a1, a2, a3, a4, e => h _ (fun b0 b1 b2 b3 b4 e => KO_fx5 h n b0 b1 b2 b3 b4 e) a0 a1 a2 a3 a4 e
theorem KO_fx6 {A1 A2 A3 A4 A5 ρ : Type} {q0 : SS} {st : ρ → SS} {F : (SS → A1 → A2 → A3 → A4 → A5 → Option ρ) → SS → A1 → A2 → A3 → A4 → A5 → Option ρ} (h : ∀ rec, (∀ b0 b1 b2 b3 b4 b5, Fr wK vK q0 b0 → KO q0 (rec b0 b1 b2 b3 b4 b5) st) → ∀ a0 a1 a2 a3 a4 a5, Fr wK vK q0 a0 → KO q0 (F rec a0 a1 a2 a3 a4 a5) st) : ∀ n a0 a1 a2 a3 a4 a5, Fr wK vK q0 a0 → KO q0 (fx6 F n a0 a1 a2 a3 a4 a5) st
  | 0, _, _, _, _, _, _, _ => KO_none
  | n + 1, a0, a1, a2, a3, a4, a5, e => h _ (fun b0 b1 b2 b3 b4 b5 e => KO_fx6 h n b0 b1 b2 b3 b4 b5 e) a0 a1 a2 a3 a4 a5 e
theorem KO_fx7 {A1 A2 A3 A4 A5 A6 ρ : Type} {q0 : SS} {st : ρ → SS} {F : (SS → A1 → A2 → A3 → A4 → A5 → A6 → Option ρ) → SS → A1 → A2 → A3 → A4 → A5 → A6 → Option ρ} (h : ∀ rec, (∀ b0 b1 b2 b3 b4 b5 b6, Fr wK vK q0 b0 → KO q0 (rec b0 b1 b2 b3 b4 b5 b6) st) → ∀ a0 a1 a2 a3 a4 a5 a6, Fr wK vK q0 a0 → KO q0 (F rec a0 a1 a2 a3 a4 a5 a6) st) : ∀ n a0 a1 a2 a3 a4 a5 a6, Fr wK vK q0 a0 → KO q0 (fx7 F n a0 a1 a2 a3 a4 a5 a6) st
  | 0, _, _, _, _, _, _, _, _ => KO_none
  | n + 1, a0, a1, a2, a3, a4, a5, a6, e => h _ (fun b0 b1 b2 b3 b4 b5 b6 e => KO_fx7 h n b0 b1 b2 b3 b4 b5 b6 e) a0 a1 a2 a3 a4 a5 a6 e
theorem KO_fx8 {A1 A2 A3 A4 A5 A6 A7 ρ : Type} {q0 : SS} {st : ρ → SS} {F : (SS → A1 → A2 → A3 → A4 → A5 → A6 → A7 → Option ρ) → SS → A1 → A2 → A3 → A4 → A5 → A6 → A7 → Option ρ} (h : ∀ rec, (∀ b0 b1 b2 b3 b4 b5 b6 b7, Fr wK vK q0 b0 → KO q0 (rec b0 b1 b2 b3 b4 b5 b6 b7) st) → ∀ a0 a1 a2 a3 a4 a5 a6 a7, Fr wK vK q0 a0 → KO q0 (F rec a0 a1 a2 a3 a4 a5 a6 a7) st) : ∀ n a0 a1 a2 a3 a4 a5 a6 a7, Fr wK vK q0 a0 → KO q0 (fx8 F n a0 a1 a2 a3 a4 a5 a6 a7) st
  | 0, _, _, _, _, _, _, _, _, _ => KO_none
  | n + 1, a0, a1, a2, a3, a4, a5, a6, a7, e => h _ (fun b0 b1 b2 b3 b4 b5 b6 b7 e => KO_fx8 h n b0 b1 b2 b3 b4 b5 b6 b7 e) a0 a1 a2 a3 a4 a5 a6 a7 e
theorem KO_fx9 {A1 A2 A3 A4 A5 A6 A7 A8 ρ : Type} {q0 : SS} {st : ρ → SS} {F : (SS → A1 → A2 → A3 → A4 → A5 → A6 → A7 → A8 → Option ρ) → SS → A1 → A2 → A3 → A4 → A5 → A6 → A7 → A8 → Option ρ} (h : ∀ rec, (∀ b0 b1 b2 b3 b4 b5 b6 b7 b8, Fr wK vK q0 b0 → KO q0 (rec b0 b1 b2 b3 b4 b5 b6 b7 b8) st) → ∀ a0 a1 a2 a3 a4 a5 a6 a7 a8, Fr wK vK q0 a0 → KO q0 (F rec a0 a1 a2 a3 a4 a5 a6 a7 a8) st) : ∀ n a0 a1 a2 a3 a4 a5 a6 a7 a8, Fr wK vK q0 a0 → KO q0 (fx9 F n a0 a1 a2 a3 a4 a5 a6 a7 a8) st
  | 0, _, _, _, _, _, _, _, _, _, _ => KO_none
  | n + 1, a0, a1, a2, a3, a4, a5, a6, a7, a8, e => h _ (fun b0 b1 b2 b3 b4 b5 b6 b7 b8 e => KO_fx9 h n b0 b1 b2 b3 b4 b5 b6 b7 b8 e) a0 a1 a2 a3 a4 a5 a6 a7 a8 e
theorem KO_fx10 {A1 A2 A3 A4 A5 A6 A7 A8 A9 ρ : Type} {q0 : SS} {st : ρ → SS} {F : (SS → A1 → A2 → A3 → A4 → A5 → A6 → A7 → A8 → A9 → Option ρ) → SS → A1 → A2 → A3 → A4 → A5 → A6 → A7 → A8 → A9 → Option ρ} (h : ∀ rec, (∀ b0 b1 b2 b3 b4 b5 b6 b7 b8 b9, Fr wK vK q0 b0 → KO q0 (rec b0 b1 b2 b3 b4 b5 b6 b7 b8 b9) st) → ∀ a0 a1 a2 a3 a4 a5 a6 a7 a8 a9, Fr wK vK q0 a0 → KO q0 (F rec a0 a1 a2 a3 a4 a5 a6 a7 a8 a9) st) : ∀ n a0 a1 a2 a3 a4 a5 a6 a7 a8 a9, Fr wK vK q0 a0 → KO q0 (fx10 F n a0 a1 a2 a3 a4 a5 a6 a7 a8 a9) st
  | 0, _, _, _, _, _, _, _, _, _, _, _ => KO_none
  | n + 1, a0, a1, a2, a3, a4, a5, a6, a7, a8, a9, e => h _ (fun b0 b1 b2 b3 b4 b5 b6 b7 b8 b9 e => KO_fx10 h n b0 b1 b2 b3 b4 b5 b6 b7 b8 b9 e) a0 a1 a2 a3 a4 a5 a6 a7 a8 a9 e
theorem KO_fx11 {A1 A2 A3 A4 A5 A6 A7 A8 A9 A10 ρ : Type} {q0 : SS} {st : ρ → SS} {F : (SS → A1 → A2 → A3 → A4 → A5 → A6 → A7 → A8 → A9 → A10 → Option ρ) → SS → A1 → A2 → A3 → A4 → A5 → A6 → A7 → A8 → A9 → A10 → Option ρ} (h : ∀ rec, (∀ b0 b1 b2 b3 b4 b5 b6 b7 b8 b9 b10, Fr wK vK q0 b0 → KO q0 (rec b0 b1 b2 b3 b4 b5 b6 b7 b8 b9 b10) st) → ∀ a0 a1 a2 a3 a4 a5 a6 a7 a8 a9 a10, Fr wK vK q0 a0 → KO q0 (F rec a0 a1 a2 a3 a4 a5 a6 a7 a8 a9 a10) st) : ∀ n a0 a1 a2 a3 a4 a5 a6 a7 a8 a9 a10, Fr wK vK q0 a0 → KO q0 (fx11 F n a0 a1 a2 a3 a4 a5 a6 a7 a8 a9 a10) st
  | 0, _, _, _, _, _, _, _, _, _, _, _, _ => KO_none
  | n + 1, a0, a1, a2, a3, a4, a5, a6, a7, a8, a9, a10, e => h _ (fun b0 b1 b2 b3 b4 b5 b6 b7 b8 b9 b10 e => KO_fx11 h n b0 b1 b2 b3 b4 b5 b6 b7 b8 b9 b10 e) a0 a1 a2 a3 a4 a5 a6 a7 a8 a9 a10 e
theorem KO_fx12 {A1 A2 A3 A4 A5 A6 A7 A8 A9 A10 A11 ρ : Type} {q0 : SS} {st : ρ → SS} {F : (SS → A1 → A2 → A3 → A4 → A5 → A6 → A7 → A8 → A9 → A10 → A11 → Option ρ) → SS → A1 → A2 → A3 → A4 → A5 → A6 → A7 → A8 → A9 → A10 → A11 → Option ρ} (h : ∀ rec, (∀ b0 b1 b2 b3 b4 b5 b6 b7 b8 b9 b10 b11, Fr wK vK q0 b0 → KO q0 (rec b0 b1 b2 b3 b4 b5 b6 b7 b8 b9 b10 b11) st) → ∀ a0 a1 a2 a3 a4 a5 a6 a7 a8 a9 a10 a11, Fr wK vK q0 a0 → KO q0 (F rec a0 a1 a2 a3 a4 a5 a6 a7 a8 a9 a10 a11) st) : ∀ n a0 a1 a2 a3 a4 a5 a6 a7 a8 a9 a10 a11, Fr wK vK q0 a0 → KO q0 (fx12 F n a0 a1 a2 a3 a4 a5 a6 a7 a8 a9 a10 a11) st
  | 0, _, _, _, _, _, _, _, _, _, _, _, _, _ => KO_none
  | n + 1, a0, a1, a2, a3, a4, a5, a6, a7, a8, a9, a10, a11, e => h _ (fun b0 b1 b2 b3 b4 b5 b6 b7 b8 b9 b10 b11 e => KO_fx12 h n b0 b1 b2 b3 b4 b5 b6 b7 b8 b9 b10 b11 e) a0 a1 a2 a3 a4 a5 a6 a7 a8 a9 a10 a11 e

/-! ===== what leaves the law's cells alone ===== -/
def wK (k i : Nat) : Bool := !(k == 13 || k == 14 || k == 74 || k == 75 || k == 76 || k == 77 || k == 78 || (k == 12 && i == 4) || (k == 60 && i == 30))
def vK (_ : Nat) : Bool := true
def KO {ρ : Type} (q0 : SS) (o : Option ρ) (st : ρ → SS) : Prop := ∀ r, o = some r → Fr wK vK q0 (st r)
theorem KO_none {ρ : Type} {q0 : SS} {st : ρ → SS} : KO q0 none st := fun _ h => by cases h
theorem KO_some {ρ : Type} {q0 : SS} {st : ρ → SS} {r : ρ} (h : Fr wK vK q0 (st r)) : KO q0 (some r) st := fun r' e => by
  cases e
  exact h
theorem KO_i {ρ : Type} {q0 : SS} {st : ρ → SS} {c : Prop} [Decidable c] {a b : Option ρ} (h1 : KO q0 a st) (h2 : KO q0 b st) : KO q0 (if c then a else b) st := by
  by_cases h : c
  · rw [if_pos h]; exact h1
  · rw [if_neg h]; exact h2
theorem KO_ic {ρ : Type} {q0 : SS} {st : ρ → SS} {c : Prop} [Decidable c] {a b : Option ρ} (h1 : c → KO q0 a st) (h2 : KO q0 b st) : KO q0 (if c then a else b) st := by
  by_cases h : c
  · rw [if_pos h]; exact h1 h
  · rw [if_neg h]; exact h2
theorem KO_ns {ρ : Type} {q0 : SS} {st : ρ → SS} {e : SS} {f : SS → Option ρ} (h : Fr wK vK q0 e) (k : ∀ x, Fr wK vK q0 x → KO q0 (f x) st) : KO q0 (nm e f) st := k e h
theorem KO_nv {α ρ : Type} {q0 : SS} {st : ρ → SS} {e : α} {f : α → Option ρ} (k : ∀ x, KO q0 (f x) st) : KO q0 (nm e f) st := k e
theorem KO_bp {α ρ : Type} {q0 : SS} {st : ρ → SS} {o : Option α} {f : α → Option ρ} (k : ∀ x, KO q0 (f x) st) : KO q0 (o.bind f) st := by
  cases o with
  | none => exact KO_none
  | some x => exact k x
theorem KO_b {α ρ : Type} {q0 : SS} {st' : α → SS} {st : ρ → SS} {o : Option α} {f : α → Option ρ} (h : KO q0 o st') (k : ∀ x, Fr wK vK q0 (st' x) → KO q0 (f x) st) : KO q0 (o.bind f) st := by
  cases o with
  | none => exact KO_none
  | some x => exact k x (h x rfl)
theorem KO_s0 {ρ : Type} {q0 : SS} {st : ρ → SS} {x : Int32} {d : Option ρ} (h : KO q0 d st) : KO q0 (sw x [] d) st := h
theorem KO_sw {ρ : Type} {q0 : SS} {st : ρ → SS} {x : Int32} {k : Int} {o d : Option ρ} {t : List (Int × Option ρ)} (h1 : KO q0 o st) (h2 : KO q0 (sw x t d) st) : KO q0 (sw x ((k, o) :: t) d) st := by
  show KO q0 (if x.toInt = k then o else sw x t d) st
  exact KO_i h1 h2
theorem Fr_sRL {w : Nat → Nat → Bool} {v : Nat → Bool} {a b : SS} (h : Fr w v a b) {k : Nat} {f : Nat → Int64} (hk : v k = true) : Fr w v a (sRL b k f) := ⟨h.1, fun j e => by
    funext i
    rw [sRL_rd, if_neg (fun c => by rw [c, hk] at e; cases e)]
    exact congrFun (h.2 j e) i⟩
theorem wK_row {a : Int32} (c : vin a 9) {i : Nat} : wK (3 + a.toNatClampNeg) i = true := by
  have h : a.toNatClampNeg < 9 := by
    have := c.2
    have e : a.toNatClampNeg = a.toInt.toNat := rfl
    have := c.1
    omega
  generalize a.toNatClampNeg = m at h
  have : m = 0 ∨ m = 1 ∨ m = 2 ∨ m = 3 ∨ m = 4 ∨ m = 5 ∨ m = 6 ∨ m = 7 ∨ m = 8 := by omega
  rcases this with rfl | rfl | rfl | rfl | rfl | rfl | rfl | rfl | rfl <;> rfl
theorem KO_fx1 {ρ : Type} {q0 : SS} {st : ρ → SS} {F : (SS → Option ρ) → SS → Option ρ} (h : ∀ rec, (∀ b0, Fr wK vK q0 b0 → KO q0 (rec b0) st) → ∀ a0, Fr wK vK q0 a0 → KO q0 (F rec a0) st) : ∀ n a0, Fr wK vK q0 a0 → KO q0 (fx1 F n a0) st
  | 0, _, _ => KO_none
  | n + 1, a0, e => h _ (fun b0 e => KO_fx1 h n b0 e) a0 e
theorem KO_fx2 {A1 ρ : Type} {q0 : SS} {st : ρ → SS} {F : (SS → A1 → Option ρ) → SS → A1 → Option ρ} (h : ∀ rec, (∀ b0 b1, Fr wK vK q0 b0 → KO q0 (rec b0 b1) st) → ∀ a0 a1, Fr wK vK q0 a0 → KO q0 (F rec a0 a1) st) : ∀ n a0 a1, Fr wK vK q0 a0 → KO q0 (fx2 F n a0 a1) st
  | 0, _, _, _ => KO_none
  | n + 1, a0, a1, e => h _ (fun b0 b1 e => KO_fx2 h n b0 b1 e) a0 a1 e
theorem KO_fx3 {A1 A2 ρ : Type} {q0 : SS} {st : ρ → SS} {F : (SS → A1 → A2 → Option ρ) → SS → A1 → A2 → Option ρ} (h : ∀ rec, (∀ b0 b1 b2, Fr wK vK q0 b0 → KO q0 (rec b0 b1 b2) st) → ∀ a0 a1 a2, Fr wK vK q0 a0 → KO q0 (F rec a0 a1 a2) st) : ∀ n a0 a1 a2, Fr wK vK q0 a0 → KO q0 (fx3 F n a0 a1 a2) st
  | 0, _, _, _, _ => KO_none
  | n + 1, a0, a1, a2, e => h _ (fun b0 b1 b2 e => KO_fx3 h n b0 b1 b2 e) a0 a1 a2 e
theorem KO_fx4 {A1 A2 A3 ρ : Type} {q0 : SS} {st : ρ → SS} {F : (SS → A1 → A2 → A3 → Option ρ) → SS → A1 → A2 → A3 → Option ρ} (h : ∀ rec, (∀ b0 b1 b2 b3, Fr wK vK q0 b0 → KO q0 (rec b0 b1 b2 b3) st) → ∀ a0 a1 a2 a3, Fr wK vK q0 a0 → KO q0 (F rec a0 a1 a2 a3) st) : ∀ n a0 a1 a2 a3, Fr wK vK q0 a0 → KO q0 (fx4 F n a0 a1 a2 a3) st
  | 0, _, _, _, _, _ => KO_none
  | n + 1, a0, a1, a2, a3, e => h _ (fun b0 b1 b2 b3 e => KO_fx4 h n b0 b1 b2 b3 e) a0 a1 a2 a3 e
theorem KO_fx5 {A1 A2 A3 A4 ρ : Type} {q0 : SS} {st : ρ → SS} {F : (SS → A1 → A2 → A3 → A4 → Option ρ) → SS → A1 → A2 → A3 → A4 → Option ρ} (h : ∀ rec, (∀ b0 b1 b2 b3 b4, Fr wK vK q0 b0 → KO q0 (rec b0 b1 b2 b3 b4) st) → ∀ a0 a1 a2 a3 a4, Fr wK vK q0 a0 → KO q0 (F rec a0 a1 a2 a3 a4) st) : ∀ n a0 a1 a2 a3 a4, Fr wK vK q0 a0 → KO q0 (fx5 F n a0 a1 a2 a3 a4) st
  | 0, _, _, _, _, _, _ => KO_none
  | n + 1, a0, a1, a2, a3, a4, e => h _ (fun b0 b1 b2 b3 b4 e => KO_fx5 h n b0 b1 b2 b3 b4 e) a0 a1 a2 a3 a4 e
theorem KO_fx6 {A1 A2 A3 A4 A5 ρ : Type} {q0 : SS} {st : ρ → SS} {F : (SS → A1 → A2 → A3 → A4 → A5 → Option ρ) → SS → A1 → A2 → A3 → A4 → A5 → Option ρ} (h : ∀ rec, (∀ b0 b1 b2 b3 b4 b5, Fr wK vK q0 b0 → KO q0 (rec b0 b1 b2 b3 b4 b5) st) → ∀ a0 a1 a2 a3 a4 a5, Fr wK vK q0 a0 → KO q0 (F rec a0 a1 a2 a3 a4 a5) st) : ∀ n a0 a1 a2 a3 a4 a5, Fr wK vK q0 a0 → KO q0 (fx6 F n a0 a1 a2 a3 a4 a5) st
  | 0, _, _, _, _, _, _, _ => KO_none
  | n + 1, a0, a1, a2, a3, a4, a5, e => h _ (fun b0 b1 b2 b3 b4 b5 e => KO_fx6 h n b0 b1 b2 b3 b4 b5 e) a0 a1 a2 a3 a4 a5 e
theorem KO_fx7 {A1 A2 A3 A4 A5 A6 ρ : Type} {q0 : SS} {st : ρ → SS} {F : (SS → A1 → A2 → A3 → A4 → A5 → A6 → Option ρ) → SS → A1 → A2 → A3 → A4 → A5 → A6 → Option ρ} (h : ∀ rec, (∀ b0 b1 b2 b3 b4 b5 b6, Fr wK vK q0 b0 → KO q0 (rec b0 b1 b2 b3 b4 b5 b6) st) → ∀ a0 a1 a2 a3 a4 a5 a6, Fr wK vK q0 a0 → KO q0 (F rec a0 a1 a2 a3 a4 a5 a6) st) : ∀ n a0 a1 a2 a3 a4 a5 a6, Fr wK vK q0 a0 → KO q0 (fx7 F n a0 a1 a2 a3 a4 a5 a6) st
  | 0, _, _, _, _, _, _, _, _ => KO_none
  | n + 1, a0, a1, a2, a3, a4, a5, a6, e => h _ (fun b0 b1 b2 b3 b4 b5 b6 e => KO_fx7 h n b0 b1 b2 b3 b4 b5 b6 e) a0 a1 a2 a3 a4 a5 a6 e
theorem KO_fx8 {A1 A2 A3 A4 A5 A6 A7 ρ : Type} {q0 : SS} {st : ρ → SS} {F : (SS → A1 → A2 → A3 → A4 → A5 → A6 → A7 → Option ρ) → SS → A1 → A2 → A3 → A4 → A5 → A6 → A7 → Option ρ} (h : ∀ rec, (∀ b0 b1 b2 b3 b4 b5 b6 b7, Fr wK vK q0 b0 → KO q0 (rec b0 b1 b2 b3 b4 b5 b6 b7) st) → ∀ a0 a1 a2 a3 a4 a5 a6 a7, Fr wK vK q0 a0 → KO q0 (F rec a0 a1 a2 a3 a4 a5 a6 a7) st) : ∀ n a0 a1 a2 a3 a4 a5 a6 a7, Fr wK vK q0 a0 → KO q0 (fx8 F n a0 a1 a2 a3 a4 a5 a6 a7) st
  | 0, _, _, _, _, _, _, _, _, _ => KO_none
  | n + 1, a0, a1, a2, a3, a4, a5, a6, a7, e => h _ (fun b0 b1 b2 b3 b4 b5 b6 b7 e => KO_fx8 h n b0 b1 b2 b3 b4 b5 b6 b7 e) a0 a1 a2 a3 a4 a5 a6 a7 e
theorem KO_fx9 {A1 A2 A3 A4 A5 A6 A7 A8 ρ : Type} {q0 : SS} {st : ρ → SS} {F : (SS → A1 → A2 → A3 → A4 → A5 → A6 → A7 → A8 → Option ρ) → SS → A1 → A2 → A3 → A4 → A5 → A6 → A7 → A8 → Option ρ} (h : ∀ rec, (∀ b0 b1 b2 b3 b4 b5 b6 b7 b8, Fr wK vK q0 b0 → KO q0 (rec b0 b1 b2 b3 b4 b5 b6 b7 b8) st) → ∀ a0 a1 a2 a3 a4 a5 a6 a7 a8, Fr wK vK q0 a0 → KO q0 (F rec a0 a1 a2 a3 a4 a5 a6 a7 a8) st) : ∀ n a0 a1 a2 a3 a4 a5 a6 a7 a8, Fr wK vK q0 a0 → KO q0 (fx9 F n a0 a1 a2 a3 a4 a5 a6 a7 a8) st
  | 0, _, _, _, _, _, _, _, _, _, _ => KO_none
  | n + 1, a0, a1, a2, a3, a4, a5, a6, a7, a8, e => h _ (fun b0 b1 b2 b3 b4 b5 b6 b7 b8 e => KO_fx9 h n b0 b1 b2 b3 b4 b5 b6 b7 b8 e) a0 a1 a2 a3 a4 a5 a6 a7 a8 e
theorem KO_fx10 {A1 A2 A3 A4 A5 A6 A7 A8 A9 ρ : Type} {q0 : SS} {st : ρ → SS} {F : (SS → A1 → A2 → A3 → A4 → A5 → A6 → A7 → A8 → A9 → Option ρ) → SS → A1 → A2 → A3 → A4 → A5 → A6 → A7 → A8 → A9 → Option ρ} (h : ∀ rec, (∀ b0 b1 b2 b3 b4 b5 b6 b7 b8 b9, Fr wK vK q0 b0 → KO q0 (rec b0 b1 b2 b3 b4 b5 b6 b7 b8 b9) st) → ∀ a0 a1 a2 a3 a4 a5 a6 a7 a8 a9, Fr wK vK q0 a0 → KO q0 (F rec a0 a1 a2 a3 a4 a5 a6 a7 a8 a9) st) : ∀ n a0 a1 a2 a3 a4 a5 a6 a7 a8 a9, Fr wK vK q0 a0 → KO q0 (fx10 F n a0 a1 a2 a3 a4 a5 a6 a7 a8 a9) st
  | 0, _, _, _, _, _, _, _, _, _, _, _ => KO_none
  | n + 1, a0, a1, a2, a3, a4, a5, a6, a7, a8, a9, e => h _ (fun b0 b1 b2 b3 b4 b5 b6 b7 b8 b9 e => KO_fx10 h n b0 b1 b2 b3 b4 b5 b6 b7 b8 b9 e) a0 a1 a2 a3 a4 a5 a6 a7 a8 a9 e
theorem KO_fx11 {A1 A2 A3 A4 A5 A6 A7 A8 A9 A10 ρ : Type} {q0 : SS} {st : ρ → SS} {F : (SS → A1 → A2 → A3 → A4 → A5 → A6 → A7 → A8 → A9 → A10 → Option ρ) → SS → A1 → A2 → A3 → A4 → A5 → A6 → A7 → A8 → A9 → A10 → Option ρ} (h : ∀ rec, (∀ b0 b1 b2 b3 b4 b5 b6 b7 b8 b9 b10, Fr wK vK q0 b0 → KO q0 (rec b0 b1 b2 b3 b4 b5 b6 b7 b8 b9 b10) st) → ∀ a0 a1 a2 a3 a4 a5 a6 a7 a8 a9 a10, Fr wK vK q0 a0 → KO q0 (F rec a0 a1 a2 a3 a4 a5 a6 a7 a8 a9 a10) st) : ∀ n a0 a1 a2 a3 a4 a5 a6 a7 a8 a9 a10, Fr wK vK q0 a0 → KO q0 (fx11 F n a0 a1 a2 a3 a4 a5 a6 a7 a8 a9 a10) st
  | 0, _, _, _, _, _, _, _, _, _, _, _, _ => KO_none
  | n + 1, a0, a1, a2, a3, a4, a5, a6, a7, a8, a9, a10, e => h _ (fun b0 b1 b2 b3 b4 b5 b6 b7 b8 b9 b10 e => KO_fx11 h n b0 b1 b2 b3 b4 b5 b6 b7 b8 b9 b10 e) a0 a1 a2 a3 a4 a5 a6 a7 a8 a9 a10 e
theorem KO_fx12 {A1 A2 A3 A4 A5 A6 A7 A8 A9 A10 A11 ρ : Type} {q0 : SS} {st : ρ → SS} {F : (SS → A1 → A2 → A3 → A4 → A5 → A6 → A7 → A8 → A9 → A10 → A11 → Option ρ) → SS → A1 → A2 → A3 → A4 → A5 → A6 → A7 → A8 → A9 → A10 → A11 → Option ρ} (h : ∀ rec, (∀ b0 b1 b2 b3 b4 b5 b6 b7 b8 b9 b10 b11, Fr wK vK q0 b0 → KO q0 (rec b0 b1 b2 b3 b4 b5 b6 b7 b8 b9 b10 b11) st) → ∀ a0 a1 a2 a3 a4 a5 a6 a7 a8 a9 a10 a11, Fr wK vK q0 a0 → KO q0 (F rec a0 a1 a2 a3 a4 a5 a6 a7 a8 a9 a10 a11) st) : ∀ n a0 a1 a2 a3 a4 a5 a6 a7 a8 a9 a10 a11, Fr wK vK q0 a0 → KO q0 (fx12 F n a0 a1 a2 a3 a4 a5 a6 a7 a8 a9 a10 a11) st
  | 0, _, _, _, _, _, _, _, _, _, _, _, _, _ => KO_none
  | n + 1, a0, a1, a2, a3, a4, a5, a6, a7, a8, a9, a10, a11, e => h _ (fun b0 b1 b2 b3 b4 b5 b6 b7 b8 b9 b10 b11 e => KO_fx12 h n b0 b1 b2 b3 b4 b5 b6 b7 b8 b9 b10 b11 e) a0 a1 a2 a3 a4 a5 a6 a7 a8 a9 a10 a11 e
theorem k_f_X7_copy (q0 : SS) (q : SS) (a1 : Int32) (a2 : Int32) (a3 : Int32) (a4 : Int32) (a5 : Int32) (h : Fr wK vK q0 q) : KO q0 (f_X7_copy q a1 a2 a3 a4 a5) (fun r => r) := by
  unfold f_X7_copy
  exact (KO_bp (fun r1 => (KO_i (KO_some h) (KO_bp (fun r2 => (KO_i (KO_some h) (KO_bp (fun r3 => (KO_i (KO_some h) (KO_bp (fun r4 => (KO_i (KO_some h) (KO_ic (fun c0 => (KO_ic (fun c1 => (KO_i (KO_ns (Fr_sRL h rfl) (fun q7 h_q7 => (KO_some h_q7))) KO_none)) KO_none)) KO_none)))))))))))))
theorem k_f_X11_shift (q0 : SS) (q : SS) (a1 : Int32) (a2 : Int32) (a3 : Int32) (a4 : Int32) (a5 : Int32) (h : Fr wK vK q0 q) : KO q0 (f_X11_shift q a1 a2 a3 a4 a5) (fun r => r.2) := by
  unfold f_X11_shift
  exact (KO_bp (fun r1 => (KO_i (KO_i (KO_some h) (KO_bp (fun r2 => (KO_i (KO_some h) (KO_bp (fun r3 => (KO_i (KO_some h) (KO_b (k_f_X7_copy q0 q a1 a2 a3 a4 a5 h) (fun r4 h_r4 => (KO_some h_r4)))))))))) (KO_some h))))
theorem k_b_X12_shift_150 (q0 : SS)  (x0 : SS) (x1 : Int32) (x2 : Int32) (x3 : Int32) (x4 : Int32) (h : Fr wK vK q0 x0) : KO q0 (b_X12_shift_150 x0 x1 x2 x3 x4) (fun r => r.2) := by
  unfold b_X12_shift_150
  refine KO_fx5 (fun rec_150 h_rec_150 q l3 l4 l5 l6 h => ?_) FU x0 x1 x2 x3 x4 h
  exact (KO_i (KO_some h) (KO_ic (fun c0 => (KO_i (KO_ns (Fr_sL h rfl) (fun q3 h_q3 => (h_rec_150 q3 l3 l4 l5 (l6 + (1 : Int32)) h_q3))) KO_none)) KO_none))
theorem k_b_X12_shift_113 (q0 : SS)  (x0 : SS) (x1 : Int32) (x2 : Int32) (x3 : Int32) (x4 : Int32) (x5 : Int32) (x6 : Int32) (h : Fr wK vK q0 x0) : KO q0 (b_X12_shift_113 x0 x1 x2 x3 x4 x5 x6) (fun r => r.2) := by
  unfold b_X12_shift_113
  refine KO_fx7 (fun rec_113 h_rec_113 q l1 l2 l3 l4 l5 l6 h => ?_) FU x0 x1 x2 x3 x4 x5 x6 h
  exact (KO_i (k_b_X12_shift_150 q0 q l3 l4 l5 (0 : Int32) h) (KO_i (KO_ic (fun c0 => (KO_ns (Fr_sL h rfl) (fun q5 h_q5 => (h_rec_113 q5 l1 l2 l3 l4 l5 (l6 + (1 : Int32)) h_q5)))) KO_none) KO_none))
theorem k_f_X12_shift (q0 : SS) (q : SS) (a1 : Int32) (a2 : Int32) (a3 : Int32) (a4 : Int32) (a5 : Int32) (h : Fr wK vK q0 q) : KO q0 (f_X12_shift q a1 a2 a3 a4 a5) (fun r => r.2) := by
  unfold f_X12_shift
  exact (KO_bp (fun r1 => (KO_i (KO_some h) (KO_bp (fun r2 => (KO_i (KO_some h) (KO_ic (fun c0 => (KO_i (KO_some h) (KO_ic (fun c1 => (KO_i (KO_some h) (KO_ic (fun c2 => (KO_i (KO_some h) (KO_ic (fun c3 => (KO_ic (fun c4 => (KO_i (KO_i (KO_some h) (KO_i (KO_some h) (KO_i (KO_some h) (KO_ic (fun c5 => (KO_i (KO_some h) (KO_ic (fun c6 => (KO_i (k_b_X12_shift_113 q0 q a1 a2 a3 a4 a5 (0 : Int32) h) (KO_some h))) KO_none))) KO_none)))) (KO_some h))) KO_none)) KO_none))) KO_none))) KO_none))) KO_none)))))))
theorem k_f_X7_set (q0 : SS) (q : SS) (a1 : Int32) (a2 : Int32) (a3 : Int64) (h : Fr wK vK q0 q) : KO q0 (f_X7_set q a1 a2 a3) (fun r => r) := by
  unfold f_X7_set
  exact (KO_bp (fun r1 => (KO_i (KO_some h) (KO_bp (fun r2 => (KO_i (KO_some h) (KO_ic (fun c0 => (KO_ic (fun c1 => (KO_bp (fun r4 => (KO_ic (fun c2 => (KO_ns (Fr_sL h rfl) (fun q5 h_q5 => (KO_some h_q5)))) KO_none)))) KO_none)) KO_none)))))))
theorem k_f_X11_put (q0 : SS) (q : SS) (a1 : Int32) (a2 : Int32) (a3 : Int64) (h : Fr wK vK q0 q) : KO q0 (f_X11_put q a1 a2 a3) (fun r => r.2) := by
  unfold f_X11_put
  exact (KO_bp (fun r1 => (KO_i (KO_b (k_f_X7_set q0 q a1 a2 a3 h) (fun r2 h_r2 => (KO_some h_r2))) (KO_some h))))
theorem k_b_X12_put_95 (q0 : SS) (q : SS) (s0 : Int64) (s1 : Int32) (h : Fr wK vK q0 q) : KO q0 (b_X12_put_95 q s0 s1) (fun r => r.2) := by
  unfold b_X12_put_95
  exact (KO_ic (fun c0 => (KO_ns (Fr_sL h rfl) (fun q3 h_q3 => (KO_some h_q3)))) KO_none)
theorem k_f_X12_put (q0 : SS) (q : SS) (a1 : Int32) (a2 : Int32) (a3 : Int64) (h : Fr wK vK q0 q) : KO q0 (f_X12_put q a1 a2 a3) (fun r => r.2) := by
  unfold f_X12_put
  exact (KO_bp (fun r1 => (KO_i (KO_ic (fun c0 => (KO_nv (fun v2 => (KO_i (k_b_X12_put_95 q0 q (((a3.toInt32).toInt8.toInt32).toInt64) (((60 : Int32) * a1) + a2) h) (KO_i (k_b_X12_put_95 q0 q (((a3.toInt32).toInt16.toInt32).toInt64) (((60 : Int32) * a1) + a2) h) (KO_i (k_b_X12_put_95 q0 q ((a3.toInt32).toInt64) (((60 : Int32) * a1) + a2) h) (KO_i (k_b_X12_put_95 q0 q a3 (((60 : Int32) * a1) + a2) h) (KO_i (k_b_X12_put_95 q0 q (0 : Int64) (((60 : Int32) * a1) + a2) h) (k_b_X12_put_95 q0 q (1 : Int64) (((60 : Int32) * a1) + a2) h))))))))) KO_none) (KO_some h))))
theorem k_b_X7_holdRow_42 (q0 : SS)  (x0 : SS) (x1 : Int32) (x2 : Int32) (x3 : Int32) (h : Fr wK vK q0 x0) : KO q0 (b_X7_holdRow_42 x0 x1 x2 x3) (fun r => r) := by
  unfold b_X7_holdRow_42
  refine KO_fx4 (fun rec_42 h_rec_42 q l1 l3 l4 h => ?_) FU x0 x1 x2 x3 h
  exact (KO_i (KO_some h) (KO_ic (fun c0 => (KO_ic (fun c1 => (KO_ns (Fr_sL h rfl) (fun q6 h_q6 => (h_rec_42 q6 l1 l3 (l4 + (1 : Int32)) h_q6)))) KO_none)) KO_none))
theorem k_f_X7_holdRow (q0 : SS) (q : SS) (a1 : Int32) (a2 : Int32) (a3 : Int32) (h : Fr wK vK q0 q) : KO q0 (f_X7_holdRow q a1 a2 a3) (fun r => r) := by
  unfold f_X7_holdRow
  exact (KO_bp (fun r1 => (KO_i (KO_some h) (KO_bp (fun r2 => (KO_i (KO_some h) (KO_i (KO_some h) (KO_i (KO_some h) (KO_ic (fun c0 => (KO_ns (Fr_sI h rfl) (fun q3 h_q3 => (KO_ic (fun c1 => (KO_ns (Fr_sI h_q3 rfl) (fun q4 h_q4 => (k_b_X7_holdRow_42 q0 q4 a1 a3 (0 : Int32) h_q4)))) KO_none)))) KO_none)))))))))
theorem k_f_X11_row (q0 : SS) (q : SS) (a1 : Int32) (a2 : Int32) (a3 : Int32) (h : Fr wK vK q0 q) : KO q0 (f_X11_row q a1 a2 a3) (fun r => r.2) := by
  unfold f_X11_row
  exact (KO_bp (fun r1 => (KO_i (KO_some h) (KO_bp (fun r2 => (KO_i (KO_some h) (KO_i (KO_i (KO_b (k_f_X7_holdRow q0 q a1 a2 a3 h) (fun r3 h_r3 => (KO_some h_r3))) (KO_some h)) (KO_some h))))))))
theorem k_b_X12_row_54 (q0 : SS)  (x0 : SS) (x1 : Int32) (x2 : Int32) (h : Fr wK vK q0 x0) : KO q0 (b_X12_row_54 x0 x1 x2) (fun r => r.2) := by
  unfold b_X12_row_54
  refine KO_fx3 (fun rec_54 h_rec_54 q l1 l4 h => ?_) FU x0 x1 x2 h
  exact (KO_i (KO_some h) (KO_ic (fun c0 => (KO_ns (Fr_sL h rfl) (fun q6 h_q6 => (h_rec_54 q6 l1 (l4 + (1 : Int32)) h_q6)))) KO_none))
theorem k_f_X12_row (q0 : SS) (q : SS) (a1 : Int32) (a2 : Int32) (a3 : Int32) (h : Fr wK vK q0 q) : KO q0 (f_X12_row q a1 a2 a3) (fun r => r.2) := by
  unfold f_X12_row
  exact (KO_bp (fun r1 => (KO_i (KO_some h) (KO_bp (fun r2 => (KO_i (KO_some h) (KO_i (KO_i (KO_ic (fun c0 => (KO_ns (Fr_sI h rfl) (fun q3 h_q3 => (KO_ic (fun c1 => (KO_ns (Fr_sI h_q3 rfl) (fun q4 h_q4 => (KO_nv (fun v5 => (k_b_X12_row_54 q0 q4 a1 v5 h_q4)))))) KO_none)))) KO_none) (KO_some h)) (KO_some h))))))))
theorem k_f_X7_clear (q0 : SS) (q : SS) (a1 : Int32) (h : Fr wK vK q0 q) : KO q0 (f_X7_clear q a1) (fun r => r) := by
  unfold f_X7_clear
  exact (KO_bp (fun r1 => (KO_i (KO_some h) (KO_ic (fun c0 => (KO_ns (Fr_sI h rfl) (fun q2 h_q2 => (KO_some h_q2)))) KO_none))))
theorem k_f_X7_holdBody (q0 : SS) (q : SS) (a1 : Int32) (a2 : Int32) (h : Fr wK vK q0 q) : KO q0 (f_X7_holdBody q a1 a2) (fun r => r) := by
  unfold f_X7_holdBody
  exact (KO_bp (fun r1 => (KO_i (KO_some h) (KO_ic (fun c0 => (KO_ns (Fr_sI h rfl) (fun q2 h_q2 => (KO_ic (fun c1 => (KO_ns (Fr_sI h_q2 rfl) (fun q3 h_q3 => (KO_some h_q3)))) KO_none)))) KO_none))))
theorem k_b_X11_keep_29 (q0 : SS) (q : SS) (l1 : Int32) (l2 : Int32) (h : Fr wK vK q0 q) : KO q0 (b_X11_keep_29 q l1 l2) (fun r => r.2) := by
  unfold b_X11_keep_29
  exact (KO_i (KO_b (k_f_X7_clear q0 q l1 h) (fun r2 h_r2 => (KO_some h_r2))) (KO_b (k_f_X7_holdBody q0 q l1 l2 h) (fun r3 h_r3 => (KO_some h_r3))))
theorem k_f_X11_keep (q0 : SS) (q : SS) (a1 : Int32) (a2 : Int32) (h : Fr wK vK q0 q) : KO q0 (f_X11_keep q a1 a2) (fun r => r.2) := by
  unfold f_X11_keep
  exact (KO_bp (fun r1 => (KO_i (KO_some h) (KO_i (k_b_X11_keep_29 q0 q a1 a2 h) (KO_bp (fun r5 => (KO_i (KO_some h) (k_b_X11_keep_29 q0 q a1 a2 h))))))))
theorem k_b_X12_keep_22 (q0 : SS) (q : SS) (l1 : Int32) (l2 : Int32) (h : Fr wK vK q0 q) : KO q0 (b_X12_keep_22 q l1 l2) (fun r => r.2) := by
  unfold b_X12_keep_22
  exact (KO_ic (fun c0 => (KO_ns (Fr_sI h rfl) (fun q2 h_q2 => (KO_some h_q2)))) KO_none)
theorem k_f_X12_keep (q0 : SS) (q : SS) (a1 : Int32) (a2 : Int32) (h : Fr wK vK q0 q) : KO q0 (f_X12_keep q a1 a2) (fun r => r.2) := by
  unfold f_X12_keep
  exact (KO_bp (fun r1 => (KO_i (KO_some h) (KO_i (k_b_X12_keep_22 q0 q a1 a2 h) (KO_bp (fun r3 => (KO_i (KO_some h) (k_b_X12_keep_22 q0 q a1 a2 h))))))))
theorem k_b_X3_noteBody_19 (q0 : SS) (q : SS) (h : Fr wK vK q0 q) : KO q0 (b_X3_noteBody_19 q) (fun r => r) := by
  unfold b_X3_noteBody_19
  exact (KO_ns (Fr_sI h rfl) (fun q1 h_q1 => (KO_some h_q1)))
theorem k_f_X3_noteBody (q0 : SS) (q : SS) (a1 : Int32) (h : Fr wK vK q0 q) : KO q0 (f_X3_noteBody q a1) (fun r => r) := by
  unfold f_X3_noteBody
  exact (KO_i (k_b_X3_noteBody_19 q0 q h) (KO_i (KO_ns (Fr_sI h rfl) (fun q2 h_q2 => (k_b_X3_noteBody_19 q0 q2 h_q2))) KO_none))
def KG_X3_perform (q0 : SS) (r : GT_X3_perform) : Prop := (∀ (a0 : SS) (a1 : Int32) (a2 : Int32) (a3 : Int32) (a4 : Int32), Fr wK vK q0 a0 → KO q0 (r a0 a1 a2 a3 a4) (fun r => r.2))
theorem k_fb_X3_perform (q0 : SS) (r : GT_X3_perform) (hr : KG_X3_perform q0 r) (q : SS) (a1 : Int32) (a2 : Int32) (a3 : Int32) (a4 : Int32) (h : Fr wK vK q0 q) : KO q0 (fb_X3_perform r q a1 a2 a3 a4) (fun r => r.2) := by
  unfold fb_X3_perform
  exact (KO_bp (fun r1 => (KO_i (KO_some h) (KO_i (KO_i (KO_nv (fun v2 => (KO_bp (fun r3 => (KO_ic (fun c0 => (KO_nv (fun v4 => (KO_nv (fun v5 => (KO_b (k_f_X3_noteBody q0 q v2 h) (fun r6 h_r6 => (KO_sw (KO_some h_r6) (KO_sw (KO_b (hr r6 r3 (1 : Int32) a3 v5 h_r6) (fun r9 h_r9 => (KO_b (hr r9.2 r3 (2 : Int32) (1 : Int32) v5 h_r9) (fun r10 h_r10 => (KO_some h_r10))))) (KO_sw (KO_b (hr r6 r3 (0 : Int32) a3 v5 h_r6) (fun r12 h_r12 => (KO_some h_r12))) (KO_sw (KO_some h_r6) (KO_sw (KO_b (hr r6 v4 (0 : Int32) a3 v5 h_r6) (fun r15 h_r15 => (KO_some h_r15))) (KO_sw (KO_b (hr r6 v4 (1 : Int32) a3 v5 h_r6) (fun r17 h_r17 => (KO_some h_r17))) (KO_sw (KO_b (hr r6 v4 (2 : Int32) a3 v5 h_r6) (fun r19 h_r19 => (KO_some h_r19))) (KO_sw (KO_b (hr r6 v4 (1 : Int32) (a3 + (1 : Int32)) v5 h_r6) (fun r21 h_r21 => (KO_some h_r21))) (KO_sw (KO_b (hr r6 v4 (3 : Int32) a3 v5 h_r6) (fun r23 h_r23 => (KO_some h_r23))) (KO_sw (KO_b (hr r6 v4 (2 : Int32) a3 v5 h_r6) (fun r25 h_r25 => (KO_b (hr r25.2 r3 (0 : Int32) (2 : Int32) v5 h_r25) (fun r26 h_r26 => (KO_some h_r26))))) (KO_sw (KO_b (hr r6 v4 (3 : Int32) a3 v5 h_r6) (fun r28 h_r28 => (KO_some h_r28))) (KO_sw (KO_b (hr r6 v4 (0 : Int32) a3 v5 h_r6) (fun r30 h_r30 => (KO_some h_r30))) (KO_sw (KO_b (hr r6 v4 (1 : Int32) a3 v5 h_r6) (fun r32 h_r32 => (KO_b (hr r32.2 r3 (2 : Int32) (2 : Int32) v5 h_r32) (fun r33 h_r33 => (KO_some h_r33))))) (KO_sw (KO_b (hr r6 v4 (0 : Int32) a3 v5 h_r6) (fun r35 h_r35 => (KO_some h_r35))) (KO_s0 (KO_some h_r6))))))))))))))))))))))) KO_none))))) KO_none) (KO_some h)))))
theorem kg_X3_perform (q0 : SS) : ∀ n, KG_X3_perform q0 (g_X3_perform n)
  | 0 => (fun _ _ _ _ _ _ => KO_none)
  | n + 1 => (fun a0 a1 a2 a3 a4 h => k_fb_X3_perform q0 (g_X3_perform n) (kg_X3_perform q0 n) a0 a1 a2 a3 a4 h)
theorem k_f_X3_perform (q0 : SS) (x0 : SS) (x1 : Int32) (x2 : Int32) (x3 : Int32) (x4 : Int32) (h : Fr wK vK q0 x0) : KO q0 (f_X3_perform x0 x1 x2 x3 x4) (fun r => r.2) := kg_X3_perform q0 60 x0 x1 x2 x3 x4 h
theorem k_f_X3_begin (q0 : SS) (q : SS) (a1 : Int32) (a2 : Int32) (a3 : Int32) (h : Fr wK vK q0 q) : KO q0 (f_X3_begin q a1 a2 a3) (fun r => r.2) := by
  unfold f_X3_begin
  exact (KO_ns (Fr_sI h rfl) (fun q1 h_q1 => (KO_bp (fun r2 => (KO_i (KO_some h_q1) (KO_i (KO_some h_q1) (KO_i (KO_ns (Fr_sI h_q1 rfl) (fun q3 h_q3 => (KO_bp (fun r4 => (KO_b (k_f_X3_perform q0 q3 r4 a2 a3 (0 : Int32) h_q3) (fun r5 h_r5 => (KO_some h_r5))))))) (KO_some h_q1))))))))
theorem k_f_X11_act (q0 : SS) (q : SS) (a1 : Int32) (a2 : Int32) (a3 : Int32) (h : Fr wK vK q0 q) : KO q0 (f_X11_act q a1 a2 a3) (fun r => r.2) := by
  unfold f_X11_act
  exact (KO_b (k_f_X3_begin q0 q a1 a2 a3 h) (fun r1 h_r1 => (KO_some h_r1)))
theorem k_b_X12_ran_19 (q0 : SS) (q : SS) (h : Fr wK vK q0 q) : KO q0 (b_X12_ran_19 q) (fun r => r) := by
  unfold b_X12_ran_19
  exact (KO_ns (Fr_sI h rfl) (fun q1 h_q1 => (KO_some h_q1)))
theorem k_f_X12_ran (q0 : SS) (q : SS) (a1 : Int32) (h : Fr wK vK q0 q) : KO q0 (f_X12_ran q a1) (fun r => r) := by
  unfold f_X12_ran
  exact (KO_i (k_b_X12_ran_19 q0 q h) (KO_i (KO_ns (Fr_sI h rfl) (fun q2 h_q2 => (k_b_X12_ran_19 q0 q2 h_q2))) KO_none))
theorem k_f_X12_plainSlips (q0 : SS) (q : SS) (a1 : Int32) (a2 : Int32) (h : Fr wK vK q0 q) : KO q0 (f_X12_plainSlips q a1 a2) (fun r => r.2) := by
  unfold f_X12_plainSlips
  exact (KO_b (k_f_X12_ran q0 q (1 : Int32) h) (fun r1 h_r1 => (KO_some h_r1)))
theorem k_f_X12_wiseSlips (q0 : SS) (q : SS) (a1 : Int32) (a2 : Int32) (h : Fr wK vK q0 q) : KO q0 (f_X12_wiseSlips q a1 a2) (fun r => r.2) := by
  unfold f_X12_wiseSlips
  exact (KO_b (k_f_X12_ran q0 q (70 : Int32) h) (fun r1 h_r1 => (KO_b (k_f_X12_plainSlips q0 r1 a1 a2 h_r1) (fun r2 h_r2 => (KO_some h_r2)))))
theorem k_f_X12_slipping (q0 : SS) (q : SS) (a1 : Int32) (a2 : Int32) (h : Fr wK vK q0 q) : KO q0 (f_X12_slipping q a1 a2) (fun r => r.2) := by
  unfold f_X12_slipping
  exact (KO_ic (fun c0 => (KO_bp (fun r1 => (KO_i (KO_ic (fun c1 => (KO_i (KO_b (k_f_X12_ran q0 q (81 : Int32) h) (fun r2 h_r2 => (KO_b (k_f_X12_wiseSlips q0 r2 a1 a2 h_r2) (fun r3 h_r3 => (KO_some h_r3))))) (KO_ic (fun c2 => (KO_i (KO_b (k_f_X12_wiseSlips q0 q a1 a2 h) (fun r4 h_r4 => (KO_some h_r4))) (KO_b (k_f_X12_plainSlips q0 q a1 a2 h) (fun r5 h_r5 => (KO_some h_r5))))) KO_none))) KO_none) (KO_b (k_f_X12_ran q0 q (20 : Int32) h) (fun r8 h_r8 => (KO_b (k_f_X12_plainSlips q0 r8 a1 a2 h_r8) (fun r9 h_r9 => (KO_some h_r9))))))))) KO_none)
theorem k_f_X12_plainFolds (q0 : SS) (q : SS) (a1 : Int32) (a2 : Int32) (h : Fr wK vK q0 q) : KO q0 (f_X12_plainFolds q a1 a2) (fun r => r.2) := by
  unfold f_X12_plainFolds
  exact (KO_b (k_f_X12_ran q0 q (10 : Int32) h) (fun r1 h_r1 => (KO_b (k_f_X12_slipping q0 r1 a1 a2 h_r1) (fun r2 h_r2 => (KO_some h_r2)))))
theorem k_f_X12_brideFolds (q0 : SS) (q : SS) (a1 : Int32) (a2 : Int32) (h : Fr wK vK q0 q) : KO q0 (f_X12_brideFolds q a1 a2) (fun r => r.2) := by
  unfold f_X12_brideFolds
  exact (KO_b (k_f_X12_ran q0 q (30 : Int32) h) (fun r1 h_r1 => (KO_b (k_f_X12_plainFolds q0 r1 a1 a2 h_r1) (fun r2 h_r2 => (KO_some h_r2)))))
theorem k_f_X12_plainProves (q0 : SS) (q : SS) (a1 : Int32) (a2 : Int32) (h : Fr wK vK q0 q) : KO q0 (f_X12_plainProves q a1 a2) (fun r => r.2) := by
  unfold f_X12_plainProves
  exact (KO_b (k_f_X12_ran q0 q (11 : Int32) h) (fun r1 h_r1 => (KO_some h_r1)))
theorem k_f_X12_childProves (q0 : SS) (q : SS) (a1 : Int32) (a2 : Int32) (h : Fr wK vK q0 q) : KO q0 (f_X12_childProves q a1 a2) (fun r => r.2) := by
  unfold f_X12_childProves
  exact (KO_b (k_f_X12_ran q0 q (40 : Int32) h) (fun r1 h_r1 => (KO_b (k_f_X12_plainProves q0 r1 a1 a2 h_r1) (fun r2 h_r2 => (KO_some h_r2)))))
theorem k_f_X12_proving (q0 : SS) (q : SS) (a1 : Int32) (a2 : Int32) (h : Fr wK vK q0 q) : KO q0 (f_X12_proving q a1 a2) (fun r => r.2) := by
  unfold f_X12_proving
  exact (KO_ic (fun c0 => (KO_i (KO_b (k_f_X12_ran q0 q (60 : Int32) h) (fun r1 h_r1 => (KO_b (k_f_X12_childProves q0 r1 a1 a2 h_r1) (fun r2 h_r2 => (KO_b (k_f_X12_slipping q0 r2.2 a1 (2 : Int32) h_r2) (fun r3 h_r3 => (KO_some h_r3))))))) (KO_ic (fun c1 => (KO_i (KO_b (k_f_X12_childProves q0 q a1 a2 h) (fun r4 h_r4 => (KO_some h_r4))) (KO_b (k_f_X12_plainProves q0 q a1 a2 h) (fun r5 h_r5 => (KO_some h_r5))))) KO_none))) KO_none)
theorem k_f_X12_folding (q0 : SS) (q : SS) (a1 : Int32) (a2 : Int32) (h : Fr wK vK q0 q) : KO q0 (f_X12_folding q a1 a2) (fun r => r.2) := by
  unfold f_X12_folding
  exact (KO_ic (fun c0 => (KO_bp (fun r1 => (KO_i (KO_ic (fun c1 => (KO_i (KO_b (k_f_X12_ran q0 q (80 : Int32) h) (fun r2 h_r2 => (KO_b (k_f_X12_plainFolds q0 r2 a1 a2 h_r2) (fun r3 h_r3 => (KO_b (k_f_X12_proving q0 r3.2 a1 (2 : Int32) h_r3) (fun r4 h_r4 => (KO_some h_r4))))))) (KO_ic (fun c2 => (KO_i (KO_b (k_f_X12_brideFolds q0 q a1 a2 h) (fun r5 h_r5 => (KO_some h_r5))) (KO_b (k_f_X12_plainFolds q0 q a1 a2 h) (fun r6 h_r6 => (KO_some h_r6))))) KO_none))) KO_none) (KO_b (k_f_X12_ran q0 q (41 : Int32) h) (fun r9 h_r9 => (KO_b (k_f_X12_brideFolds q0 r9 a1 (a2 + (1 : Int32)) h_r9) (fun r10 h_r10 => (KO_some h_r10))))))))) KO_none)
theorem k_f_X12_plainTells (q0 : SS) (q : SS) (a1 : Int32) (a2 : Int32) (h : Fr wK vK q0 q) : KO q0 (f_X12_plainTells q a1 a2) (fun r => r.2) := by
  unfold f_X12_plainTells
  exact (KO_b (k_f_X12_ran q0 q (2 : Int32) h) (fun r1 h_r1 => (KO_b (k_f_X12_folding q0 r1 a1 a2 h_r1) (fun r2 h_r2 => (KO_b (k_f_X12_proving q0 r2.2 a1 (1 : Int32) h_r2) (fun r3 h_r3 => (KO_some h_r3)))))))
theorem k_f_X12_telling (q0 : SS) (q : SS) (a1 : Int32) (a2 : Int32) (h : Fr wK vK q0 q) : KO q0 (f_X12_telling q a1 a2) (fun r => r.2) := by
  unfold f_X12_telling
  exact (KO_ic (fun c0 => (KO_i (KO_b (k_f_X12_ran q0 q (50 : Int32) h) (fun r1 h_r1 => (KO_b (k_f_X12_plainTells q0 r1 a1 a2 h_r1) (fun r2 h_r2 => (KO_some h_r2))))) (KO_ic (fun c1 => (KO_i (KO_b (k_f_X12_ran q0 q (61 : Int32) h) (fun r3 h_r3 => (KO_b (k_f_X12_plainTells q0 r3 a1 a2 h_r3) (fun r4 h_r4 => (KO_some h_r4))))) (KO_b (k_f_X12_plainTells q0 q a1 a2 h) (fun r5 h_r5 => (KO_some h_r5))))) KO_none))) KO_none)
theorem k_f_X12_act (q0 : SS) (q : SS) (a1 : Int32) (a2 : Int32) (a3 : Int32) (h : Fr wK vK q0 q) : KO q0 (f_X12_act q a1 a2 a3) (fun r => r.2) := by
  unfold f_X12_act
  exact (KO_ns (Fr_sI h rfl) (fun q1 h_q1 => (KO_bp (fun r2 => (KO_i (KO_some h_q1) (KO_bp (fun r3 => (KO_i (KO_some h_q1) (KO_i (KO_b (k_f_X12_slipping q0 q1 a1 a3 h_q1) (fun r4 h_r4 => (KO_some h_r4))) (KO_i (KO_b (k_f_X12_folding q0 q1 a1 a3 h_q1) (fun r5 h_r5 => (KO_some h_r5))) (KO_i (KO_b (k_f_X12_proving q0 q1 a1 a3 h_q1) (fun r6 h_r6 => (KO_some h_r6))) (KO_b (k_f_X12_telling q0 q1 a1 a3 h_q1) (fun r7 h_r7 => (KO_some h_r7))))))))))))))
theorem k_f_X3_addBody (q0 : SS) (q : SS) (a1 : Int32) (h : Fr wK vK q0 q) : KO q0 (f_X3_addBody q a1) (fun r => r.2) := by
  unfold f_X3_addBody
  exact (KO_i (KO_i (KO_ns (Fr_sI h rfl) (fun q1 h_q1 => (KO_ns (Fr_sI h_q1 rfl) (fun q2 h_q2 => (KO_some h_q2))))) KO_none) (KO_some h))
theorem k_f_X11_body (q0 : SS) (q : SS) (a1 : Int32) (h : Fr wK vK q0 q) : KO q0 (f_X11_body q a1) (fun r => r.2) := by
  unfold f_X11_body
  exact (KO_bp (fun r1 => (KO_i (KO_some h) (KO_b (k_f_X3_addBody q0 q a1 h) (fun r2 h_r2 => (KO_some h_r2))))))
theorem k_f_X12_body (q0 : SS) (q : SS) (a1 : Int32) (h : Fr wK vK q0 q) : KO q0 (f_X12_body q a1) (fun r => r.2) := by
  unfold f_X12_body
  exact (KO_bp (fun r1 => (KO_i (KO_some h) (KO_i (KO_some h) (KO_i (KO_ns (Fr_sI h rfl) (fun q2 h_q2 => (KO_ns (Fr_sI h_q2 rfl) (fun q3 h_q3 => (KO_some h_q3))))) KO_none)))))
theorem k_f_X10_set (q0 : SS) (q : SS) (a1 : Int32) (a2 : Int32) (a3 : Int32) (h : Fr wK vK q0 q) : KO q0 (f_X10_set q a1 a2 a3) (fun r => r) := by
  unfold f_X10_set
  exact (KO_bp (fun r1 => (KO_i (KO_some h) (KO_ic (fun c0 => (KO_ic (fun c1 => (KO_ns (Fr_sI h (wK_row c0)) (fun q3 h_q3 => (KO_some h_q3)))) KO_none)) KO_none))))
theorem k_f_X0_redoNext (q0 : SS) (q : SS) (h : Fr wK vK q0 q) : KO q0 (f_X0_redoNext q) (fun r => r) := by
  unfold f_X0_redoNext
  exact (KO_i (KO_some h) (KO_i (KO_some h) (KO_i (KO_i (KO_i (KO_b (k_f_X10_set q0 q (q.1 53 (q.1 52 5).toNatClampNeg) (q.1 54 (q.1 52 5).toNatClampNeg) (q.1 56 (q.1 52 5).toNatClampNeg) h) (fun r1 h_r1 => (KO_ns (Fr_sI h_r1 rfl) (fun q2 h_q2 => (KO_ns (Fr_sI h_q2 rfl) (fun q3 h_q3 => (KO_some h_q3))))))) KO_none) KO_none) KO_none)))
theorem k_f_X11_redo (q0 : SS) (q : SS) (h : Fr wK vK q0 q) : KO q0 (f_X11_redo q) (fun r => r.2) := by
  unfold f_X11_redo
  exact (KO_bp (fun r1 => (KO_i (KO_some h) (KO_b (k_f_X0_redoNext q0 q h) (fun r2 h_r2 => (KO_bp (fun r3 => (KO_some h_r2))))))))
theorem k_f_X12_lays (q0 : SS) (q : SS) (a1 : Int32) (a2 : Int32) (a3 : Int32) (h : Fr wK vK q0 q) : KO q0 (f_X12_lays q a1 a2 a3) (fun r => r) := by
  unfold f_X12_lays
  exact (KO_sw (KO_ic (fun c6 => (KO_ns (Fr_sI h rfl) (fun q2 h_q2 => (KO_some h_q2)))) KO_none) (KO_sw (KO_ic (fun c5 => (KO_ns (Fr_sI h rfl) (fun q4 h_q4 => (KO_some h_q4)))) KO_none) (KO_sw (KO_ic (fun c4 => (KO_ns (Fr_sI h rfl) (fun q6 h_q6 => (KO_some h_q6)))) KO_none) (KO_sw (KO_ic (fun c3 => (KO_ns (Fr_sI h rfl) (fun q8 h_q8 => (KO_some h_q8)))) KO_none) (KO_sw (KO_ic (fun c2 => (KO_ns (Fr_sI h rfl) (fun q10 h_q10 => (KO_some h_q10)))) KO_none) (KO_sw (KO_ic (fun c1 => (KO_ns (Fr_sI h rfl) (fun q12 h_q12 => (KO_some h_q12)))) KO_none) (KO_sw (KO_ic (fun c0 => (KO_ns (Fr_sI h rfl) (fun q14 h_q14 => (KO_some h_q14)))) KO_none) (KO_s0 (KO_i (KO_ns (Fr_sI h rfl) (fun q15 h_q15 => (KO_some h_q15))) KO_none)))))))))
theorem k_f_X12_redo (q0 : SS) (q : SS) (h : Fr wK vK q0 q) : KO q0 (f_X12_redo q) (fun r => r.2) := by
  unfold f_X12_redo
  exact (KO_i (KO_some h) (KO_i (KO_i (KO_i (KO_b (k_f_X12_lays q0 q (q.1 69 (q.1 60 11).toNatClampNeg) (q.1 70 (q.1 60 11).toNatClampNeg) (q.1 72 (q.1 60 11).toNatClampNeg) h) (fun r1 h_r1 => (KO_ns (Fr_sI h_r1 rfl) (fun q2 h_q2 => (KO_ns (Fr_sI h_q2 rfl) (fun q3 h_q3 => (KO_some h_q3))))))) KO_none) KO_none) KO_none))
theorem k_f_X0_undoLatest (q0 : SS) (q : SS) (h : Fr wK vK q0 q) : KO q0 (f_X0_undoLatest q) (fun r => r) := by
  unfold f_X0_undoLatest
  exact (KO_i (KO_some h) (KO_ns (Fr_sI h rfl) (fun q1 h_q1 => (KO_ns (Fr_sI h_q1 rfl) (fun q2 h_q2 => (KO_i (KO_i (KO_i (KO_b (k_f_X10_set q0 q2 (q2.1 53 (q2.1 52 5).toNatClampNeg) (q2.1 54 (q2.1 52 5).toNatClampNeg) (q2.1 55 (q2.1 52 5).toNatClampNeg) h_q2) (fun r3 h_r3 => (KO_some h_r3))) KO_none) KO_none) KO_none))))))
theorem k_f_X11_undo (q0 : SS) (q : SS) (h : Fr wK vK q0 q) : KO q0 (f_X11_undo q) (fun r => r.2) := by
  unfold f_X11_undo
  exact (KO_bp (fun r1 => (KO_i (KO_some h) (KO_b (k_f_X0_undoLatest q0 q h) (fun r2 h_r2 => (KO_bp (fun r3 => (KO_some h_r2))))))))
theorem k_f_X12_undo (q0 : SS) (q : SS) (h : Fr wK vK q0 q) : KO q0 (f_X12_undo q) (fun r => r.2) := by
  unfold f_X12_undo
  exact (KO_i (KO_some h) (KO_ns (Fr_sI h rfl) (fun q1 h_q1 => (KO_ns (Fr_sI h_q1 rfl) (fun q2 h_q2 => (KO_i (KO_i (KO_i (KO_b (k_f_X12_lays q0 q2 (q2.1 69 (q2.1 60 11).toNatClampNeg) (q2.1 70 (q2.1 60 11).toNatClampNeg) (q2.1 71 (q2.1 60 11).toNatClampNeg) h_q2) (fun r3 h_r3 => (KO_some h_r3))) KO_none) KO_none) KO_none))))))
theorem k_b_X1_layBack_30 (q0 : SS)  (x0 : SS) (x1 : Int32) (h : Fr wK vK q0 x0) : KO q0 (b_X1_layBack_30 x0 x1) (fun r => r) := by
  unfold b_X1_layBack_30
  refine KO_fx2 (fun rec_30 h_rec_30 q l1 h => ?_) FU x0 x1 h
  exact (KO_i (KO_some h) (KO_i (KO_some h) (KO_ic (fun c0 => (KO_b (k_f_X10_set q0 q (4 : Int32) l1 (q.1 50 l1.toNatClampNeg) h) (fun r3 h_r3 => (KO_ic (fun c1 => (KO_b (k_f_X10_set q0 r3 (6 : Int32) l1 (r3.1 51 l1.toNatClampNeg) h_r3) (fun r4 h_r4 => (h_rec_30 r4 (l1 + (1 : Int32)) h_r4)))) KO_none)))) KO_none)))
theorem k_f_X1_layBack (q0 : SS) (q : SS) (h : Fr wK vK q0 q) : KO q0 (f_X1_layBack q) (fun r => r) := by
  unfold f_X1_layBack
  exact (KO_b (k_f_X10_set q0 q (7 : Int32) (0 : Int32) (q.1 47 6) h) (fun r1 h_r1 => (KO_i (KO_ns (Fr_sR h_r1 (fun _ => rfl)) (fun q2 h_q2 => (k_b_X1_layBack_30 q0 q2 (0 : Int32) h_q2))) KO_none)))
theorem k_f_X11_back (q0 : SS) (q : SS) (h : Fr wK vK q0 q) : KO q0 (f_X11_back q) (fun r => r.2) := by
  unfold f_X11_back
  exact (KO_bp (fun r1 => (KO_i (KO_some h) (KO_b (k_f_X1_layBack q0 q h) (fun r2 h_r2 => (KO_bp (fun r3 => (KO_some h_r2))))))))
theorem k_b_X12_back_62 (q0 : SS)  (x0 : SS) (x1 : Int32) (h : Fr wK vK q0 x0) : KO q0 (b_X12_back_62 x0 x1) (fun r => r.2) := by
  unfold b_X12_back_62
  refine KO_fx2 (fun rec_62 h_rec_62 q l1 h => ?_) FU x0 x1 h
  exact (KO_i (KO_i (KO_some h) KO_none) (KO_ic (fun c0 => (KO_ic (fun c1 => (KO_ns (Fr_sI h rfl) (fun q2 h_q2 => (h_rec_62 q2 (l1 + (1 : Int32)) h_q2)))) KO_none)) KO_none))
theorem k_b_X12_back_22 (q0 : SS)  (x0 : SS) (x1 : Int32) (h : Fr wK vK q0 x0) : KO q0 (b_X12_back_22 x0 x1) (fun r => r.2) := by
  unfold b_X12_back_22
  refine KO_fx2 (fun rec_22 h_rec_22 q l1 h => ?_) FU x0 x1 h
  exact (KO_i (k_b_X12_back_62 q0 q (0 : Int32) h) (KO_ic (fun c0 => (KO_ic (fun c1 => (KO_ns (Fr_sI h rfl) (fun q4 h_q4 => (KO_ic (fun c2 => (KO_ic (fun c3 => (KO_ns (Fr_sI h_q4 rfl) (fun q5 h_q5 => (h_rec_22 q5 (l1 + (1 : Int32)) h_q5)))) KO_none)) KO_none)))) KO_none)) KO_none))
theorem k_f_X12_back (q0 : SS) (q : SS) (h : Fr wK vK q0 q) : KO q0 (f_X12_back q) (fun r => r.2) := by
  unfold f_X12_back
  exact (KO_i (KO_some h) (KO_i (KO_ns (Fr_sI h rfl) (fun q1 h_q1 => (k_b_X12_back_22 q0 q1 (0 : Int32) h_q1))) KO_none))
theorem k_b_X1_keepImage_43 (q0 : SS)  (x0 : SS) (x1 : Int32) (h : Fr wK vK q0 x0) : KO q0 (b_X1_keepImage_43 x0 x1) (fun r => r) := by
  unfold b_X1_keepImage_43
  refine KO_fx2 (fun rec_43 h_rec_43 q l1 h => ?_) FU x0 x1 h
  exact (KO_i (KO_some h) (KO_i (KO_some h) (KO_bp (fun r7 => (KO_ic (fun c0 => (KO_ns (Fr_sI h rfl) (fun q8 h_q8 => (KO_bp (fun r9 => (KO_ic (fun c1 => (KO_ns (Fr_sI h_q8 rfl) (fun q10 h_q10 => (h_rec_43 q10 (l1 + (1 : Int32)) h_q10)))) KO_none)))))) KO_none)))))
theorem k_f_X1_keepImage (q0 : SS) (q : SS) (h : Fr wK vK q0 q) : KO q0 (f_X1_keepImage q) (fun r => r) := by
  unfold f_X1_keepImage
  exact (KO_ns (Fr_sI h rfl) (fun q1 h_q1 => (KO_bp (fun r2 => (KO_ns (Fr_sI h_q1 rfl) (fun q3 h_q3 => (KO_bp (fun r4 => (KO_ns (Fr_sI h_q3 rfl) (fun q5 h_q5 => (KO_i (KO_ns (Fr_sR h_q5 (fun _ => rfl)) (fun q6 h_q6 => (k_b_X1_keepImage_43 q0 q6 (0 : Int32) h_q6))) KO_none)))))))))))
theorem k_f_X11_image (q0 : SS) (q : SS) (h : Fr wK vK q0 q) : KO q0 (f_X11_image q) (fun r => r.2) := by
  unfold f_X11_image
  exact (KO_b (k_f_X1_keepImage q0 q h) (fun r1 h_r1 => (KO_bp (fun r2 => (KO_some h_r1)))))
theorem k_b_X12_image_65 (q0 : SS)  (x0 : SS) (x1 : Int32) (h : Fr wK vK q0 x0) : KO q0 (b_X12_image_65 x0 x1) (fun r => r.2) := by
  unfold b_X12_image_65
  refine KO_fx2 (fun rec_65 h_rec_65 q l1 h => ?_) FU x0 x1 h
  exact (KO_i (KO_i (KO_some h) KO_none) (KO_ic (fun c0 => (KO_ic (fun c1 => (KO_ns (Fr_sI h rfl) (fun q4 h_q4 => (h_rec_65 q4 (l1 + (1 : Int32)) h_q4)))) KO_none)) KO_none))
theorem k_b_X12_image_25 (q0 : SS)  (x0 : SS) (x1 : Int32) (h : Fr wK vK q0 x0) : KO q0 (b_X12_image_25 x0 x1) (fun r => r.2) := by
  unfold b_X12_image_25
  refine KO_fx2 (fun rec_25 h_rec_25 q l1 h => ?_) FU x0 x1 h
  exact (KO_i (k_b_X12_image_65 q0 q (0 : Int32) h) (KO_ic (fun c0 => (KO_ic (fun c1 => (KO_ns (Fr_sI h rfl) (fun q6 h_q6 => (KO_ic (fun c2 => (KO_ic (fun c3 => (KO_ns (Fr_sI h_q6 rfl) (fun q7 h_q7 => (h_rec_25 q7 (l1 + (1 : Int32)) h_q7)))) KO_none)) KO_none)))) KO_none)) KO_none))
theorem k_f_X12_image (q0 : SS) (q : SS) (h : Fr wK vK q0 q) : KO q0 (f_X12_image q) (fun r => r.2) := by
  unfold f_X12_image
  exact (KO_ns (Fr_sI h rfl) (fun q1 h_q1 => (KO_ns (Fr_sI h_q1 rfl) (fun q2 h_q2 => (KO_i (KO_ns (Fr_sI h_q2 rfl) (fun q3 h_q3 => (k_b_X12_image_25 q0 q3 (0 : Int32) h_q3))) KO_none)))))
theorem k_f_X1_note (q0 : SS) (q : SS) (a1 : Int32) (h : Fr wK vK q0 q) : KO q0 (f_X1_note q a1) (fun r => r) := by
  unfold f_X1_note
  exact (KO_i (KO_some h) (KO_i (KO_some h) (KO_ic (fun c0 => (KO_ic (fun c1 => (KO_ns (Fr_sI h rfl) (fun q1 h_q1 => (KO_some h_q1)))) KO_none)) KO_none)))
theorem k_b_X11_hour_25 (q0 : SS) (q : SS) (s0 : Int32) (h : Fr wK vK q0 q) : KO q0 (b_X11_hour_25 q s0) (fun r => r.2) := by
  unfold b_X11_hour_25
  exact (KO_b (k_f_X1_note q0 q (3 : Int32) h) (fun r3 h_r3 => (KO_b (k_f_X10_set q0 r3 (7 : Int32) (0 : Int32) s0 h_r3) (fun r4 h_r4 => (KO_some h_r4)))))
theorem k_f_X11_hour (q0 : SS) (q : SS) (h : Fr wK vK q0 q) : KO q0 (f_X11_hour q) (fun r => r.2) := by
  unfold f_X11_hour
  exact (KO_bp (fun r1 => (KO_i (KO_bp (fun r2 => (k_b_X11_hour_25 q0 q (r2 + (1 : Int32)) h))) (k_b_X11_hour_25 q0 q (0 : Int32) h))))
theorem k_b_X12_hour_28 (q0 : SS) (q : SS) (s0 : Int32) (s1 : Int32) (h : Fr wK vK q0 q) : KO q0 (b_X12_hour_28 q s0 s1) (fun r => r.2) := by
  unfold b_X12_hour_28
  exact (KO_ic (fun c0 => (KO_ns (Fr_sI h rfl) (fun q1 h_q1 => (KO_i (KO_i (KO_ns (Fr_sI h_q1 rfl) (fun q2 h_q2 => (KO_i (KO_some h_q2) KO_none))) KO_none) KO_none)))) KO_none)
theorem k_f_X12_hour (q0 : SS) (q : SS) (h : Fr wK vK q0 q) : KO q0 (f_X12_hour q) (fun r => r.2) := by
  unfold f_X12_hour
  exact (KO_i (KO_i (k_b_X12_hour_28 q0 q (0 : Int32) (0 : Int32) h) (KO_i (k_b_X12_hour_28 q0 q ((q.1 68 (0 : Int32).toNatClampNeg) + (1 : Int32)) (0 : Int32) h) KO_none)) KO_none)
theorem k_f_X11_fold (q0 : SS) (q : SS) (a1 : Int32) (h : Fr wK vK q0 q) : KO q0 (f_X11_fold q a1) (fun r => r.2) := by
  unfold f_X11_fold
  exact (KO_bp (fun r1 => (KO_i (KO_some h) (KO_bp (fun r2 => (KO_i (KO_b (k_f_X1_note q0 q (2 : Int32) h) (fun r3 h_r3 => (KO_b (k_f_X10_set q0 r3 (6 : Int32) a1 (r2 + (1 : Int32)) h_r3) (fun r4 h_r4 => (KO_some h_r4))))) (KO_some h)))))))
theorem k_f_X12_fold (q0 : SS) (q : SS) (a1 : Int32) (h : Fr wK vK q0 q) : KO q0 (f_X12_fold q a1) (fun r => r.2) := by
  unfold f_X12_fold
  exact (KO_bp (fun r1 => (KO_i (KO_some h) (KO_ic (fun c0 => (KO_i (KO_some h) (KO_ic (fun c1 => (KO_ic (fun c2 => (KO_ns (Fr_sI h rfl) (fun q2 h_q2 => (KO_i (KO_i (KO_ns (Fr_sI h_q2 rfl) (fun q3 h_q3 => (KO_ic (fun c3 => (KO_some h_q3)) KO_none))) KO_none) KO_none)))) KO_none)) KO_none))) KO_none))))
theorem k_b_X8_begin_2 (q0 : SS)  (x0 : SS) (x1 : Int32) (h : Fr wK vK q0 x0) : KO q0 (b_X8_begin_2 x0 x1) (fun r => r) := by
  unfold b_X8_begin_2
  refine KO_fx2 (fun rec_2 h_rec_2 q l1 h => ?_) FU x0 x1 h
  exact (KO_i (KO_some h) (KO_bp (fun r1 => (KO_ic (fun c0 => (KO_ns (Fr_sI h rfl) (fun q2 h_q2 => (h_rec_2 q2 (l1 + (1 : Int32)) h_q2)))) KO_none))))
theorem k_f_X8_begin (q0 : SS) (q : SS) (h : Fr wK vK q0 q) : KO q0 (f_X8_begin q) (fun r => r) := by
  unfold f_X8_begin
  exact (k_b_X8_begin_2 q0 q (0 : Int32) h)
theorem k_f_X11_now (q0 : SS) (q : SS) (h : Fr wK vK q0 q) : KO q0 (f_X11_now q) (fun r => r) := by
  unfold f_X11_now
  exact (KO_b (k_f_X8_begin q0 q h) (fun r1 h_r1 => (KO_some h_r1)))
theorem k_b_X11_slip_80 (q0 : SS) (q : SS) (l3 : Int32) (h : Fr wK vK q0 q) : KO q0 (b_X11_slip_80 q l3) (fun r => r.2) := by
  unfold b_X11_slip_80
  exact (KO_bp (fun r9 => (KO_some h)))
theorem k_f_X11_slip (q0 : SS) (q : SS) (a1 : Int32) (a2 : Int32) (h : Fr wK vK q0 q) : KO q0 (f_X11_slip q a1 a2) (fun r => r.2) := by
  unfold f_X11_slip
  exact (KO_bp (fun r1 => (KO_i (KO_some h) (KO_i (KO_some h) (KO_i (KO_nv (fun v2 => (KO_nv (fun v3 => (KO_b (k_f_X11_now q0 q h) (fun r4 h_r4 => (KO_bp (fun r5 => (KO_i (KO_some h_r4) (KO_b (k_f_X1_note q0 r4 (0 : Int32) h_r4) (fun r6 h_r6 => (KO_i (KO_b (k_f_X1_note q0 r6 (1 : Int32) h_r6) (fun r7 h_r7 => (KO_b (k_f_X10_set q0 r7 (4 : Int32) v2 v3 h_r7) (fun r8 h_r8 => (k_b_X11_slip_80 q0 r8 v2 h_r8))))) (k_b_X11_slip_80 q0 r6 v2 h_r6))))))))))))) (KO_some h))))))
theorem k_b_X12_layNow_2 (q0 : SS)  (x0 : SS) (x1 : Int32) (h : Fr wK vK q0 x0) : KO q0 (b_X12_layNow_2 x0 x1) (fun r => r) := by
  unfold b_X12_layNow_2
  refine KO_fx2 (fun rec_2 h_rec_2 q l1 h => ?_) FU x0 x1 h
  exact (KO_i (KO_i (KO_ns (Fr_sI h rfl) (fun q1 h_q1 => (KO_some h_q1))) KO_none) (KO_ic (fun c0 => (KO_ic (fun c1 => (KO_ns (Fr_sI h rfl) (fun q2 h_q2 => (h_rec_2 q2 (l1 + (1 : Int32)) h_q2)))) KO_none)) KO_none))
theorem k_f_X12_layNow (q0 : SS) (q : SS) (h : Fr wK vK q0 q) : KO q0 (f_X12_layNow q) (fun r => r) := by
  unfold f_X12_layNow
  exact (k_b_X12_layNow_2 q0 q (0 : Int32) h)
theorem k_b_X12_slip_59 (q0 : SS) (q : SS) (l1 : Int32) (l2 : Int32) (h : Fr wK vK q0 q) : KO q0 (b_X12_slip_59 q l1 l2) (fun r => r.2) := by
  unfold b_X12_slip_59
  exact (KO_i (KO_i (KO_ns (Fr_sI h rfl) (fun q6 h_q6 => (KO_i (KO_i (KO_ns (Fr_sI h_q6 rfl) (fun q7 h_q7 => (KO_i (KO_some h_q7) KO_none))) KO_none) KO_none))) KO_none) KO_none)
theorem k_f_X12_slip (q0 : SS) (q : SS) (a1 : Int32) (a2 : Int32) (h : Fr wK vK q0 q) : KO q0 (f_X12_slip q a1 a2) (fun r => r.2) := by
  unfold f_X12_slip
  exact (KO_bp (fun r1 => (KO_i (KO_some h) (KO_bp (fun r2 => (KO_i (KO_some h) (KO_b (k_f_X12_layNow q0 q h) (fun r3 h_r3 => (KO_bp (fun r4 => (KO_i (KO_some h_r3) (KO_i (KO_i (KO_ns (Fr_sI h_r3 rfl) (fun q5 h_q5 => (k_b_X12_slip_59 q0 q5 a1 a2 h_q5))) KO_none) (k_b_X12_slip_59 q0 r3 a1 a2 h_r3)))))))))))))
theorem k_f_X4_pop (q0 : SS) (q : SS) (h : Fr wK vK q0 q) : KO q0 (f_X4_pop q) (fun r => r.2) := by
  unfold f_X4_pop
  exact (KO_i (KO_some h) (KO_i (KO_ns (Fr_sI h rfl) (fun q1 h_q1 => (KO_i (KO_some h_q1) KO_none))) (KO_some h)))
theorem k_f_X4_push (q0 : SS) (q : SS) (a1 : Int32) (h : Fr wK vK q0 q) : KO q0 (f_X4_push q a1) (fun r => r) := by
  unfold f_X4_push
  exact (KO_i (KO_some h) (KO_i (KO_some h) (KO_i (KO_ns (Fr_sI h rfl) (fun q1 h_q1 => (KO_ns (Fr_sI h_q1 rfl) (fun q2 h_q2 => (KO_some h_q2))))) KO_none)))
theorem k_b_X4_doStep_44 (q0 : SS) (q : SS) (s0 : Int32) (h : Fr wK vK q0 q) : KO q0 (b_X4_doStep_44 q s0) (fun r => r) := by
  unfold b_X4_doStep_44
  exact (KO_b (k_f_X4_push q0 q s0 h) (fun r2 h_r2 => (KO_some h_r2)))
theorem k_b_X4_doStep_43 (q0 : SS) (q : SS) (h : Fr wK vK q0 q) : KO q0 (b_X4_doStep_43 q) (fun r => r) := by
  unfold b_X4_doStep_43
  exact (k_b_X4_doStep_44 q0 q (0 : Int32) h)
theorem k_b_X4_doStep_87 (q0 : SS) (q : SS) (s0 : Int32) (h : Fr wK vK q0 q) : KO q0 (b_X4_doStep_87 q s0) (fun r => r) := by
  unfold b_X4_doStep_87
  exact (KO_b (k_f_X4_push q0 q s0 h) (fun r8 h_r8 => (KO_some h_r8)))
theorem k_f_X4_doStep (q0 : SS) (q : SS) (a1 : Int32) (a2 : Int32) (h : Fr wK vK q0 q) : KO q0 (f_X4_doStep q a1 a2) (fun r => r) := by
  unfold f_X4_doStep
  exact (KO_i (KO_b (k_f_X4_push q0 q a2 h) (fun r1 h_r1 => (KO_some h_r1))) (KO_i (KO_i (k_b_X4_doStep_43 q0 q h) (KO_i (k_b_X4_doStep_43 q0 q h) (KO_ic (fun c0 => (k_b_X4_doStep_44 q0 q (q.1 16 a2.toNatClampNeg) h)) KO_none))) (KO_i (KO_b (k_f_X4_pop q0 q h) (fun r5 h_r5 => (KO_b (k_f_X4_push q0 r5.2 (-r5.1) h_r5) (fun r6 h_r6 => (KO_some h_r6))))) (KO_i (KO_b (k_f_X4_pop q0 q h) (fun r7 h_r7 => (KO_i (k_b_X4_doStep_87 q0 r7.2 (1 : Int32) h_r7) (k_b_X4_doStep_87 q0 r7.2 (0 : Int32) h_r7)))) (KO_b (k_f_X4_pop q0 q h) (fun r10 h_r10 => (KO_b (k_f_X4_pop q0 r10.2 h_r10) (fun r11 h_r11 => (KO_bp (fun r12 => (KO_b (k_f_X4_push q0 r11.2 r12 h_r11) (fun r13 h_r13 => (KO_some h_r13)))))))))))))
theorem k_b_X4_workOut_145 (q0 : SS) (rec_56 : SS → Int32 → Int32 → Option (Int32 × SS)) (h_rec_56 : ∀ (a0 : SS) (a1 : Int32) (a2 : Int32), Fr wK vK q0 a0 → KO q0 (rec_56 a0 a1 a2) (fun r => r.2)) (q : SS) (l7 : Int32) (l8 : Int32) (h : Fr wK vK q0 q) : KO q0 (b_X4_workOut_145 rec_56 q l7 l8) (fun r => r.2) := by
  unfold b_X4_workOut_145
  exact (h_rec_56 q l7 (l8 + (1 : Int32)) h)
theorem k_b_X4_workOut_100 (q0 : SS) (rec_56 : SS → Int32 → Int32 → Option (Int32 × SS)) (h_rec_56 : ∀ (a0 : SS) (a1 : Int32) (a2 : Int32), Fr wK vK q0 a0 → KO q0 (rec_56 a0 a1 a2) (fun r => r.2)) (q : SS) (l8 : Int32) (s0 : Int32) (h : Fr wK vK q0 q) : KO q0 (b_X4_workOut_100 rec_56 q l8 s0) (fun r => r.2) := by
  unfold b_X4_workOut_100
  exact (k_b_X4_workOut_145 q0 rec_56 h_rec_56 q s0 l8 h)
theorem k_b_X4_workOut_56 (q0 : SS)  (x0 : SS) (x1 : Int32) (x2 : Int32) (h : Fr wK vK q0 x0) : KO q0 (b_X4_workOut_56 x0 x1 x2) (fun r => r.2) := by
  unfold b_X4_workOut_56
  refine KO_fx3 (fun rec_56 h_rec_56 q l7 l8 h => ?_) FU x0 x1 x2 h
  exact (KO_i (KO_some h) (KO_i (KO_some h) (KO_ic (fun c0 => (KO_nv (fun v8 => (KO_i (KO_b (k_f_X4_pop q0 q h) (fun r9 h_r9 => (KO_i (k_b_X4_workOut_100 q0 rec_56 h_rec_56 r9.2 l8 (0 : Int32) h_r9) (k_b_X4_workOut_100 q0 rec_56 h_rec_56 r9.2 l8 (1 : Int32) h_r9)))) (KO_i (KO_b (k_f_X4_pop q0 q h) (fun r11 h_r11 => (KO_i (k_b_X4_workOut_145 q0 rec_56 h_rec_56 r11.2 (1 : Int32) l8 h_r11) (KO_some h_r11)))) (KO_ic (fun c1 => (KO_b (k_f_X4_doStep q0 q v8 (q.1 14 l8.toNatClampNeg) h) (fun r13 h_r13 => (k_b_X4_workOut_145 q0 rec_56 h_rec_56 r13 l7 l8 h_r13)))) KO_none)))))) KO_none)))
theorem k_f_X4_workOut (q0 : SS) (q : SS) (a1 : Int32) (a2 : Int32) (a3 : Int32) (a4 : Int32) (a5 : Int32) (a6 : Int32) (h : Fr wK vK q0 q) : KO q0 (f_X4_workOut q a1 a2 a3 a4 a5 a6) (fun r => r.2) := by
  unfold f_X4_workOut
  exact (KO_i (KO_ns (Fr_sI h rfl) (fun q1 h_q1 => (KO_i (KO_ns (Fr_sI h_q1 rfl) (fun q2 h_q2 => (KO_i (KO_ns (Fr_sI h_q2 rfl) (fun q3 h_q3 => (KO_i (KO_ns (Fr_sI h_q3 rfl) (fun q4 h_q4 => (KO_i (KO_ns (Fr_sI h_q4 rfl) (fun q5 h_q5 => (KO_i (KO_ns (Fr_sI h_q5 rfl) (fun q6 h_q6 => (KO_ns (Fr_sI h_q6 rfl) (fun q7 h_q7 => (k_b_X4_workOut_56 q0 q7 (1 : Int32) (0 : Int32) h_q7))))) KO_none))) KO_none))) KO_none))) KO_none))) KO_none))) KO_none)
theorem k_b_X8_oddsBy_87 (q0 : SS) (q : SS) (l8 : Int32) (h : Fr wK vK q0 q) : KO q0 (b_X8_oddsBy_87 q l8) (fun r => r.2) := by
  unfold b_X8_oddsBy_87
  exact (KO_some h)
theorem k_f_X8_oddsBy (q0 : SS) (q : SS) (a1 : Int32) (a2 : Int32) (a3 : Int32) (a4 : Int32) (a5 : Int32) (h : Fr wK vK q0 q) : KO q0 (f_X8_oddsBy q a1 a2 a3 a4 a5) (fun r => r.2) := by
  unfold f_X8_oddsBy
  exact (KO_bp (fun r1 => (KO_i (KO_some h) (KO_i (KO_bp (fun r2 => (KO_bp (fun r3 => (KO_nv (fun v4 => (KO_bp (fun r5 => (KO_i (k_b_X8_oddsBy_87 q0 q v4 h) (KO_bp (fun r6 => (KO_b (k_f_X4_workOut q0 q r2 r6 a3 a4 a5 r3 h) (fun r7 h_r7 => (k_b_X8_oddsBy_87 q0 r7.2 r7.1 h_r7)))))))))))))) (KO_some h)))))
theorem k_f_X8_oddsOf (q0 : SS) (q : SS) (a1 : Int32) (a2 : Int32) (h : Fr wK vK q0 q) : KO q0 (f_X8_oddsOf q a1 a2) (fun r => r.2) := by
  unfold f_X8_oddsOf
  exact (KO_bp (fun r1 => (KO_i (KO_some h) (KO_bp (fun r2 => (KO_bp (fun r3 => (KO_bp (fun r4 => (KO_bp (fun r5 => (KO_b (k_f_X8_oddsBy q0 q r2 a2 r3 r4 r5 h) (fun r6 h_r6 => (KO_some h_r6))))))))))))))
theorem k_f_X8_give (q0 : SS) (q : SS) (a1 : Int32) (a2 : Int32) (h : Fr wK vK q0 q) : KO q0 (f_X8_give q a1 a2) (fun r => r) := by
  unfold f_X8_give
  exact (KO_bp (fun r1 => (KO_i (KO_some h) (KO_ic (fun c0 => (KO_ns (Fr_sI h rfl) (fun q2 h_q2 => (KO_some h_q2)))) KO_none))))
theorem k_b_X8_slipDrawn_65 (q0 : SS) (q : SS) (l4 : Int32) (l5 : Int32) (s0 : Int32) (h : Fr wK vK q0 q) : KO q0 (b_X8_slipDrawn_65 q l4 l5 s0) (fun r => r.2) := by
  unfold b_X8_slipDrawn_65
  exact (KO_i (KO_i (KO_some h) KO_none) (KO_b (k_f_X8_give q0 q l4 l5 h) (fun r6 h_r6 => (KO_i (KO_some h_r6) KO_none))))
theorem k_f_X8_slipDrawn (q0 : SS) (q : SS) (a1 : Int32) (h : Fr wK vK q0 q) : KO q0 (f_X8_slipDrawn q a1) (fun r => r.2) := by
  unfold f_X8_slipDrawn
  exact (KO_bp (fun r1 => (KO_bp (fun r2 => (KO_i (KO_some h) (KO_i (KO_i KO_none (KO_nv (fun v3 => (KO_i KO_none (KO_nv (fun v4 => (KO_b (k_f_X8_oddsOf q0 q v3 v4 h) (fun r5 h_r5 => (KO_i (k_b_X8_slipDrawn_65 q0 r5.2 v3 v4 (0 : Int32) h_r5) (k_b_X8_slipDrawn_65 q0 r5.2 v3 v4 (1 : Int32) h_r5)))))))))) (KO_some h)))))))
theorem k_b_X11_drawn_156 (q0 : SS) (rec_70 : SS → Int32 → Int32 → Int32 → Int32 → Int32 → Int32 → Int32 → Option (Int32 × SS)) (h_rec_70 : ∀ (a0 : SS) (a1 : Int32) (a2 : Int32) (a3 : Int32) (a4 : Int32) (a5 : Int32) (a6 : Int32) (a7 : Int32), Fr wK vK q0 a0 → KO q0 (rec_70 a0 a1 a2 a3 a4 a5 a6 a7) (fun r => r.2)) (q : SS) (l3 : Int32) (l4 : Int32) (l5 : Int32) (l6 : Int32) (l7 : Int32) (l9 : Int32) (s0 : Int32) (s1 : Int32) (h : Fr wK vK q0 q) : KO q0 (b_X11_drawn_156 rec_70 q l3 l4 l5 l6 l7 l9 s0 s1) (fun r => r.2) := by
  unfold b_X11_drawn_156
  exact (KO_nv (fun v7 => (h_rec_70 q l3 l4 l5 l6 l7 v7 (l9 + (1 : Int32)) h)))
theorem k_b_X11_drawn_120 (q0 : SS) (rec_70 : SS → Int32 → Int32 → Int32 → Int32 → Int32 → Int32 → Int32 → Option (Int32 × SS)) (h_rec_70 : ∀ (a0 : SS) (a1 : Int32) (a2 : Int32) (a3 : Int32) (a4 : Int32) (a5 : Int32) (a6 : Int32) (a7 : Int32), Fr wK vK q0 a0 → KO q0 (rec_70 a0 a1 a2 a3 a4 a5 a6 a7) (fun r => r.2)) (rec_87 : SS → Int32 → Int32 → Int32 → Int32 → Int32 → Int32 → Int32 → Int32 → Option (Int32 × SS)) (h_rec_87 : ∀ (a0 : SS) (a1 : Int32) (a2 : Int32) (a3 : Int32) (a4 : Int32) (a5 : Int32) (a6 : Int32) (a7 : Int32) (a8 : Int32), Fr wK vK q0 a0 → KO q0 (rec_87 a0 a1 a2 a3 a4 a5 a6 a7 a8) (fun r => r.2)) (q : SS) (l3 : Int32) (l4 : Int32) (l5 : Int32) (l6 : Int32) (l8 : Int32) (l9 : Int32) (l10 : Int32) (s0 : Int32) (s1 : Int32) (h : Fr wK vK q0 q) : KO q0 (b_X11_drawn_120 rec_70 rec_87 q l3 l4 l5 l6 l8 l9 l10 s0 s1) (fun r => r.2) := by
  unfold b_X11_drawn_120
  exact (KO_nv (fun v11 => (h_rec_87 q l3 l4 l5 l6 v11 l8 l9 (l10 + (1 : Int32)) h)))
theorem k_b_X11_drawn_87 (q0 : SS) (rec_70 : SS → Int32 → Int32 → Int32 → Int32 → Int32 → Int32 → Int32 → Option (Int32 × SS)) (h_rec_70 : ∀ (a0 : SS) (a1 : Int32) (a2 : Int32) (a3 : Int32) (a4 : Int32) (a5 : Int32) (a6 : Int32) (a7 : Int32), Fr wK vK q0 a0 → KO q0 (rec_70 a0 a1 a2 a3 a4 a5 a6 a7) (fun r => r.2)) (x0 : SS) (x1 : Int32) (x2 : Int32) (x3 : Int32) (x4 : Int32) (x5 : Int32) (x6 : Int32) (x7 : Int32) (x8 : Int32) (h : Fr wK vK q0 x0) : KO q0 (b_X11_drawn_87 rec_70 x0 x1 x2 x3 x4 x5 x6 x7 x8) (fun r => r.2) := by
  unfold b_X11_drawn_87
  refine KO_fx9 (fun rec_87 h_rec_87 q l3 l4 l5 l6 l7 l8 l9 l10 h => ?_) FU x0 x1 x2 x3 x4 x5 x6 x7 x8 h
  exact (KO_i (KO_bp (fun r5 => (KO_bp (fun r6 => (KO_i (k_b_X11_drawn_156 q0 rec_70 h_rec_70 q l3 l4 l5 r5 l7 l9 (1 : Int32) l8 h) (k_b_X11_drawn_156 q0 rec_70 h_rec_70 q l3 l4 l5 r5 l7 l9 (0 : Int32) l8 h)))))) (KO_bp (fun r9 => (KO_b (k_f_X8_slipDrawn q0 q r9 h) (fun r10 h_r10 => (KO_i (k_b_X11_drawn_120 q0 rec_70 h_rec_70 rec_87 h_rec_87 r10.2 l3 l4 l5 r9 l8 l9 l10 (0 : Int32) l7 h_r10) (k_b_X11_drawn_120 q0 rec_70 h_rec_70 rec_87 h_rec_87 r10.2 l3 l4 l5 r9 l8 l9 l10 (1 : Int32) l7 h_r10)))))))
theorem k_b_X11_drawn_70 (q0 : SS)  (x0 : SS) (x1 : Int32) (x2 : Int32) (x3 : Int32) (x4 : Int32) (x5 : Int32) (x6 : Int32) (x7 : Int32) (h : Fr wK vK q0 x0) : KO q0 (b_X11_drawn_70 x0 x1 x2 x3 x4 x5 x6 x7) (fun r => r.2) := by
  unfold b_X11_drawn_70
  refine KO_fx8 (fun rec_70 h_rec_70 q l3 l4 l5 l6 l7 l8 l9 h => ?_) FU x0 x1 x2 x3 x4 x5 x6 x7 h
  exact (KO_i (KO_i (KO_some h) (KO_some h)) (KO_b (k_f_X8_begin q0 q h) (fun r4 h_r4 => (k_b_X11_drawn_87 q0 rec_70 h_rec_70 r4 l3 l4 l5 l6 l7 l8 l9 (0 : Int32) h_r4))))
theorem k_b_X11_drawn_58 (q0 : SS) (q : SS) (l1 : Int32) (l3 : Int32) (l4 : Int32) (l5 : Int32) (h : Fr wK vK q0 q) : KO q0 (b_X11_drawn_58 q l1 l3 l4 l5) (fun r => r.2) := by
  unfold b_X11_drawn_58
  exact (k_b_X11_drawn_70 q0 q l3 l4 l5 l1 (0 : Int32) (0 : Int32) (0 : Int32) h)
theorem k_f_X11_drawn (q0 : SS) (q : SS) (a1 : Int32) (a2 : Int32) (a3 : Int32) (h : Fr wK vK q0 q) : KO q0 (f_X11_drawn q a1 a2 a3) (fun r => r.2) := by
  unfold f_X11_drawn
  exact (KO_nv (fun v1 => (KO_nv (fun v2 => (KO_i (KO_some h) (KO_i (KO_some h) (KO_i (KO_some h) (KO_i (KO_i (k_b_X11_drawn_58 q0 q a1 a3 v1 v2 h) (KO_bp (fun r15 => (KO_i (KO_some h) (k_b_X11_drawn_58 q0 q a1 a3 v1 v2 h))))) (KO_some h)))))))))
theorem k_b_X12_worked_182 (q0 : SS) (rec_12 : SS → Int32 → Int32 → Int32 → Int32 → Option (Int32 × SS)) (h_rec_12 : ∀ (a0 : SS) (a1 : Int32) (a2 : Int32) (a3 : Int32) (a4 : Int32), Fr wK vK q0 a0 → KO q0 (rec_12 a0 a1 a2 a3 a4) (fun r => r.2)) (q : SS) (l1 : Int32) (l3 : Int32) (l4 : Int32) (l5 : Int32) (h : Fr wK vK q0 q) : KO q0 (b_X12_worked_182 rec_12 q l1 l3 l4 l5) (fun r => r.2) := by
  unfold b_X12_worked_182
  exact (h_rec_12 q l1 l3 l4 (l5 + (1 : Int32)) h)
theorem k_b_X12_worked_79 (q0 : SS) (rec_12 : SS → Int32 → Int32 → Int32 → Int32 → Option (Int32 × SS)) (h_rec_12 : ∀ (a0 : SS) (a1 : Int32) (a2 : Int32) (a3 : Int32) (a4 : Int32), Fr wK vK q0 a0 → KO q0 (rec_12 a0 a1 a2 a3 a4) (fun r => r.2)) (q : SS) (l1 : Int32) (l3 : Int32) (l4 : Int32) (l5 : Int32) (s0 : Int32) (s1 : Int32) (h : Fr wK vK q0 q) : KO q0 (b_X12_worked_79 rec_12 q l1 l3 l4 l5 s0 s1) (fun r => r.2) := by
  unfold b_X12_worked_79
  exact (KO_ic (fun c0 => (KO_ns (Fr_sI h rfl) (fun q3 h_q3 => (k_b_X12_worked_182 q0 rec_12 h_rec_12 q3 l1 l3 (l4 + (1 : Int32)) l5 h_q3)))) KO_none)
theorem k_b_X12_worked_45 (q0 : SS) (rec_12 : SS → Int32 → Int32 → Int32 → Int32 → Option (Int32 × SS)) (h_rec_12 : ∀ (a0 : SS) (a1 : Int32) (a2 : Int32) (a3 : Int32) (a4 : Int32), Fr wK vK q0 a0 → KO q0 (rec_12 a0 a1 a2 a3 a4) (fun r => r.2)) (q : SS) (l1 : Int32) (l3 : Int32) (l4 : Int32) (l5 : Int32) (l6 : Int32) (h : Fr wK vK q0 q) : KO q0 (b_X12_worked_45 rec_12 q l1 l3 l4 l5 l6) (fun r => r.2) := by
  unfold b_X12_worked_45
  exact (KO_i (KO_ic (fun c0 => (k_b_X12_worked_79 q0 rec_12 h_rec_12 q l1 l3 l4 l5 (q.1 75 l5.toNatClampNeg) l4 h)) KO_none) (KO_ic (fun c1 => (KO_i (k_b_X12_worked_79 q0 rec_12 h_rec_12 q l1 l3 l4 l5 (q.1 79 (q.1 75 l5.toNatClampNeg).toNatClampNeg) l4 h) KO_none)) KO_none))
theorem k_b_X12_worked_117 (q0 : SS) (rec_12 : SS → Int32 → Int32 → Int32 → Int32 → Option (Int32 × SS)) (h_rec_12 : ∀ (a0 : SS) (a1 : Int32) (a2 : Int32) (a3 : Int32) (a4 : Int32), Fr wK vK q0 a0 → KO q0 (rec_12 a0 a1 a2 a3 a4) (fun r => r.2)) (q : SS) (l1 : Int32) (l3 : Int32) (l4 : Int32) (l5 : Int32) (s0 : Int32) (s1 : Int32) (h : Fr wK vK q0 q) : KO q0 (b_X12_worked_117 rec_12 q l1 l3 l4 l5 s0 s1) (fun r => r.2) := by
  unfold b_X12_worked_117
  exact (KO_ic (fun c0 => (KO_ns (Fr_sI h rfl) (fun q5 h_q5 => (k_b_X12_worked_182 q0 rec_12 h_rec_12 q5 l1 l3 l4 l5 h_q5)))) KO_none)
theorem k_b_X12_worked_12 (q0 : SS)  (x0 : SS) (x1 : Int32) (x2 : Int32) (x3 : Int32) (x4 : Int32) (h : Fr wK vK q0 x0) : KO q0 (b_X12_worked_12 x0 x1 x2 x3 x4) (fun r => r.2) := by
  unfold b_X12_worked_12
  refine KO_fx5 (fun rec_12 h_rec_12 q l1 l3 l4 l5 h => ?_) FU x0 x1 x2 x3 x4 h
  exact (KO_i (KO_i (KO_some h) KO_none) (KO_ic (fun c0 => (KO_nv (fun v2 => (KO_i (k_b_X12_worked_45 q0 rec_12 h_rec_12 q l1 l3 l4 l5 v2 h) (KO_i (k_b_X12_worked_45 q0 rec_12 h_rec_12 q l1 l3 l4 l5 v2 h) (KO_i (KO_i (KO_i (k_b_X12_worked_117 q0 rec_12 h_rec_12 q l1 l3 l4 l5 (1 : Int32) (l4 - (1 : Int32)) h) (k_b_X12_worked_117 q0 rec_12 h_rec_12 q l1 l3 l4 l5 (0 : Int32) (l4 - (1 : Int32)) h)) KO_none) (KO_i (KO_i (KO_i (KO_ns (Fr_sI h rfl) (fun q7 h_q7 => (k_b_X12_worked_182 q0 rec_12 h_rec_12 q7 l1 l3 l4 l5 h_q7))) KO_none) KO_none) (KO_i (KO_i (KO_bp (fun r8 => (KO_i (KO_ns (Fr_sI h rfl) (fun q9 h_q9 => (k_b_X12_worked_182 q0 rec_12 h_rec_12 q9 l1 l3 (l4 + (-1 : Int32)) l5 h_q9))) KO_none))) KO_none) KO_none)))))))) KO_none))
theorem k_f_X12_worked (q0 : SS) (q : SS) (a1 : Int32) (a2 : Int32) (a3 : Int32) (h : Fr wK vK q0 q) : KO q0 (f_X12_worked q a1 a2 a3) (fun r => r.2) := by
  unfold f_X12_worked
  exact (KO_nv (fun v1 => (k_b_X12_worked_12 q0 q a1 a3 (0 : Int32) v1 h)))
theorem k_b_X12_gives_47 (q0 : SS) (q : SS) (l1 : Int32) (l3 : Int32) (h : Fr wK vK q0 q) : KO q0 (b_X12_gives_47 q l1 l3) (fun r => r.2) := by
  unfold b_X12_gives_47
  exact (KO_ic (fun c0 => (KO_ic (fun c1 => (KO_b (k_f_X12_worked q0 q l1 (q.1 77 l3.toNatClampNeg) (q.1 78 l3.toNatClampNeg) h) (fun r2 h_r2 => (KO_some h_r2)))) KO_none)) KO_none)
theorem k_b_X12_gives_7 (q0 : SS)  (x0 : SS) (x1 : Int32) (x2 : Int32) (x3 : Int32) (h : Fr wK vK q0 x0) : KO q0 (b_X12_gives_7 x0 x1 x2 x3) (fun r => r.2) := by
  unfold b_X12_gives_7
  refine KO_fx4 (fun rec_7 h_rec_7 q l1 l2 l3 h => ?_) FU x0 x1 x2 x3 h
  exact (KO_ic (fun c0 => (KO_i (KO_some h) (KO_ic (fun c1 => (KO_i (k_b_X12_gives_47 q0 q l1 l3 h) (KO_ic (fun c2 => (KO_b (k_f_X12_worked q0 q l1 l2 (q.1 77 l3.toNatClampNeg) h) (fun r3 h_r3 => (KO_i (KO_ic (fun c3 => (KO_nv (fun v4 => (h_rec_7 r3.2 l1 v4 (l3 + (1 : Int32)) h_r3)))) KO_none) (k_b_X12_gives_47 q0 r3.2 l1 l3 h_r3))))) KO_none))) KO_none))) KO_none)
theorem k_f_X12_gives (q0 : SS) (q : SS) (a1 : Int32) (h : Fr wK vK q0 q) : KO q0 (f_X12_gives q a1) (fun r => r.2) := by
  unfold f_X12_gives
  exact (KO_nv (fun v1 => (k_b_X12_gives_7 q0 q a1 (0 : Int32) v1 h)))
theorem k_b_X12_oddsOf_115 (q0 : SS) (q : SS) (l3 : Int32) (h : Fr wK vK q0 q) : KO q0 (b_X12_oddsOf_115 q l3) (fun r => r.2) := by
  unfold b_X12_oddsOf_115
  exact (KO_i (KO_i (KO_some h) (KO_some h)) (KO_some h))
theorem k_f_X12_oddsOf (q0 : SS) (q : SS) (a1 : Int32) (a2 : Int32) (h : Fr wK vK q0 q) : KO q0 (f_X12_oddsOf q a1 a2) (fun r => r.2) := by
  unfold f_X12_oddsOf
  exact (KO_bp (fun r1 => (KO_i (KO_some h) (KO_ic (fun c0 => (KO_i (KO_nv (fun v2 => (KO_i (k_b_X12_oddsOf_115 q0 q v2 h) (KO_ic (fun c1 => (KO_i (KO_ns (Fr_sI h rfl) (fun q5 h_q5 => (KO_ic (fun c2 => (KO_i (KO_i (KO_ns (Fr_sI h_q5 rfl) (fun q6 h_q6 => (KO_bp (fun r7 => (KO_i (KO_ns (Fr_sI h_q6 rfl) (fun q8 h_q8 => (KO_ic (fun c3 => (KO_i (KO_ns (Fr_sI h_q8 rfl) (fun q9 h_q9 => (KO_i (KO_ns (Fr_sI h_q9 rfl) (fun q10 h_q10 => (KO_i (KO_i (KO_ns (Fr_sI h_q10 rfl) (fun q11 h_q11 => (KO_b (k_f_X12_gives q0 q11 (0 : Int32) h_q11) (fun r12 h_r12 => (k_b_X12_oddsOf_115 q0 r12.2 r12.1 h_r12))))) KO_none) KO_none))) KO_none))) KO_none)) KO_none))) KO_none))))) KO_none) KO_none)) KO_none))) KO_none)) KO_none)))) KO_none)) KO_none))))
theorem k_b_X12_drawn_232 (q0 : SS) (q : SS) (l3 : Int32) (l5 : Int32) (l6 : Int32) (h : Fr wK vK q0 q) : KO q0 (b_X12_drawn_232 q l3 l5 l6) (fun r => r.2) := by
  unfold b_X12_drawn_232
  exact (KO_i (KO_some h) (KO_some h))
theorem k_b_X12_drawn_226 (q0 : SS) (rec_58 : SS → Int32 → Int32 → Int32 → Int32 → Int32 → Int32 → Option (Int32 × SS)) (h_rec_58 : ∀ (a0 : SS) (a1 : Int32) (a2 : Int32) (a3 : Int32) (a4 : Int32) (a5 : Int32) (a6 : Int32), Fr wK vK q0 a0 → KO q0 (rec_58 a0 a1 a2 a3 a4 a5 a6) (fun r => r.2)) (q : SS) (l2 : Int32) (l3 : Int32) (l4 : Int32) (l5 : Int32) (l6 : Int32) (l7 : Int32) (h : Fr wK vK q0 q) : KO q0 (b_X12_drawn_226 rec_58 q l2 l3 l4 l5 l6 l7) (fun r => r.2) := by
  unfold b_X12_drawn_226
  exact (h_rec_58 q l2 l3 l4 l5 l6 (l7 + (1 : Int32)) h)
theorem k_b_X12_drawn_171 (q0 : SS) (rec_58 : SS → Int32 → Int32 → Int32 → Int32 → Int32 → Int32 → Option (Int32 × SS)) (h_rec_58 : ∀ (a0 : SS) (a1 : Int32) (a2 : Int32) (a3 : Int32) (a4 : Int32) (a5 : Int32) (a6 : Int32), Fr wK vK q0 a0 → KO q0 (rec_58 a0 a1 a2 a3 a4 a5 a6) (fun r => r.2)) (rec_81 : SS → Int32 → Int32 → Int32 → Int32 → Int32 → Int32 → Int32 → Option (Int32 × SS)) (h_rec_81 : ∀ (a0 : SS) (a1 : Int32) (a2 : Int32) (a3 : Int32) (a4 : Int32) (a5 : Int32) (a6 : Int32) (a7 : Int32), Fr wK vK q0 a0 → KO q0 (rec_81 a0 a1 a2 a3 a4 a5 a6 a7) (fun r => r.2)) (q : SS) (l2 : Int32) (l3 : Int32) (l4 : Int32) (l5 : Int32) (l6 : Int32) (l7 : Int32) (l8 : Int32) (h : Fr wK vK q0 q) : KO q0 (b_X12_drawn_171 rec_58 rec_81 q l2 l3 l4 l5 l6 l7 l8) (fun r => r.2) := by
  unfold b_X12_drawn_171
  exact (h_rec_81 q l2 l3 l4 l5 l6 l7 (l8 + (1 : Int32)) h)
theorem k_b_X12_drawn_81 (q0 : SS) (rec_58 : SS → Int32 → Int32 → Int32 → Int32 → Int32 → Int32 → Option (Int32 × SS)) (h_rec_58 : ∀ (a0 : SS) (a1 : Int32) (a2 : Int32) (a3 : Int32) (a4 : Int32) (a5 : Int32) (a6 : Int32), Fr wK vK q0 a0 → KO q0 (rec_58 a0 a1 a2 a3 a4 a5 a6) (fun r => r.2)) (x0 : SS) (x1 : Int32) (x2 : Int32) (x3 : Int32) (x4 : Int32) (x5 : Int32) (x6 : Int32) (x7 : Int32) (h : Fr wK vK q0 x0) : KO q0 (b_X12_drawn_81 rec_58 x0 x1 x2 x3 x4 x5 x6 x7) (fun r => r.2) := by
  unfold b_X12_drawn_81
  refine KO_fx8 (fun rec_81 h_rec_81 q l2 l3 l4 l5 l6 l7 l8 h => ?_) FU x0 x1 x2 x3 x4 x5 x6 x7 h
  exact (KO_i (KO_nv (fun v6 => (KO_i (k_b_X12_drawn_226 q0 rec_58 h_rec_58 q l2 l3 v6 l5 l6 l7 h) (KO_bp (fun r7 => (KO_i (k_b_X12_drawn_226 q0 rec_58 h_rec_58 q l2 l3 v6 l5 l6 l7 h) (KO_bp (fun r8 => (KO_i KO_none (KO_bp (fun r9 => (KO_ic (fun c0 => (KO_i (k_b_X12_drawn_226 q0 rec_58 h_rec_58 q l2 l3 v6 (l5 + (1 : Int32)) l6 l7 h) (k_b_X12_drawn_226 q0 rec_58 h_rec_58 q l2 l3 v6 l5 l6 l7 h))) KO_none)))))))))))) (KO_nv (fun v13 => (KO_i KO_none (KO_nv (fun v14 => (KO_i KO_none (KO_nv (fun v15 => (KO_bp (fun r16 => (KO_i (k_b_X12_drawn_171 q0 rec_58 h_rec_58 rec_81 h_rec_81 q l2 l3 v13 l5 l6 l7 l8 h) (KO_b (k_f_X12_oddsOf q0 q v14 v15 h) (fun r17 h_r17 => (KO_i (KO_ic (fun c1 => (KO_ns (Fr_sI h_r17 rfl) (fun q18 h_q18 => (k_b_X12_drawn_171 q0 rec_58 h_rec_58 rec_81 h_rec_81 q18 l2 l3 v13 l5 (l6 + (1 : Int32)) l7 l8 h_q18)))) KO_none) (k_b_X12_drawn_171 q0 rec_58 h_rec_58 rec_81 h_rec_81 r17.2 l2 l3 v13 l5 l6 l7 l8 h_r17))))))))))))))))
theorem k_b_X12_drawn_58 (q0 : SS)  (x0 : SS) (x1 : Int32) (x2 : Int32) (x3 : Int32) (x4 : Int32) (x5 : Int32) (x6 : Int32) (h : Fr wK vK q0 x0) : KO q0 (b_X12_drawn_58 x0 x1 x2 x3 x4 x5 x6) (fun r => r.2) := by
  unfold b_X12_drawn_58
  refine KO_fx7 (fun rec_58 h_rec_58 q l2 l3 l4 l5 l6 l7 h => ?_) FU x0 x1 x2 x3 x4 x5 x6 h
  exact (KO_i (k_b_X12_drawn_232 q0 q l3 l5 l6 h) (KO_i (k_b_X12_drawn_232 q0 q l3 l5 l6 h) (KO_b (k_f_X12_layNow q0 q h) (fun r5 h_r5 => (k_b_X12_drawn_81 q0 rec_58 h_rec_58 r5 l2 l3 l4 l5 l6 l7 (0 : Int32) h_r5)))))
theorem k_f_X12_drawn (q0 : SS) (q : SS) (a1 : Int32) (a2 : Int32) (a3 : Int32) (h : Fr wK vK q0 q) : KO q0 (f_X12_drawn q a1 a2 a3) (fun r => r.2) := by
  unfold f_X12_drawn
  exact (KO_i (KO_some h) (KO_bp (fun r1 => (KO_i (KO_some h) (KO_bp (fun r2 => (KO_i (KO_some h) (KO_bp (fun r3 => (KO_i (KO_some h) (k_b_X12_drawn_58 q0 q a2 a3 a1 (0 : Int32) (0 : Int32) (0 : Int32) h)))))))))))
theorem k_b_X2_begin_26 (q0 : SS)  (x0 : SS) (x1 : Int32) (x2 : Int32) (x3 : Int32) (h : Fr wK vK q0 x0) : KO q0 (b_X2_begin_26 x0 x1 x2 x3) (fun r => r) := by
  unfold b_X2_begin_26
  refine KO_fx4 (fun rec_26 h_rec_26 q l2 l3 l4 h => ?_) FU x0 x1 x2 x3 h
  exact (KO_i (KO_some h) (KO_bp (fun r5 => (KO_nv (fun v6 => (KO_bp (fun r7 => (KO_i (KO_some h) (KO_ic (fun c0 => (KO_ns (Fr_sI h rfl) (fun q8 h_q8 => (KO_ns (Fr_sI h_q8 rfl) (fun q9 h_q9 => (h_rec_26 q9 l2 l3 (l4 + (1 : Int32)) h_q9)))))) KO_none)))))))))
theorem k_f_X2_begin (q0 : SS) (q : SS) (a2 : Int32) (h : Fr wK vK q0 q) : KO q0 (f_X2_begin q a2) (fun r => r) := by
  unfold f_X2_begin
  exact (KO_b (k_f_X8_begin q0 q h) (fun r1 h_r1 => (KO_bp (fun r2 => (KO_nv (fun v3 => (KO_ns (Fr_sI h_r1 rfl) (fun q4 h_q4 => (k_b_X2_begin_26 q0 q4 a2 v3 (0 : Int32) h_q4)))))))))
theorem k_b_X9_arrive_100 (q0 : SS) (q : SS) (l1 : Int32) (h : Fr wK vK q0 q) : KO q0 (b_X9_arrive_100 q l1) (fun r => r) := by
  unfold b_X9_arrive_100
  exact (KO_ns (Fr_sI h rfl) (fun q7 h_q7 => (KO_ns (Fr_sI h_q7 rfl) (fun q8 h_q8 => (KO_some h_q8)))))
theorem k_b_X9_arrive_90 (q0 : SS) (q : SS) (l1 : Int32) (l2 : Int64) (h : Fr wK vK q0 q) : KO q0 (b_X9_arrive_90 q l1 l2) (fun r => r) := by
  unfold b_X9_arrive_90
  exact (KO_ns (Fr_sL h rfl) (fun q5 h_q5 => (KO_ns (Fr_sI h_q5 rfl) (fun q6 h_q6 => (k_b_X9_arrive_100 q0 q6 l1 h_q6)))))
theorem k_b_X9_arrive_58 (q0 : SS) (q : SS) (l1 : Int32) (l2 : Int64) (h : Fr wK vK q0 q) : KO q0 (b_X9_arrive_58 q l1 l2) (fun r => r) := by
  unfold b_X9_arrive_58
  exact (KO_i (k_b_X9_arrive_90 q0 q l1 l2 h) (KO_i (k_b_X9_arrive_100 q0 q l1 h) (KO_i (KO_i (k_b_X9_arrive_100 q0 q l1 h) (k_b_X9_arrive_90 q0 q l1 l2 h)) (k_b_X9_arrive_100 q0 q l1 h))))
theorem k_b_X9_arrive_47 (q0 : SS) (q : SS) (l1 : Int32) (l2 : Int64) (l4 : Int32) (h : Fr wK vK q0 q) : KO q0 (b_X9_arrive_47 q l1 l2 l4) (fun r => r) := by
  unfold b_X9_arrive_47
  exact (KO_ns (Fr_sI h rfl) (fun q3 h_q3 => (KO_ns (Fr_sI h_q3 rfl) (fun q4 h_q4 => (k_b_X9_arrive_58 q0 q4 l1 l2 h_q4)))))
theorem k_f_X9_arrive (q0 : SS) (q : SS) (a1 : Int32) (a2 : Int64) (h : Fr wK vK q0 q) : KO q0 (f_X9_arrive q a1 a2) (fun r => r) := by
  unfold f_X9_arrive
  exact (KO_bp (fun r1 => (KO_i (KO_some h) (KO_bp (fun r2 => (KO_i (k_b_X9_arrive_47 q0 q a1 a2 r2 h) (KO_i (k_b_X9_arrive_47 q0 q a1 a2 r2 h) (KO_i (KO_i (k_b_X9_arrive_58 q0 q a1 a2 h) (k_b_X9_arrive_47 q0 q a1 a2 r2 h)) (k_b_X9_arrive_58 q0 q a1 a2 h)))))))))
theorem k_b_X9_oddsAt_99 (q0 : SS) (q : SS) (l6 : Int32) (h : Fr wK vK q0 q) : KO q0 (b_X9_oddsAt_99 q l6) (fun r => r.2) := by
  unfold b_X9_oddsAt_99
  exact (KO_ic (fun c0 => (KO_some h)) KO_none)
theorem k_f_X9_oddsAt (q0 : SS) (q : SS) (a1 : Int32) (a2 : Int32) (a3 : Int32) (h : Fr wK vK q0 q) : KO q0 (f_X9_oddsAt q a1 a2 a3) (fun r => r.2) := by
  unfold f_X9_oddsAt
  exact (KO_bp (fun r1 => (KO_bp (fun r2 => (KO_nv (fun v3 => (KO_i (KO_some h) (KO_i (KO_ic (fun c0 => (KO_i (KO_bp (fun r4 => (KO_bp (fun r5 => (KO_b (k_f_X8_oddsBy q0 q r1 a3 r2 r4 r5 h) (fun r6 h_r6 => (KO_ic (fun c1 => (KO_ns (Fr_sI h_r6 rfl) (fun q7 h_q7 => (k_b_X9_oddsAt_99 q0 q7 v3 h_q7)))) KO_none))))))) (k_b_X9_oddsAt_99 q0 q v3 h))) KO_none) (KO_some h)))))))))
def KG_X9_spread (q0 : SS) (r : GT_X9_spread) : Prop := (∀ (a0 : SS) (a1 : Int32) (a2 : Int32) (a3 : Int64), Fr wK vK q0 a0 → KO q0 (r a0 a1 a2 a3) (fun r => r))
theorem k_b_X9_spread_90 (q0 : SS) (r : GT_X9_spread) (hr : KG_X9_spread q0 r) (q : SS) (l1 : Int32) (l2 : Int32) (l3 : Int64) (l6 : Int32) (l7 : Int32) (s0 : Int32) (h : Fr wK vK q0 q) : KO q0 (b_X9_spread_90 r q l1 l2 l3 l6 l7 s0) (fun r => r) := by
  unfold b_X9_spread_90
  exact (KO_bp (fun r6 => (KO_b (hr q (l1 + (1 : Int32)) l2 ((((12 : Int32) - s0).toInt64) * l3) h) (fun r7 h_r7 => (KO_b (k_f_X8_give q0 r7 l6 l7 h_r7) (fun r8 h_r8 => (KO_b (hr r8 (l1 + (1 : Int32)) (l2 ||| (jshl (1 : Int32) l1)) ((s0.toInt64) * l3) h_r8) (fun r9 h_r9 => (KO_b (k_f_X8_give q0 r9 l6 r6 h_r9) (fun r10 h_r10 => (KO_some h_r10)))))))))))
theorem k_fb_X9_spread (q0 : SS) (r : GT_X9_spread) (hr : KG_X9_spread q0 r) (q : SS) (a1 : Int32) (a2 : Int32) (a3 : Int64) (h : Fr wK vK q0 q) : KO q0 (fb_X9_spread r q a1 a2 a3) (fun r => r) := by
  unfold fb_X9_spread
  exact (KO_bp (fun r1 => (KO_i (KO_bp (fun r2 => (KO_bp (fun r3 => (KO_bp (fun r4 => (KO_i (KO_b (hr q (a1 + (1 : Int32)) a2 ((12 : Int64) * a3) h) (fun r5 h_r5 => (KO_some h_r5))) (KO_i (k_b_X9_spread_90 q0 r hr q a1 a2 a3 r2 r3 (0 : Int32) h) (KO_b (k_f_X9_oddsAt q0 q a1 r2 r3 h) (fun r11 h_r11 => (k_b_X9_spread_90 q0 r hr r11.2 a1 a2 a3 r2 r3 r11.1 h_r11))))))))))) (KO_b (k_f_X9_arrive q0 q a2 a3 h) (fun r14 h_r14 => (KO_some h_r14))))))
theorem kg_X9_spread (q0 : SS) : ∀ n, KG_X9_spread q0 (g_X9_spread n)
  | 0 => (fun _ _ _ _ _ => KO_none)
  | n + 1 => (fun a0 a1 a2 a3 h => k_fb_X9_spread q0 (g_X9_spread n) (kg_X9_spread q0 n) a0 a1 a2 a3 h)
theorem k_f_X9_spread (q0 : SS) (x0 : SS) (x1 : Int32) (x2 : Int32) (x3 : Int64) (h : Fr wK vK q0 x0) : KO q0 (f_X9_spread x0 x1 x2 x3) (fun r => r) := kg_X9_spread q0 60 x0 x1 x2 x3 h
theorem k_b_X9_goThrough_76 (q0 : SS) (q : SS) (l3 : Int32) (h : Fr wK vK q0 q) : KO q0 (b_X9_goThrough_76 q l3) (fun r => r) := by
  unfold b_X9_goThrough_76
  exact (KO_i (KO_ns (Fr_sI h rfl) (fun q1 h_q1 => (KO_ns (Fr_sI h_q1 rfl) (fun q2 h_q2 => (KO_ns (Fr_sI h_q2 rfl) (fun q3 h_q3 => (KO_ns (Fr_sI h_q3 rfl) (fun q4 h_q4 => (KO_ns (Fr_sI h_q4 rfl) (fun q5 h_q5 => (KO_ns (Fr_sL h_q5 rfl) (fun q6 h_q6 => (KO_ns (Fr_sI h_q6 rfl) (fun q7 h_q7 => (KO_b (k_f_X9_spread q0 q7 (0 : Int32) (0 : Int32) (1 : Int64) h_q7) (fun r8 h_r8 => (KO_some h_r8))))))))))))))))) KO_none)
theorem k_b_X9_goThrough_48 (q0 : SS)  (x0 : SS) (x1 : Int32) (x2 : Int32) (h : Fr wK vK q0 x0) : KO q0 (b_X9_goThrough_48 x0 x1 x2) (fun r => r) := by
  unfold b_X9_goThrough_48
  refine KO_fx3 (fun rec_48 h_rec_48 q l3 l4 h => ?_) FU x0 x1 x2 h
  exact (KO_i (k_b_X9_goThrough_76 q0 q l3 h) (KO_i (k_b_X9_goThrough_76 q0 q l3 h) (KO_ic (fun c0 => (KO_ns (Fr_sI h rfl) (fun q9 h_q9 => (h_rec_48 q9 l3 (l4 + (1 : Int32)) h_q9)))) KO_none)))
theorem k_b_X9_goThrough_38 (q0 : SS) (rec_3 : SS → Int32 → Int32 → Int32 → Option SS) (h_rec_3 : ∀ (a0 : SS) (a1 : Int32) (a2 : Int32) (a3 : Int32), Fr wK vK q0 a0 → KO q0 (rec_3 a0 a1 a2 a3) (fun r => r)) (q : SS) (l2 : Int32) (l3 : Int32) (l4 : Int32) (s0 : Int32) (s1 : Int32) (h : Fr wK vK q0 q) : KO q0 (b_X9_goThrough_38 rec_3 q l2 l3 l4 s0 s1) (fun r => r) := by
  unfold b_X9_goThrough_38
  exact (KO_ic (fun c0 => (KO_ns (Fr_sI h rfl) (fun q13 h_q13 => (h_rec_3 q13 l2 l3 (l4 + (1 : Int32)) h_q13)))) KO_none)
theorem k_b_X9_goThrough_3 (q0 : SS)  (x0 : SS) (x1 : Int32) (x2 : Int32) (x3 : Int32) (h : Fr wK vK q0 x0) : KO q0 (b_X9_goThrough_3 x0 x1 x2 x3) (fun r => r) := by
  unfold b_X9_goThrough_3
  refine KO_fx4 (fun rec_3 h_rec_3 q l2 l3 l4 h => ?_) FU x0 x1 x2 x3 h
  exact (KO_i (k_b_X9_goThrough_48 q0 q l3 (0 : Int32) h) (KO_bp (fun r12 => (KO_i (k_b_X9_goThrough_38 q0 rec_3 h_rec_3 q l2 l3 l4 (-1 : Int32) l4 h) (KO_bp (fun r14 => (k_b_X9_goThrough_38 q0 rec_3 h_rec_3 q l2 l3 l4 (r14.toInt32) l4 h)))))))
theorem k_f_X9_goThrough (q0 : SS) (q : SS) (a2 : Int32) (a3 : Int32) (h : Fr wK vK q0 q) : KO q0 (f_X9_goThrough q a2 a3) (fun r => r) := by
  unfold f_X9_goThrough
  exact (k_b_X9_goThrough_3 q0 q a2 a3 (0 : Int32) h)
theorem k_b_X11_behind_114 (q0 : SS) (q : SS) (l3 : Int32) (s0 : Int32) (s1 : Int32) (h : Fr wK vK q0 q) : KO q0 (b_X11_behind_114 q l3 s0 s1) (fun r => r.2) := by
  unfold b_X11_behind_114
  exact (KO_b (k_f_X9_goThrough q0 q s1 s0 h) (fun r8 h_r8 => (KO_sw (KO_bp (fun r10 => (KO_some h_r8))) (KO_sw (KO_bp (fun r12 => (KO_some h_r8))) (KO_sw (KO_bp (fun r14 => (KO_some h_r8))) (KO_sw (KO_bp (fun r16 => (KO_some h_r8))) (KO_s0 (KO_bp (fun r17 => (KO_some h_r8))))))))))
theorem k_f_X11_behind (q0 : SS) (q : SS) (a1 : Int32) (a2 : Int32) (a3 : Int32) (h : Fr wK vK q0 q) : KO q0 (f_X11_behind q a1 a2 a3) (fun r => r.2) := by
  unfold f_X11_behind
  exact (KO_bp (fun r1 => (KO_i (KO_some h) (KO_bp (fun r2 => (KO_i (KO_some h) (KO_i (KO_some h) (KO_i (KO_bp (fun r3 => (KO_i (KO_bp (fun r4 => (KO_i (KO_bp (fun r5 => (KO_i (KO_bp (fun r6 => (KO_i (KO_b (k_f_X2_begin q0 q a1 h) (fun r7 h_r7 => (KO_i (k_b_X11_behind_114 q0 r7 a3 (1 : Int32) a2 h_r7) (k_b_X11_behind_114 q0 r7 a3 (0 : Int32) a2 h_r7)))) (KO_some h)))) (KO_some h)))) (KO_some h)))) (KO_some h)))) (KO_some h)))))))))
theorem k_b_X12_meetWay_102 (q0 : SS) (q : SS) (l1 : Int32) (l2 : Int64) (h : Fr wK vK q0 q) : KO q0 (b_X12_meetWay_102 q l1 l2) (fun r => r) := by
  unfold b_X12_meetWay_102
  exact (KO_ns (Fr_sL h rfl) (fun q6 h_q6 => (KO_ns (Fr_sI h_q6 rfl) (fun q7 h_q7 => (KO_some h_q7)))))
theorem k_b_X12_meetWay_70 (q0 : SS) (q : SS) (l1 : Int32) (l2 : Int64) (h : Fr wK vK q0 q) : KO q0 (b_X12_meetWay_70 q l1 l2) (fun r => r) := by
  unfold b_X12_meetWay_70
  exact (KO_i (k_b_X12_meetWay_102 q0 q l1 l2 h) (KO_i (KO_i (KO_some h) (KO_i (KO_some h) (k_b_X12_meetWay_102 q0 q l1 l2 h))) (KO_some h)))
theorem k_b_X12_meetWay_59 (q0 : SS) (q : SS) (l1 : Int32) (l2 : Int64) (l4 : Int32) (h : Fr wK vK q0 q) : KO q0 (b_X12_meetWay_59 q l1 l2 l4) (fun r => r) := by
  unfold b_X12_meetWay_59
  exact (KO_ns (Fr_sI h rfl) (fun q4 h_q4 => (KO_ns (Fr_sI h_q4 rfl) (fun q5 h_q5 => (k_b_X12_meetWay_70 q0 q5 l1 l2 h_q5)))))
theorem k_f_X12_meetWay (q0 : SS) (q : SS) (a1 : Int32) (a2 : Int64) (h : Fr wK vK q0 q) : KO q0 (f_X12_meetWay q a1 a2) (fun r => r) := by
  unfold f_X12_meetWay
  exact (KO_ns (Fr_sI h rfl) (fun q1 h_q1 => (KO_ns (Fr_sI h_q1 rfl) (fun q2 h_q2 => (KO_bp (fun r3 => (KO_i (k_b_X12_meetWay_59 q0 q2 a1 a2 r3 h_q2) (KO_i (k_b_X12_meetWay_59 q0 q2 a1 a2 r3 h_q2) (KO_i (KO_i (k_b_X12_meetWay_70 q0 q2 a1 a2 h_q2) (k_b_X12_meetWay_59 q0 q2 a1 a2 r3 h_q2)) (k_b_X12_meetWay_70 q0 q2 a1 a2 h_q2))))))))))
def KG_X12_goBehind (q0 : SS) (r : GT_X12_goBehind) : Prop := (∀ (a0 : SS) (a1 : Int32) (a2 : Int32) (a3 : Int64), Fr wK vK q0 a0 → KO q0 (r a0 a1 a2 a3) (fun r => r))
theorem k_fb_X12_goBehind (q0 : SS) (r : GT_X12_goBehind) (hr : KG_X12_goBehind q0 r) (q : SS) (a1 : Int32) (a2 : Int32) (a3 : Int64) (h : Fr wK vK q0 q) : KO q0 (fb_X12_goBehind r q a1 a2 a3) (fun r => r) := by
  unfold fb_X12_goBehind
  exact (KO_i (KO_bp (fun r1 => (KO_i (KO_some h) (KO_b (k_f_X12_meetWay q0 q a2 a3 h) (fun r2 h_r2 => (KO_some h_r2)))))) (KO_bp (fun r4 => (KO_nv (fun v5 => (KO_bp (fun r6 => (KO_nv (fun v7 => (KO_bp (fun r8 => (KO_i (KO_b (hr q (a1 + (1 : Int32)) a2 (a3 * (12 : Int64)) h) (fun r9 h_r9 => (KO_some h_r9))) (KO_b (k_f_X12_oddsOf q0 q v5 v7 h) (fun r10 h_r10 => (KO_ic (fun c0 => (KO_nv (fun v11 => (KO_b (hr r10.2 (a1 + (1 : Int32)) a2 (a3 * (((12 : Int32) - r10.1).toInt64)) h_r10) (fun r12 h_r12 => (KO_ic (fun c1 => (KO_ns (Fr_sI h_r12 rfl) (fun q13 h_q13 => (KO_b (hr q13 (a1 + (1 : Int32)) (a2 ||| (jshl (1 : Int32) a1)) (a3 * (r10.1.toInt64)) h_q13) (fun r14 h_r14 => (KO_ic (fun c2 => (KO_ns (Fr_sI h_r14 rfl) (fun q15 h_q15 => (KO_some h_q15)))) KO_none)))))) KO_none)))))) KO_none)))))))))))))))
theorem kg_X12_goBehind (q0 : SS) : ∀ n, KG_X12_goBehind q0 (g_X12_goBehind n)
  | 0 => (fun _ _ _ _ _ => KO_none)
  | n + 1 => (fun a0 a1 a2 a3 h => k_fb_X12_goBehind q0 (g_X12_goBehind n) (kg_X12_goBehind q0 n) a0 a1 a2 a3 h)
theorem k_f_X12_goBehind (q0 : SS) (x0 : SS) (x1 : Int32) (x2 : Int32) (x3 : Int64) (h : Fr wK vK q0 x0) : KO q0 (f_X12_goBehind x0 x1 x2 x3) (fun r => r) := kg_X12_goBehind q0 60 x0 x1 x2 x3 h
theorem k_f_X12_behind (q0 : SS) (q : SS) (a1 : Int32) (a2 : Int32) (a3 : Int32) (h : Fr wK vK q0 q) : KO q0 (f_X12_behind q a1 a2 a3) (fun r => r.2) := by
  unfold f_X12_behind
  exact (KO_bp (fun r1 => (KO_i (KO_some h) (KO_bp (fun r2 => (KO_i (KO_some h) (KO_bp (fun r3 => (KO_i (KO_some h) (KO_bp (fun r4 => (KO_i (KO_bp (fun r5 => (KO_i (KO_ns (Fr_sI h rfl) (fun q6 h_q6 => (KO_ns (Fr_sI h_q6 rfl) (fun q7 h_q7 => (KO_bp (fun r8 => (KO_ns (Fr_sI h_q7 rfl) (fun q9 h_q9 => (KO_ns (Fr_sI h_q9 rfl) (fun q10 h_q10 => (KO_ns (Fr_sI h_q10 rfl) (fun q11 h_q11 => (KO_ns (Fr_sI h_q11 rfl) (fun q12 h_q12 => (KO_ns (Fr_sI h_q12 rfl) (fun q13 h_q13 => (KO_ns (Fr_sL h_q13 rfl) (fun q14 h_q14 => (KO_ns (Fr_sI h_q14 rfl) (fun q15 h_q15 => (KO_b (k_f_X12_layNow q0 q15 h_q15) (fun r16 h_r16 => (KO_b (k_f_X12_goBehind q0 r16 (0 : Int32) (0 : Int32) (1 : Int64) h_r16) (fun r17 h_r17 => (KO_sw (KO_some h_r17) (KO_sw (KO_some h_r17) (KO_sw (KO_some h_r17) (KO_sw (KO_i (KO_some h_r17) (KO_some h_r17)) (KO_s0 (KO_some h_r17)))))))))))))))))))))))))))))) (KO_bp (fun r24 => (KO_some h)))))) (KO_bp (fun r26 => (KO_some h)))))))))))))))
theorem k_b_X11_half_75 (q0 : SS) (rec_27 : SS → Int32 → Int32 → Int32 → Int32 → Option (Int32 × SS)) (h_rec_27 : ∀ (a0 : SS) (a1 : Int32) (a2 : Int32) (a3 : Int32) (a4 : Int32), Fr wK vK q0 a0 → KO q0 (rec_27 a0 a1 a2 a3 a4) (fun r => r.2)) (q : SS) (l2 : Int32) (l3 : Int32) (l4 : Int32) (l5 : Int32) (h : Fr wK vK q0 q) : KO q0 (b_X11_half_75 rec_27 q l2 l3 l4 l5) (fun r => r.2) := by
  unfold b_X11_half_75
  exact (h_rec_27 q l2 l3 l4 (l5 + (1 : Int32)) h)
theorem k_b_X11_half_27 (q0 : SS)  (x0 : SS) (x1 : Int32) (x2 : Int32) (x3 : Int32) (x4 : Int32) (h : Fr wK vK q0 x0) : KO q0 (b_X11_half_27 x0 x1 x2 x3 x4) (fun r => r.2) := by
  unfold b_X11_half_27
  refine KO_fx5 (fun rec_27 h_rec_27 q l2 l3 l4 l5 h => ?_) FU x0 x1 x2 x3 x4 h
  exact (KO_bp (fun r3 => (KO_i (KO_some h) (KO_bp (fun r4 => (KO_i (k_b_X11_half_75 q0 rec_27 h_rec_27 q l2 l3 l4 l5 h) (KO_bp (fun r5 => (KO_i (k_b_X11_half_75 q0 rec_27 h_rec_27 q l2 l3 l4 l5 h) (k_b_X11_half_75 q0 rec_27 h_rec_27 q l2 l5 r4 l5 h))))))))))
theorem k_f_X11_half (q0 : SS) (q : SS) (h : Fr wK vK q0 q) : KO q0 (f_X11_half q) (fun r => r.2) := by
  unfold f_X11_half
  exact (KO_b (k_f_X11_now q0 q h) (fun r1 h_r1 => (KO_bp (fun r2 => (KO_i (KO_some h_r1) (k_b_X11_half_27 q0 r1 r2 (-2 : Int32) (7 : Int32) (0 : Int32) h_r1))))))
theorem k_b_X12_half_95 (q0 : SS) (rec_14 : SS → Int32 → Int32 → Int32 → Option (Int32 × SS)) (h_rec_14 : ∀ (a0 : SS) (a1 : Int32) (a2 : Int32) (a3 : Int32), Fr wK vK q0 a0 → KO q0 (rec_14 a0 a1 a2 a3) (fun r => r.2)) (q : SS) (l1 : Int32) (l2 : Int32) (l3 : Int32) (h : Fr wK vK q0 q) : KO q0 (b_X12_half_95 rec_14 q l1 l2 l3) (fun r => r.2) := by
  unfold b_X12_half_95
  exact (h_rec_14 q l1 l2 (l3 + (1 : Int32)) h)
theorem k_b_X12_half_93 (q0 : SS) (rec_14 : SS → Int32 → Int32 → Int32 → Option (Int32 × SS)) (h_rec_14 : ∀ (a0 : SS) (a1 : Int32) (a2 : Int32) (a3 : Int32), Fr wK vK q0 a0 → KO q0 (rec_14 a0 a1 a2 a3) (fun r => r.2)) (q : SS) (l1 : Int32) (l3 : Int32) (h : Fr wK vK q0 q) : KO q0 (b_X12_half_93 rec_14 q l1 l3) (fun r => r.2) := by
  unfold b_X12_half_93
  exact (k_b_X12_half_95 q0 rec_14 h_rec_14 q l1 l3 l3 h)
theorem k_b_X12_half_64 (q0 : SS) (rec_14 : SS → Int32 → Int32 → Int32 → Option (Int32 × SS)) (h_rec_14 : ∀ (a0 : SS) (a1 : Int32) (a2 : Int32) (a3 : Int32), Fr wK vK q0 a0 → KO q0 (rec_14 a0 a1 a2 a3) (fun r => r.2)) (rec_34 : SS → Int32 → Int32 → Int32 → Int32 → Int32 → Option (Int32 × SS)) (h_rec_34 : ∀ (a0 : SS) (a1 : Int32) (a2 : Int32) (a3 : Int32) (a4 : Int32) (a5 : Int32), Fr wK vK q0 a0 → KO q0 (rec_34 a0 a1 a2 a3 a4 a5) (fun r => r.2)) (q : SS) (l1 : Int32) (l2 : Int32) (l3 : Int32) (l4 : Int32) (l5 : Int32) (h : Fr wK vK q0 q) : KO q0 (b_X12_half_64 rec_14 rec_34 q l1 l2 l3 l4 l5) (fun r => r.2) := by
  unfold b_X12_half_64
  exact (h_rec_34 q l1 l2 l3 l4 (l5 + (1 : Int32)) h)
theorem k_b_X12_half_34 (q0 : SS) (rec_14 : SS → Int32 → Int32 → Int32 → Option (Int32 × SS)) (h_rec_14 : ∀ (a0 : SS) (a1 : Int32) (a2 : Int32) (a3 : Int32), Fr wK vK q0 a0 → KO q0 (rec_14 a0 a1 a2 a3) (fun r => r.2)) (x0 : SS) (x1 : Int32) (x2 : Int32) (x3 : Int32) (x4 : Int32) (x5 : Int32) (h : Fr wK vK q0 x0) : KO q0 (b_X12_half_34 rec_14 x0 x1 x2 x3 x4 x5) (fun r => r.2) := by
  unfold b_X12_half_34
  refine KO_fx6 (fun rec_34 h_rec_34 q l1 l2 l3 l4 l5 h => ?_) FU x0 x1 x2 x3 x4 x5 h
  exact (KO_i (KO_i (k_b_X12_half_95 q0 rec_14 h_rec_14 q l1 l2 l3 h) (KO_i (k_b_X12_half_93 q0 rec_14 h_rec_14 q l1 l3 h) (KO_bp (fun r3 => (KO_bp (fun r4 => (KO_i (k_b_X12_half_95 q0 rec_14 h_rec_14 q l1 l2 l3 h) (k_b_X12_half_93 q0 rec_14 h_rec_14 q l1 l3 h)))))))) (KO_i (KO_bp (fun r8 => (KO_nv (fun v9 => (k_b_X12_half_64 q0 rec_14 h_rec_14 rec_34 h_rec_34 q l1 l2 l3 v9 l5 h))))) (k_b_X12_half_64 q0 rec_14 h_rec_14 rec_34 h_rec_34 q l1 l2 l3 l4 l5 h)))
theorem k_b_X12_half_14 (q0 : SS)  (x0 : SS) (x1 : Int32) (x2 : Int32) (x3 : Int32) (h : Fr wK vK q0 x0) : KO q0 (b_X12_half_14 x0 x1 x2 x3) (fun r => r.2) := by
  unfold b_X12_half_14
  refine KO_fx4 (fun rec_14 h_rec_14 q l1 l2 l3 h => ?_) FU x0 x1 x2 x3 h
  exact (KO_i (KO_some h) (KO_i (KO_some h) (k_b_X12_half_34 q0 rec_14 h_rec_14 q l1 l2 l3 (0 : Int32) (0 : Int32) h)))
theorem k_f_X12_half (q0 : SS) (q : SS) (h : Fr wK vK q0 q) : KO q0 (f_X12_half q) (fun r => r.2) := by
  unfold f_X12_half
  exact (KO_b (k_f_X12_layNow q0 q h) (fun r1 h_r1 => (KO_bp (fun r2 => (k_b_X12_half_14 q0 r1 r2 (-2 : Int32) (0 : Int32) h_r1)))))
theorem k_f_X11_share (q0 : SS) (q : SS) (a1 : Int32) (a2 : Int32) (h : Fr wK vK q0 q) : KO q0 (f_X11_share q a1 a2) (fun r => r.2) := by
  unfold f_X11_share
  exact (KO_bp (fun r1 => (KO_i (KO_some h) (KO_i (KO_some h) (KO_i (KO_b (k_f_X11_now q0 q h) (fun r2 h_r2 => (KO_bp (fun r3 => (KO_i (KO_some h_r2) (KO_bp (fun r4 => (KO_i KO_none (KO_some h_r2))))))))) (KO_some h))))))
theorem k_f_X12_share (q0 : SS) (q : SS) (a1 : Int32) (a2 : Int32) (h : Fr wK vK q0 q) : KO q0 (f_X12_share q a1 a2) (fun r => r.2) := by
  unfold f_X12_share
  exact (KO_bp (fun r1 => (KO_i (KO_some h) (KO_bp (fun r2 => (KO_i (KO_some h) (KO_b (k_f_X12_layNow q0 q h) (fun r3 h_r3 => (KO_bp (fun r4 => (KO_i (KO_some h_r3) (KO_bp (fun r5 => (KO_bp (fun r6 => (KO_i KO_none (KO_some h_r3)))))))))))))))))
theorem k_b_X11_friend_89 (q0 : SS)  (x0 : SS) (x1 : Int32) (x2 : Int32) (x3 : Int32) (x4 : Int32) (x5 : Int32) (h : Fr wK vK q0 x0) : KO q0 (b_X11_friend_89 x0 x1 x2 x3 x4 x5) (fun r => r.2) := by
  unfold b_X11_friend_89
  refine KO_fx6 (fun rec_89 h_rec_89 q l2 l4 l5 l6 l7 h => ?_) FU x0 x1 x2 x3 x4 x5 h
  exact (KO_i (KO_some h) (KO_i (h_rec_89 q l2 l4 l5 l6 (l7 + (1 : Int32)) h) (KO_some h)))
theorem k_b_X11_friend_84 (q0 : SS) (q : SS) (l2 : Int32) (l4 : Int32) (l5 : Int32) (s0 : Int32) (h : Fr wK vK q0 q) : KO q0 (b_X11_friend_84 q l2 l4 l5 s0) (fun r => r.2) := by
  unfold b_X11_friend_84
  exact (k_b_X11_friend_89 q0 q l2 l4 l5 s0 (0 : Int32) h)
theorem k_f_X11_friend (q0 : SS) (q : SS) (a1 : Int32) (a2 : Int32) (h : Fr wK vK q0 q) : KO q0 (f_X11_friend q a1 a2) (fun r => r.2) := by
  unfold f_X11_friend
  exact (KO_bp (fun r1 => (KO_i (KO_some h) (KO_i (KO_some h) (KO_i (KO_b (k_f_X11_now q0 q h) (fun r2 h_r2 => (KO_bp (fun r3 => (KO_i (KO_i (KO_some h_r2) (KO_some h_r2)) (KO_bp (fun r5 => (KO_bp (fun r6 => (KO_i (k_b_X11_friend_84 q0 r2 a2 r3 r5 (0 : Int32) h_r2) (KO_bp (fun r9 => (KO_bp (fun r10 => (k_b_X11_friend_84 q0 r2 a2 r3 r5 (r9 - r10) h_r2))))))))))))))) (KO_some h))))))
theorem k_b_X12_friend_91 (q0 : SS)  (x0 : SS) (x1 : Int32) (x2 : Int32) (x3 : Int32) (x4 : Int32) (x5 : Int32) (h : Fr wK vK q0 x0) : KO q0 (b_X12_friend_91 x0 x1 x2 x3 x4 x5) (fun r => r.2) := by
  unfold b_X12_friend_91
  refine KO_fx6 (fun rec_91 h_rec_91 q l1 l2 l3 l4 l5 h => ?_) FU x0 x1 x2 x3 x4 x5 h
  exact (KO_i (KO_some h) (KO_bp (fun r6 => (KO_i (h_rec_91 q l1 l2 l3 l4 (l5 + (1 : Int32)) h) (KO_some h)))))
theorem k_b_X12_friend_82 (q0 : SS) (rec_50 : SS → Int32 → Int32 → Int32 → Int32 → Int32 → Option (Int32 × SS)) (h_rec_50 : ∀ (a0 : SS) (a1 : Int32) (a2 : Int32) (a3 : Int32) (a4 : Int32) (a5 : Int32), Fr wK vK q0 a0 → KO q0 (rec_50 a0 a1 a2 a3 a4 a5) (fun r => r.2)) (q : SS) (l1 : Int32) (l2 : Int32) (l3 : Int32) (l4 : Int32) (l5 : Int32) (h : Fr wK vK q0 q) : KO q0 (b_X12_friend_82 rec_50 q l1 l2 l3 l4 l5) (fun r => r.2) := by
  unfold b_X12_friend_82
  exact (h_rec_50 q l1 l2 l3 l4 (l5 + (1 : Int32)) h)
theorem k_b_X12_friend_50 (q0 : SS)  (x0 : SS) (x1 : Int32) (x2 : Int32) (x3 : Int32) (x4 : Int32) (x5 : Int32) (h : Fr wK vK q0 x0) : KO q0 (b_X12_friend_50 x0 x1 x2 x3 x4 x5) (fun r => r.2) := by
  unfold b_X12_friend_50
  refine KO_fx6 (fun rec_50 h_rec_50 q l1 l2 l3 l4 l5 h => ?_) FU x0 x1 x2 x3 x4 x5 h
  exact (KO_i (k_b_X12_friend_91 q0 q l1 l2 l3 l4 (0 : Int32) h) (KO_ic (fun c0 => (KO_i (KO_bp (fun r9 => (KO_i (k_b_X12_friend_82 q0 rec_50 h_rec_50 q l1 l2 l3 l4 l5 h) (k_b_X12_friend_82 q0 rec_50 h_rec_50 q l1 l2 l3 (l4 + (1 : Int32)) l5 h)))) (k_b_X12_friend_82 q0 rec_50 h_rec_50 q l1 l2 l3 l4 l5 h))) KO_none))
theorem k_f_X12_friend (q0 : SS) (q : SS) (a1 : Int32) (a2 : Int32) (h : Fr wK vK q0 q) : KO q0 (f_X12_friend q a1 a2) (fun r => r.2) := by
  unfold f_X12_friend
  exact (KO_bp (fun r1 => (KO_i (KO_some h) (KO_bp (fun r2 => (KO_i (KO_some h) (KO_b (k_f_X12_layNow q0 q h) (fun r3 h_r3 => (KO_bp (fun r4 => (KO_i (KO_i (KO_some h_r3) (KO_some h_r3)) (k_b_X12_friend_50 q0 r3 a1 a2 r4 (0 : Int32) (0 : Int32) h_r3))))))))))))
theorem k_b_X11_hire_146 (q0 : SS) (q : SS) (l3 : Int32) (l4 : Int32) (l5 : Int32) (l6 : Int32) (h : Fr wK vK q0 q) : KO q0 (b_X11_hire_146 q l3 l4 l5 l6) (fun r => r.2) := by
  unfold b_X11_hire_146
  exact (KO_i (KO_i (KO_some h) (KO_some h)) (KO_some h))
theorem k_b_X11_hire_140 (q0 : SS) (rec_60 : SS → Int32 → Int32 → Int32 → Int32 → Int32 → Int32 → Option (Int32 × SS)) (h_rec_60 : ∀ (a0 : SS) (a1 : Int32) (a2 : Int32) (a3 : Int32) (a4 : Int32) (a5 : Int32) (a6 : Int32), Fr wK vK q0 a0 → KO q0 (rec_60 a0 a1 a2 a3 a4 a5 a6) (fun r => r.2)) (q : SS) (l1 : Int32) (l3 : Int32) (l4 : Int32) (l5 : Int32) (l6 : Int32) (l7 : Int32) (h : Fr wK vK q0 q) : KO q0 (b_X11_hire_140 rec_60 q l1 l3 l4 l5 l6 l7) (fun r => r.2) := by
  unfold b_X11_hire_140
  exact (h_rec_60 q l1 l3 l4 l5 l6 (l7 + (1 : Int32)) h)
theorem k_b_X11_hire_134 (q0 : SS) (rec_60 : SS → Int32 → Int32 → Int32 → Int32 → Int32 → Int32 → Option (Int32 × SS)) (h_rec_60 : ∀ (a0 : SS) (a1 : Int32) (a2 : Int32) (a3 : Int32) (a4 : Int32) (a5 : Int32) (a6 : Int32), Fr wK vK q0 a0 → KO q0 (rec_60 a0 a1 a2 a3 a4 a5 a6) (fun r => r.2)) (rec_75 : SS → Int32 → Int32 → Int32 → Int32 → Int32 → Int32 → Int32 → Option (Int32 × SS)) (h_rec_75 : ∀ (a0 : SS) (a1 : Int32) (a2 : Int32) (a3 : Int32) (a4 : Int32) (a5 : Int32) (a6 : Int32) (a7 : Int32), Fr wK vK q0 a0 → KO q0 (rec_75 a0 a1 a2 a3 a4 a5 a6 a7) (fun r => r.2)) (q : SS) (l1 : Int32) (l3 : Int32) (l4 : Int32) (l5 : Int32) (l6 : Int32) (l7 : Int32) (l8 : Int32) (h : Fr wK vK q0 q) : KO q0 (b_X11_hire_134 rec_60 rec_75 q l1 l3 l4 l5 l6 l7 l8) (fun r => r.2) := by
  unfold b_X11_hire_134
  exact (h_rec_75 q l1 l3 l4 l5 l6 l7 (l8 + (1 : Int32)) h)
theorem k_b_X11_hire_75 (q0 : SS) (rec_60 : SS → Int32 → Int32 → Int32 → Int32 → Int32 → Int32 → Option (Int32 × SS)) (h_rec_60 : ∀ (a0 : SS) (a1 : Int32) (a2 : Int32) (a3 : Int32) (a4 : Int32) (a5 : Int32) (a6 : Int32), Fr wK vK q0 a0 → KO q0 (rec_60 a0 a1 a2 a3 a4 a5 a6) (fun r => r.2)) (x0 : SS) (x1 : Int32) (x2 : Int32) (x3 : Int32) (x4 : Int32) (x5 : Int32) (x6 : Int32) (x7 : Int32) (h : Fr wK vK q0 x0) : KO q0 (b_X11_hire_75 rec_60 x0 x1 x2 x3 x4 x5 x6 x7) (fun r => r.2) := by
  unfold b_X11_hire_75
  refine KO_fx8 (fun rec_75 h_rec_75 q l1 l3 l4 l5 l6 l7 l8 h => ?_) FU x0 x1 x2 x3 x4 x5 x6 x7 h
  exact (KO_bp (fun r6 => (KO_i (k_b_X11_hire_140 q0 rec_60 h_rec_60 q l1 l3 l4 l5 l6 l7 h) (KO_i (k_b_X11_hire_140 q0 rec_60 h_rec_60 q l1 l3 l4 l5 l6 l7 h) (KO_bp (fun r7 => (KO_nv (fun v8 => (KO_i (k_b_X11_hire_134 q0 rec_60 h_rec_60 rec_75 h_rec_75 q l1 l3 l4 l5 l6 l7 l8 h) (KO_nv (fun v9 => (KO_nv (fun v10 => (k_b_X11_hire_134 q0 rec_60 h_rec_60 rec_75 h_rec_75 q l1 l3 v9 v10 l8 l7 l8 h))))))))))))))
theorem k_b_X11_hire_60 (q0 : SS)  (x0 : SS) (x1 : Int32) (x2 : Int32) (x3 : Int32) (x4 : Int32) (x5 : Int32) (x6 : Int32) (h : Fr wK vK q0 x0) : KO q0 (b_X11_hire_60 x0 x1 x2 x3 x4 x5 x6) (fun r => r.2) := by
  unfold b_X11_hire_60
  refine KO_fx7 (fun rec_60 h_rec_60 q l1 l3 l4 l5 l6 l7 h => ?_) FU x0 x1 x2 x3 x4 x5 x6 h
  exact (KO_i (k_b_X11_hire_146 q0 q l3 l4 l5 l6 h) (KO_i (k_b_X11_hire_146 q0 q l3 l4 l5 l6 h) (k_b_X11_hire_75 q0 rec_60 h_rec_60 q l1 l3 l4 l5 l6 l7 (0 : Int32) h)))
theorem k_f_X11_hire (q0 : SS) (q : SS) (a1 : Int32) (a2 : Int32) (a3 : Int32) (h : Fr wK vK q0 q) : KO q0 (f_X11_hire q a1 a2 a3) (fun r => r.2) := by
  unfold f_X11_hire
  exact (KO_bp (fun r1 => (KO_i (KO_some h) (KO_i (KO_some h) (KO_i (KO_some h) (KO_i (KO_some h) (KO_i (KO_b (k_f_X11_now q0 q h) (fun r2 h_r2 => (KO_bp (fun r3 => (KO_i (k_b_X11_hire_60 q0 r2 a1 a3 a2 (0 : Int32) (-2 : Int32) (0 : Int32) h_r2) (KO_some h_r2)))))) (KO_some h))))))))
theorem k_b_X12_hire_205 (q0 : SS) (rec_147 : SS → Int32 → Int32 → Int32 → Int32 → Int32 → Option (Int32 × SS)) (h_rec_147 : ∀ (a0 : SS) (a1 : Int32) (a2 : Int32) (a3 : Int32) (a4 : Int32) (a5 : Int32), Fr wK vK q0 a0 → KO q0 (rec_147 a0 a1 a2 a3 a4 a5) (fun r => r.2)) (rec_160 : SS → Int32 → Int32 → Int32 → Int32 → Int32 → Int32 → Option (Int32 × SS)) (h_rec_160 : ∀ (a0 : SS) (a1 : Int32) (a2 : Int32) (a3 : Int32) (a4 : Int32) (a5 : Int32) (a6 : Int32), Fr wK vK q0 a0 → KO q0 (rec_160 a0 a1 a2 a3 a4 a5 a6) (fun r => r.2)) (q : SS) (l2 : Int32) (l3 : Int32) (l5 : Int32) (l7 : Int32) (l8 : Int32) (l9 : Int32) (h : Fr wK vK q0 q) : KO q0 (b_X12_hire_205 rec_147 rec_160 q l2 l3 l5 l7 l8 l9) (fun r => r.2) := by
  unfold b_X12_hire_205
  exact (h_rec_160 q l2 l3 l5 l7 l8 (l9 + (1 : Int32)) h)
theorem k_b_X12_hire_201 (q0 : SS) (rec_147 : SS → Int32 → Int32 → Int32 → Int32 → Int32 → Option (Int32 × SS)) (h_rec_147 : ∀ (a0 : SS) (a1 : Int32) (a2 : Int32) (a3 : Int32) (a4 : Int32) (a5 : Int32), Fr wK vK q0 a0 → KO q0 (rec_147 a0 a1 a2 a3 a4 a5) (fun r => r.2)) (rec_160 : SS → Int32 → Int32 → Int32 → Int32 → Int32 → Int32 → Option (Int32 × SS)) (h_rec_160 : ∀ (a0 : SS) (a1 : Int32) (a2 : Int32) (a3 : Int32) (a4 : Int32) (a5 : Int32) (a6 : Int32), Fr wK vK q0 a0 → KO q0 (rec_160 a0 a1 a2 a3 a4 a5 a6) (fun r => r.2)) (q : SS) (l2 : Int32) (l3 : Int32) (l5 : Int32) (l7 : Int32) (l9 : Int32) (h : Fr wK vK q0 q) : KO q0 (b_X12_hire_201 rec_147 rec_160 q l2 l3 l5 l7 l9) (fun r => r.2) := by
  unfold b_X12_hire_201
  exact (k_b_X12_hire_205 q0 rec_147 h_rec_147 rec_160 h_rec_160 q l2 l3 l5 l7 l9 l9 h)
theorem k_b_X12_hire_160 (q0 : SS) (rec_147 : SS → Int32 → Int32 → Int32 → Int32 → Int32 → Option (Int32 × SS)) (h_rec_147 : ∀ (a0 : SS) (a1 : Int32) (a2 : Int32) (a3 : Int32) (a4 : Int32) (a5 : Int32), Fr wK vK q0 a0 → KO q0 (rec_147 a0 a1 a2 a3 a4 a5) (fun r => r.2)) (x0 : SS) (x1 : Int32) (x2 : Int32) (x3 : Int32) (x4 : Int32) (x5 : Int32) (x6 : Int32) (h : Fr wK vK q0 x0) : KO q0 (b_X12_hire_160 rec_147 x0 x1 x2 x3 x4 x5 x6) (fun r => r.2) := by
  unfold b_X12_hire_160
  refine KO_fx7 (fun rec_160 h_rec_160 q l2 l3 l5 l7 l8 l9 h => ?_) FU x0 x1 x2 x3 x4 x5 x6 h
  exact (KO_i (KO_i (KO_ic (fun c0 => (KO_ic (fun c1 => (KO_ns (Fr_sI h rfl) (fun q5 h_q5 => (KO_ic (fun c2 => (KO_nv (fun v6 => (h_rec_147 q5 l2 l3 v6 l8 (l7 + (1 : Int32)) h_q5)))) KO_none)))) KO_none)) KO_none) (KO_some h)) (KO_ic (fun c3 => (KO_i (k_b_X12_hire_205 q0 rec_147 h_rec_147 rec_160 h_rec_160 q l2 l3 l5 l7 l8 l9 h) (KO_i (k_b_X12_hire_201 q0 rec_147 h_rec_147 rec_160 h_rec_160 q l2 l3 l5 l7 l9 h) (KO_ic (fun c4 => (KO_ic (fun c5 => (KO_i (k_b_X12_hire_205 q0 rec_147 h_rec_147 rec_160 h_rec_160 q l2 l3 l5 l7 l8 l9 h) (k_b_X12_hire_201 q0 rec_147 h_rec_147 rec_160 h_rec_160 q l2 l3 l5 l7 l9 h))) KO_none)) KO_none)))) KO_none))
theorem k_b_X12_hire_147 (q0 : SS)  (x0 : SS) (x1 : Int32) (x2 : Int32) (x3 : Int32) (x4 : Int32) (x5 : Int32) (h : Fr wK vK q0 x0) : KO q0 (b_X12_hire_147 x0 x1 x2 x3 x4 x5) (fun r => r.2) := by
  unfold b_X12_hire_147
  refine KO_fx6 (fun rec_147 h_rec_147 q l2 l3 l5 l6 l7 h => ?_) FU x0 x1 x2 x3 x4 x5 h
  exact (KO_i (KO_i (KO_some h) (KO_some h)) (k_b_X12_hire_160 q0 rec_147 h_rec_147 q l2 l3 l5 l7 (-2 : Int32) (0 : Int32) h))
theorem k_b_X12_hire_130 (q0 : SS) (rec_87 : SS → Int32 → Int32 → Int32 → Int32 → Option (Int32 × SS)) (h_rec_87 : ∀ (a0 : SS) (a1 : Int32) (a2 : Int32) (a3 : Int32) (a4 : Int32), Fr wK vK q0 a0 → KO q0 (rec_87 a0 a1 a2 a3 a4) (fun r => r.2)) (q : SS) (l1 : Int32) (l2 : Int32) (l3 : Int32) (l5 : Int32) (s0 : Int32) (s1 : Int32) (h : Fr wK vK q0 q) : KO q0 (b_X12_hire_130 rec_87 q l1 l2 l3 l5 s0 s1) (fun r => r.2) := by
  unfold b_X12_hire_130
  exact (KO_ic (fun c0 => (KO_ns (Fr_sI h rfl) (fun q13 h_q13 => (h_rec_87 q13 l1 l2 l3 (l5 + (1 : Int32)) h_q13)))) KO_none)
theorem k_b_X12_hire_119 (q0 : SS) (rec_87 : SS → Int32 → Int32 → Int32 → Int32 → Option (Int32 × SS)) (h_rec_87 : ∀ (a0 : SS) (a1 : Int32) (a2 : Int32) (a3 : Int32) (a4 : Int32), Fr wK vK q0 a0 → KO q0 (rec_87 a0 a1 a2 a3 a4) (fun r => r.2)) (q : SS) (l1 : Int32) (l2 : Int32) (l3 : Int32) (l5 : Int32) (s0 : Int32) (h : Fr wK vK q0 q) : KO q0 (b_X12_hire_119 rec_87 q l1 l2 l3 l5 s0) (fun r => r.2) := by
  unfold b_X12_hire_119
  exact (k_b_X12_hire_130 q0 rec_87 h_rec_87 q l1 l2 l3 l5 (0 : Int32) s0 h)
theorem k_b_X12_hire_87 (q0 : SS)  (x0 : SS) (x1 : Int32) (x2 : Int32) (x3 : Int32) (x4 : Int32) (h : Fr wK vK q0 x0) : KO q0 (b_X12_hire_87 x0 x1 x2 x3 x4) (fun r => r.2) := by
  unfold b_X12_hire_87
  refine KO_fx5 (fun rec_87 h_rec_87 q l1 l2 l3 l5 h => ?_) FU x0 x1 x2 x3 x4 h
  exact (KO_i (k_b_X12_hire_147 q0 q l2 l3 (0 : Int32) (-2 : Int32) (0 : Int32) h) (KO_i (k_b_X12_hire_119 q0 rec_87 h_rec_87 q l1 l2 l3 l5 l5 h) (KO_ic (fun c0 => (KO_i (k_b_X12_hire_119 q0 rec_87 h_rec_87 q l1 l2 l3 l5 l5 h) (KO_ic (fun c1 => (k_b_X12_hire_130 q0 rec_87 h_rec_87 q l1 l2 l3 l5 (q.1 64 l5.toNatClampNeg) l5 h)) KO_none))) KO_none)))
theorem k_b_X12_hire_69 (q0 : SS) (rec_35 : SS → Int32 → Int32 → Int32 → Int32 → Int32 → Option (Int32 × SS)) (h_rec_35 : ∀ (a0 : SS) (a1 : Int32) (a2 : Int32) (a3 : Int32) (a4 : Int32) (a5 : Int32), Fr wK vK q0 a0 → KO q0 (rec_35 a0 a1 a2 a3 a4 a5) (fun r => r.2)) (q : SS) (l1 : Int32) (l2 : Int32) (l3 : Int32) (l4 : Int32) (l5 : Int32) (h : Fr wK vK q0 q) : KO q0 (b_X12_hire_69 rec_35 q l1 l2 l3 l4 l5) (fun r => r.2) := by
  unfold b_X12_hire_69
  exact (h_rec_35 q l1 l2 l3 l4 (l5 + (1 : Int32)) h)
theorem k_b_X12_hire_35 (q0 : SS)  (x0 : SS) (x1 : Int32) (x2 : Int32) (x3 : Int32) (x4 : Int32) (x5 : Int32) (h : Fr wK vK q0 x0) : KO q0 (b_X12_hire_35 x0 x1 x2 x3 x4 x5) (fun r => r.2) := by
  unfold b_X12_hire_35
  refine KO_fx6 (fun rec_35 h_rec_35 q l1 l2 l3 l4 l5 h => ?_) FU x0 x1 x2 x3 x4 x5 h
  exact (KO_i (KO_i (k_b_X12_hire_87 q0 q l1 l2 l3 (0 : Int32) h) (KO_some h)) (KO_ic (fun c0 => (KO_i (KO_ic (fun c1 => (KO_i (k_b_X12_hire_69 q0 rec_35 h_rec_35 q l1 l2 l3 l4 l5 h) (k_b_X12_hire_69 q0 rec_35 h_rec_35 q l1 l2 l3 (l4 + (1 : Int32)) l5 h))) KO_none) (k_b_X12_hire_69 q0 rec_35 h_rec_35 q l1 l2 l3 l4 l5 h))) KO_none))
theorem k_f_X12_hire (q0 : SS) (q : SS) (a1 : Int32) (a2 : Int32) (a3 : Int32) (h : Fr wK vK q0 q) : KO q0 (f_X12_hire q a1 a2 a3) (fun r => r.2) := by
  unfold f_X12_hire
  exact (KO_bp (fun r1 => (KO_i (KO_some h) (KO_bp (fun r2 => (KO_i (KO_some h) (KO_bp (fun r3 => (KO_i (KO_some h) (k_b_X12_hire_35 q0 q a1 a2 a3 (0 : Int32) (0 : Int32) h))))))))))
theorem k_b_X6_sortTickets_101 (q0 : SS) (rec_38 : SS → Int32 → Option SS) (h_rec_38 : ∀ (a0 : SS) (a1 : Int32), Fr wK vK q0 a0 → KO q0 (rec_38 a0 a1) (fun r => r)) (q : SS) (l1 : Int32) (h : Fr wK vK q0 q) : KO q0 (b_X6_sortTickets_101 rec_38 q l1) (fun r => r) := by
  unfold b_X6_sortTickets_101
  exact (h_rec_38 q (l1 + (-1 : Int32)) h)
theorem k_b_X6_sortTickets_38 (q0 : SS)  (x0 : SS) (x1 : Int32) (h : Fr wK vK q0 x0) : KO q0 (b_X6_sortTickets_38 x0 x1) (fun r => r) := by
  unfold b_X6_sortTickets_38
  refine KO_fx2 (fun rec_38 h_rec_38 q l1 h => ?_) FU x0 x1 h
  exact (KO_i (KO_some h) (KO_bp (fun r3 => (KO_i (k_b_X6_sortTickets_101 q0 rec_38 h_rec_38 q l1 h) (KO_bp (fun r4 => (KO_i (k_b_X6_sortTickets_101 q0 rec_38 h_rec_38 q l1 h) (KO_bp (fun r5 => (KO_i (KO_ic (fun c0 => (KO_ic (fun c1 => (KO_ns (Fr_sI h rfl) (fun q6 h_q6 => (KO_ic (fun c2 => (KO_ns (Fr_sI h_q6 rfl) (fun q7 h_q7 => (k_b_X6_sortTickets_101 q0 rec_38 h_rec_38 q7 l1 h_q7)))) KO_none)))) KO_none)) KO_none) (k_b_X6_sortTickets_101 q0 rec_38 h_rec_38 q l1 h)))))))))))
theorem k_b_X6_sortTickets_2 (q0 : SS)  (x0 : SS) (x1 : Int32) (h : Fr wK vK q0 x0) : KO q0 (b_X6_sortTickets_2 x0 x1) (fun r => r) := by
  unfold b_X6_sortTickets_2
  refine KO_fx2 (fun rec_2 h_rec_2 q l1 h => ?_) FU x0 x1 h
  exact (KO_i (KO_bp (fun r1 => (KO_nv (fun v2 => (k_b_X6_sortTickets_38 q0 q v2 h))))) (KO_ic (fun c0 => (KO_ns (Fr_sI h rfl) (fun q12 h_q12 => (KO_ic (fun c1 => (KO_ns (Fr_sI h_q12 rfl) (fun q13 h_q13 => (h_rec_2 q13 (l1 + (1 : Int32)) h_q13)))) KO_none)))) KO_none))
theorem k_f_X6_sortTickets (q0 : SS) (q : SS) (h : Fr wK vK q0 q) : KO q0 (f_X6_sortTickets q) (fun r => r) := by
  unfold f_X6_sortTickets
  exact (k_b_X6_sortTickets_2 q0 q (0 : Int32) h)
theorem k_b_X6_workOutHour_114 (q0 : SS) (rec_17 : SS → Int32 → Int32 → Int32 → Option SS) (h_rec_17 : ∀ (a0 : SS) (a1 : Int32) (a2 : Int32) (a3 : Int32), Fr wK vK q0 a0 → KO q0 (rec_17 a0 a1 a2 a3) (fun r => r)) (rec_41 : SS → Int32 → Int32 → Int32 → Int32 → Int32 → Option SS) (h_rec_41 : ∀ (a0 : SS) (a1 : Int32) (a2 : Int32) (a3 : Int32) (a4 : Int32) (a5 : Int32), Fr wK vK q0 a0 → KO q0 (rec_41 a0 a1 a2 a3 a4 a5) (fun r => r)) (rec_50 : SS → Int32 → Int32 → Int32 → Int32 → Int32 → Int32 → Option SS) (h_rec_50 : ∀ (a0 : SS) (a1 : Int32) (a2 : Int32) (a3 : Int32) (a4 : Int32) (a5 : Int32) (a6 : Int32), Fr wK vK q0 a0 → KO q0 (rec_50 a0 a1 a2 a3 a4 a5 a6) (fun r => r)) (q : SS) (l1 : Int32) (l2 : Int32) (l3 : Int32) (l4 : Int32) (l5 : Int32) (l6 : Int32) (h : Fr wK vK q0 q) : KO q0 (b_X6_workOutHour_114 rec_17 rec_41 rec_50 q l1 l2 l3 l4 l5 l6) (fun r => r) := by
  unfold b_X6_workOutHour_114
  exact (h_rec_50 q l1 l2 l3 l4 l5 (l6 + (1 : Int32)) h)
theorem k_b_X6_workOutHour_50 (q0 : SS) (rec_17 : SS → Int32 → Int32 → Int32 → Option SS) (h_rec_17 : ∀ (a0 : SS) (a1 : Int32) (a2 : Int32) (a3 : Int32), Fr wK vK q0 a0 → KO q0 (rec_17 a0 a1 a2 a3) (fun r => r)) (rec_41 : SS → Int32 → Int32 → Int32 → Int32 → Int32 → Option SS) (h_rec_41 : ∀ (a0 : SS) (a1 : Int32) (a2 : Int32) (a3 : Int32) (a4 : Int32) (a5 : Int32), Fr wK vK q0 a0 → KO q0 (rec_41 a0 a1 a2 a3 a4 a5) (fun r => r)) (x0 : SS) (x1 : Int32) (x2 : Int32) (x3 : Int32) (x4 : Int32) (x5 : Int32) (x6 : Int32) (h : Fr wK vK q0 x0) : KO q0 (b_X6_workOutHour_50 rec_17 rec_41 x0 x1 x2 x3 x4 x5 x6) (fun r => r) := by
  unfold b_X6_workOutHour_50
  refine KO_fx7 (fun rec_50 h_rec_50 q l1 l2 l3 l4 l5 l6 h => ?_) FU x0 x1 x2 x3 x4 x5 x6 h
  exact (KO_i (h_rec_41 q l1 l2 l3 l4 (l5 + (1 : Int32)) h) (KO_bp (fun r5 => (KO_i (k_b_X6_workOutHour_114 q0 rec_17 h_rec_17 rec_41 h_rec_41 rec_50 h_rec_50 q l1 l2 l3 l4 l5 l6 h) (KO_ic (fun c0 => (KO_i (k_b_X6_workOutHour_114 q0 rec_17 h_rec_17 rec_41 h_rec_41 rec_50 h_rec_50 q l1 l2 l3 l4 l5 l6 h) (KO_b (k_f_X8_oddsBy q0 q (q.1 42 6) l3 (l4 + l5) l6 l2 h) (fun r6 h_r6 => (KO_ic (fun c1 => (KO_ns (Fr_sI h_r6 rfl) (fun q7 h_q7 => (k_b_X6_workOutHour_114 q0 rec_17 h_rec_17 rec_41 h_rec_41 rec_50 h_rec_50 q7 l1 l2 l3 l4 l5 l6 h_q7)))) KO_none))))) KO_none)))))
theorem k_b_X6_workOutHour_41 (q0 : SS) (rec_17 : SS → Int32 → Int32 → Int32 → Option SS) (h_rec_17 : ∀ (a0 : SS) (a1 : Int32) (a2 : Int32) (a3 : Int32), Fr wK vK q0 a0 → KO q0 (rec_17 a0 a1 a2 a3) (fun r => r)) (x0 : SS) (x1 : Int32) (x2 : Int32) (x3 : Int32) (x4 : Int32) (x5 : Int32) (h : Fr wK vK q0 x0) : KO q0 (b_X6_workOutHour_41 rec_17 x0 x1 x2 x3 x4 x5) (fun r => r) := by
  unfold b_X6_workOutHour_41
  refine KO_fx6 (fun rec_41 h_rec_41 q l1 l2 l3 l4 l5 h => ?_) FU x0 x1 x2 x3 x4 x5 h
  exact (KO_i (h_rec_17 q l1 l2 (l3 + (1 : Int32)) h) (k_b_X6_workOutHour_50 q0 rec_17 h_rec_17 rec_41 h_rec_41 q l1 l2 l3 l4 l5 (0 : Int32) h))
theorem k_b_X6_workOutHour_17 (q0 : SS)  (x0 : SS) (x1 : Int32) (x2 : Int32) (x3 : Int32) (h : Fr wK vK q0 x0) : KO q0 (b_X6_workOutHour_17 x0 x1 x2 x3) (fun r => r) := by
  unfold b_X6_workOutHour_17
  refine KO_fx4 (fun rec_17 h_rec_17 q l1 l2 l3 h => ?_) FU x0 x1 x2 x3 h
  exact (KO_bp (fun r3 => (KO_i (KO_some h) (KO_bp (fun r4 => (k_b_X6_workOutHour_41 q0 rec_17 h_rec_17 q l1 l2 l3 r4 (0 : Int32) h))))))
theorem k_f_X6_workOutHour (q0 : SS) (q : SS) (a1 : Int32) (h : Fr wK vK q0 q) : KO q0 (f_X6_workOutHour q a1) (fun r => r) := by
  unfold f_X6_workOutHour
  exact (KO_bp (fun r1 => (KO_nv (fun v2 => (k_b_X6_workOutHour_17 q0 q a1 v2 (0 : Int32) h)))))
theorem k_b_X6_begin_72 (q0 : SS)  (x0 : SS) (x1 : Int32) (h : Fr wK vK q0 x0) : KO q0 (b_X6_begin_72 x0 x1) (fun r => r) := by
  unfold b_X6_begin_72
  refine KO_fx2 (fun rec_72 h_rec_72 q l3 h => ?_) FU x0 x1 h
  exact (KO_i (KO_some h) (KO_b (k_f_X6_workOutHour q0 q l3 h) (fun r9 h_r9 => (h_rec_72 r9 (l3 + (1 : Int32)) h_r9))))
theorem k_b_X6_begin_47 (q0 : SS)  (x0 : SS) (x1 : Int32) (h : Fr wK vK q0 x0) : KO q0 (b_X6_begin_47 x0 x1) (fun r => r) := by
  unfold b_X6_begin_47
  refine KO_fx2 (fun rec_47 h_rec_47 q l3 h => ?_) FU x0 x1 h
  exact (KO_i (KO_b (k_f_X6_sortTickets q0 q h) (fun r8 h_r8 => (k_b_X6_begin_72 q0 r8 (0 : Int32) h_r8))) (KO_ic (fun c0 => (KO_ns (Fr_sI h rfl) (fun q11 h_q11 => (h_rec_47 q11 (l3 + (1 : Int32)) h_q11)))) KO_none))
theorem k_f_X6_begin (q0 : SS) (q : SS) (a1 : Int32) (a2 : Int32) (h : Fr wK vK q0 q) : KO q0 (f_X6_begin q a1 a2) (fun r => r) := by
  unfold f_X6_begin
  exact (KO_b (k_f_X8_begin q0 q h) (fun r1 h_r1 => (KO_ns (Fr_sI h_r1 rfl) (fun q2 h_q2 => (KO_ns (Fr_sI h_q2 rfl) (fun q3 h_q3 => (KO_bp (fun r4 => (KO_ns (Fr_sI h_q3 rfl) (fun q5 h_q5 => (KO_bp (fun r6 => (KO_ns (Fr_sI h_q5 rfl) (fun q7 h_q7 => (k_b_X6_begin_47 q0 q7 (0 : Int32) h_q7)))))))))))))))
def KG_X6_best (q0 : SS) (r : GT_X6_best) : Prop := (∀ (a0 : SS) (a1 : Int32) (a2 : Int32), Fr wK vK q0 a0 → KO q0 (r.1 a0 a1 a2) (fun r => r.2)) ∧ (∀ (a0 : SS) (a1 : Int32) (a2 : Int32) (a3 : Int32) (a4 : Int32) (a5 : Int32), Fr wK vK q0 a0 → KO q0 (r.2 a0 a1 a2 a3 a4 a5) (fun r => r.2))
theorem k_b_X6_best_13 (q0 : SS) (r : GT_X6_best) (hr : KG_X6_best q0 r) (q : SS) (l2 : Int32) (h : Fr wK vK q0 q) : KO q0 (b_X6_best_13 r q l2) (fun r => r.2) := by
  unfold b_X6_best_13
  exact (KO_some h)
theorem k_b_X6_best_47 (q0 : SS) (r : GT_X6_best) (hr : KG_X6_best q0 r) (rec_38 : SS → Int32 → Int32 → Int32 → Int32 → Int32 → Option (Int32 × SS)) (h_rec_38 : ∀ (a0 : SS) (a1 : Int32) (a2 : Int32) (a3 : Int32) (a4 : Int32) (a5 : Int32), Fr wK vK q0 a0 → KO q0 (rec_38 a0 a1 a2 a3 a4 a5) (fun r => r.2)) (x0 : SS) (x1 : Int32) (x2 : Int32) (x3 : Int32) (x4 : Int32) (x5 : Int32) (x6 : Int32) (h : Fr wK vK q0 x0) : KO q0 (b_X6_best_47 r rec_38 x0 x1 x2 x3 x4 x5 x6) (fun r => r.2) := by
  unfold b_X6_best_47
  refine KO_fx7 (fun rec_47 h_rec_47 q l1 l2 l3 l4 l5 l6 h => ?_) FU x0 x1 x2 x3 x4 x5 x6 h
  exact (KO_bp (fun r3 => (KO_i (h_rec_38 q l1 l2 l3 l4 (l5 + (1 : Int32)) h) (KO_b (hr.2 q l1 l2 l5 l6 l3 h) (fun r4 h_r4 => (KO_nv (fun v5 => (h_rec_47 r4.2 l1 l2 l3 v5 l5 (l6 + (1 : Int32)) h_r4))))))))
theorem k_b_X6_best_38 (q0 : SS) (r : GT_X6_best) (hr : KG_X6_best q0 r) (x0 : SS) (x1 : Int32) (x2 : Int32) (x3 : Int32) (x4 : Int32) (x5 : Int32) (h : Fr wK vK q0 x0) : KO q0 (b_X6_best_38 r x0 x1 x2 x3 x4 x5) (fun r => r.2) := by
  unfold b_X6_best_38
  refine KO_fx6 (fun rec_38 h_rec_38 q l1 l2 l3 l4 l5 h => ?_) FU x0 x1 x2 x3 x4 x5 h
  exact (KO_i (KO_some h) (k_b_X6_best_47 q0 r hr rec_38 h_rec_38 q l1 l2 l3 l4 l5 (0 : Int32) h))
theorem k_fb_X6_best (q0 : SS) (r : GT_X6_best) (hr : KG_X6_best q0 r) (q : SS) (a1 : Int32) (a2 : Int32) (h : Fr wK vK q0 q) : KO q0 (fb_X6_best r q a1 a2) (fun r => r.2) := by
  unfold fb_X6_best
  exact (KO_i (k_b_X6_best_13 q0 r hr q a2 h) (KO_i (KO_b (hr.1 q (a1 + (1 : Int32)) a2 h) (fun r1 h_r1 => (KO_nv (fun v2 => (k_b_X6_best_38 q0 r hr r1.2 a1 a2 r1.1 v2 (0 : Int32) h_r1))))) (k_b_X6_best_13 q0 r hr q a2 h)))
theorem k_fb_X6_tried (q0 : SS) (r : GT_X6_best) (hr : KG_X6_best q0 r) (q : SS) (a1 : Int32) (a2 : Int32) (a3 : Int32) (a4 : Int32) (a5 : Int32) (h : Fr wK vK q0 q) : KO q0 (fb_X6_tried r q a1 a2 a3 a4 a5) (fun r => r.2) := by
  unfold fb_X6_tried
  exact (KO_bp (fun r1 => (KO_i (KO_some h) (KO_ic (fun c0 => (KO_ic (fun c1 => (KO_ns (Fr_sI h rfl) (fun q2 h_q2 => (KO_ic (fun c2 => (KO_ic (fun c3 => (KO_ns (Fr_sI h_q2 rfl) (fun q3 h_q3 => (KO_b (hr.1 q3 (a1 + (1 : Int32)) (a2 + (1 : Int32)) h_q3) (fun r4 h_r4 => (KO_ic (fun c4 => (KO_ic (fun c5 => (KO_ns (Fr_sI h_r4 rfl) (fun q5 h_q5 => (KO_ic (fun c6 => (KO_ic (fun c7 => (KO_ns (Fr_sI h_q5 rfl) (fun q6 h_q6 => (KO_some h_q6)))) KO_none)) KO_none)))) KO_none)) KO_none)))))) KO_none)) KO_none)))) KO_none)) KO_none))))
theorem kg_X6_best (q0 : SS) : ∀ n, KG_X6_best q0 (g_X6_best n)
  | 0 => ⟨(fun _ _ _ _ => KO_none), (fun _ _ _ _ _ _ _ => KO_none)⟩
  | n + 1 => ⟨(fun a0 a1 a2 h => k_fb_X6_best q0 (g_X6_best n) (kg_X6_best q0 n) a0 a1 a2 h), (fun a0 a1 a2 a3 a4 a5 h => k_fb_X6_tried q0 (g_X6_best n) (kg_X6_best q0 n) a0 a1 a2 a3 a4 a5 h)⟩
theorem k_f_X6_best (q0 : SS) (x0 : SS) (x1 : Int32) (x2 : Int32) (h : Fr wK vK q0 x0) : KO q0 (f_X6_best x0 x1 x2) (fun r => r.2) := (kg_X6_best q0 60).1 x0 x1 x2 h
theorem k_f_X6_tried (q0 : SS) (x0 : SS) (x1 : Int32) (x2 : Int32) (x3 : Int32) (x4 : Int32) (x5 : Int32) (h : Fr wK vK q0 x0) : KO q0 (f_X6_tried x0 x1 x2 x3 x4 x5) (fun r => r.2) := (kg_X6_best q0 60).2 x0 x1 x2 x3 x4 x5 h
theorem k_b_X6_firstSlipping_105 (q0 : SS) (rec_28 : SS → Int32 → Int32 → Int32 → Int32 → Option (Int32 × SS)) (h_rec_28 : ∀ (a0 : SS) (a1 : Int32) (a2 : Int32) (a3 : Int32) (a4 : Int32), Fr wK vK q0 a0 → KO q0 (rec_28 a0 a1 a2 a3 a4) (fun r => r.2)) (rec_37 : SS → Int32 → Int32 → Int32 → Int32 → Int32 → Option (Int32 × SS)) (h_rec_37 : ∀ (a0 : SS) (a1 : Int32) (a2 : Int32) (a3 : Int32) (a4 : Int32) (a5 : Int32), Fr wK vK q0 a0 → KO q0 (rec_37 a0 a1 a2 a3 a4 a5) (fun r => r.2)) (q : SS) (l1 : Int32) (l2 : Int32) (l3 : Int32) (l4 : Int32) (l5 : Int32) (h : Fr wK vK q0 q) : KO q0 (b_X6_firstSlipping_105 rec_28 rec_37 q l1 l2 l3 l4 l5) (fun r => r.2) := by
  unfold b_X6_firstSlipping_105
  exact (h_rec_37 q l1 l2 l3 l4 (l5 + (1 : Int32)) h)
theorem k_b_X6_firstSlipping_99 (q0 : SS) (rec_28 : SS → Int32 → Int32 → Int32 → Int32 → Option (Int32 × SS)) (h_rec_28 : ∀ (a0 : SS) (a1 : Int32) (a2 : Int32) (a3 : Int32) (a4 : Int32), Fr wK vK q0 a0 → KO q0 (rec_28 a0 a1 a2 a3 a4) (fun r => r.2)) (rec_37 : SS → Int32 → Int32 → Int32 → Int32 → Int32 → Option (Int32 × SS)) (h_rec_37 : ∀ (a0 : SS) (a1 : Int32) (a2 : Int32) (a3 : Int32) (a4 : Int32) (a5 : Int32), Fr wK vK q0 a0 → KO q0 (rec_37 a0 a1 a2 a3 a4 a5) (fun r => r.2)) (q : SS) (l1 : Int32) (l4 : Int32) (l5 : Int32) (l6 : Int32) (l7 : Int32) (h : Fr wK vK q0 q) : KO q0 (b_X6_firstSlipping_99 rec_28 rec_37 q l1 l4 l5 l6 l7) (fun r => r.2) := by
  unfold b_X6_firstSlipping_99
  exact (k_b_X6_firstSlipping_105 q0 rec_28 h_rec_28 rec_37 h_rec_37 q l1 l6 l7 l4 l5 h)
theorem k_b_X6_firstSlipping_37 (q0 : SS) (rec_28 : SS → Int32 → Int32 → Int32 → Int32 → Option (Int32 × SS)) (h_rec_28 : ∀ (a0 : SS) (a1 : Int32) (a2 : Int32) (a3 : Int32) (a4 : Int32), Fr wK vK q0 a0 → KO q0 (rec_28 a0 a1 a2 a3 a4) (fun r => r.2)) (x0 : SS) (x1 : Int32) (x2 : Int32) (x3 : Int32) (x4 : Int32) (x5 : Int32) (h : Fr wK vK q0 x0) : KO q0 (b_X6_firstSlipping_37 rec_28 x0 x1 x2 x3 x4 x5) (fun r => r.2) := by
  unfold b_X6_firstSlipping_37
  refine KO_fx6 (fun rec_37 h_rec_37 q l1 l2 l3 l4 l5 h => ?_) FU x0 x1 x2 x3 x4 x5 h
  exact (KO_bp (fun r3 => (KO_i (h_rec_28 q l1 l2 l3 (l4 + (1 : Int32)) h) (KO_b (k_f_X6_tried q0 q (0 : Int32) (0 : Int32) l4 l5 l1 h) (fun r4 h_r4 => (KO_ic (fun c0 => (KO_nv (fun v5 => (KO_i (k_b_X6_firstSlipping_99 q0 rec_28 h_rec_28 rec_37 h_rec_37 r4.2 l1 l4 l5 r4.1 v5 h_r4) (KO_i (KO_i (k_b_X6_firstSlipping_105 q0 rec_28 h_rec_28 rec_37 h_rec_37 r4.2 l1 l2 l3 l4 l5 h_r4) (KO_i (k_b_X6_firstSlipping_105 q0 rec_28 h_rec_28 rec_37 h_rec_37 r4.2 l1 l2 l3 l4 l5 h_r4) (k_b_X6_firstSlipping_99 q0 rec_28 h_rec_28 rec_37 h_rec_37 r4.2 l1 l4 l5 r4.1 v5 h_r4))) (k_b_X6_firstSlipping_105 q0 rec_28 h_rec_28 rec_37 h_rec_37 r4.2 l1 l2 l3 l4 l5 h_r4)))))) KO_none))))))
theorem k_b_X6_firstSlipping_28 (q0 : SS)  (x0 : SS) (x1 : Int32) (x2 : Int32) (x3 : Int32) (x4 : Int32) (h : Fr wK vK q0 x0) : KO q0 (b_X6_firstSlipping_28 x0 x1 x2 x3 x4) (fun r => r.2) := by
  unfold b_X6_firstSlipping_28
  refine KO_fx5 (fun rec_28 h_rec_28 q l1 l2 l3 l4 h => ?_) FU x0 x1 x2 x3 x4 h
  exact (KO_i (KO_some h) (k_b_X6_firstSlipping_37 q0 rec_28 h_rec_28 q l1 l2 l3 l4 (0 : Int32) h))
theorem k_f_X6_firstSlipping (q0 : SS) (q : SS) (h : Fr wK vK q0 q) : KO q0 (f_X6_firstSlipping q) (fun r => r.2) := by
  unfold f_X6_firstSlipping
  exact (KO_i (KO_some h) (KO_b (k_f_X6_best q0 q (1 : Int32) (0 : Int32) h) (fun r1 h_r1 => (KO_nv (fun v2 => (k_b_X6_firstSlipping_28 q0 r1.2 r1.1 v2 (-2 : Int32) (0 : Int32) h_r1))))))
theorem k_f_X11_first (q0 : SS) (q : SS) (a1 : Int32) (a2 : Int32) (h : Fr wK vK q0 q) : KO q0 (f_X11_first q a1 a2) (fun r => r.2) := by
  unfold f_X11_first
  exact (KO_bp (fun r1 => (KO_i (KO_some h) (KO_i (KO_some h) (KO_i (KO_b (k_f_X6_begin q0 q a1 a2 h) (fun r2 h_r2 => (KO_b (k_f_X6_firstSlipping q0 r2 h_r2) (fun r3 h_r3 => (KO_some h_r3))))) (KO_some h))))))
def KG_X12_leftBy (q0 : SS) (r : GT_X12_leftBy) : Prop := (∀ (a0 : SS) (a1 : Int32) (a2 : Int32) (a3 : Int32) (a4 : Int64), Fr wK vK q0 a0 → KO q0 (r.1 a0 a1 a2 a3 a4) (fun r => r.2)) ∧ (∀ (a0 : SS) (a1 : Int32) (a2 : Int32) (a3 : Int32) (a4 : Int64) (a5 : Int32) (a6 : Int32), Fr wK vK q0 a0 → KO q0 (r.2.1 a0 a1 a2 a3 a4 a5 a6) (fun r => r.2)) ∧ (∀ (a0 : SS) (a1 : Int32) (a2 : Int32) (a3 : Int32), Fr wK vK q0 a0 → KO q0 (r.2.2 a0 a1 a2 a3) (fun r => r.2))
theorem k_b_X12_leftBy_100 (q0 : SS) (r : GT_X12_leftBy) (hr : KG_X12_leftBy q0 r) (rec_7 : SS → Int32 → Int32 → Int32 → Int64 → Int64 → Int32 → Option (Int64 × SS)) (h_rec_7 : ∀ (a0 : SS) (a1 : Int32) (a2 : Int32) (a3 : Int32) (a4 : Int64) (a5 : Int64) (a6 : Int32), Fr wK vK q0 a0 → KO q0 (rec_7 a0 a1 a2 a3 a4 a5 a6) (fun r => r.2)) (q : SS) (l1 : Int32) (l2 : Int32) (l3 : Int32) (l4 : Int64) (l6 : Int64) (l8 : Int32) (h : Fr wK vK q0 q) : KO q0 (b_X12_leftBy_100 r rec_7 q l1 l2 l3 l4 l6 l8) (fun r => r.2) := by
  unfold b_X12_leftBy_100
  exact (h_rec_7 q l1 l2 l3 l4 l6 (l8 + (1 : Int32)) h)
theorem k_b_X12_leftBy_94 (q0 : SS) (r : GT_X12_leftBy) (hr : KG_X12_leftBy q0 r) (rec_7 : SS → Int32 → Int32 → Int32 → Int64 → Int64 → Int32 → Option (Int64 × SS)) (h_rec_7 : ∀ (a0 : SS) (a1 : Int32) (a2 : Int32) (a3 : Int32) (a4 : Int64) (a5 : Int64) (a6 : Int32), Fr wK vK q0 a0 → KO q0 (rec_7 a0 a1 a2 a3 a4 a5 a6) (fun r => r.2)) (rec_44 : SS → Int32 → Int32 → Int32 → Int64 → Int64 → Int32 → Int32 → Option (Int64 × SS)) (h_rec_44 : ∀ (a0 : SS) (a1 : Int32) (a2 : Int32) (a3 : Int32) (a4 : Int64) (a5 : Int64) (a6 : Int32) (a7 : Int32), Fr wK vK q0 a0 → KO q0 (rec_44 a0 a1 a2 a3 a4 a5 a6 a7) (fun r => r.2)) (q : SS) (l1 : Int32) (l2 : Int32) (l3 : Int32) (l4 : Int64) (l6 : Int64) (l8 : Int32) (l9 : Int32) (h : Fr wK vK q0 q) : KO q0 (b_X12_leftBy_94 r rec_7 rec_44 q l1 l2 l3 l4 l6 l8 l9) (fun r => r.2) := by
  unfold b_X12_leftBy_94
  exact (h_rec_44 q l1 l2 l3 l4 l6 l8 (l9 + (1 : Int32)) h)
theorem k_b_X12_leftBy_44 (q0 : SS) (r : GT_X12_leftBy) (hr : KG_X12_leftBy q0 r) (rec_7 : SS → Int32 → Int32 → Int32 → Int64 → Int64 → Int32 → Option (Int64 × SS)) (h_rec_7 : ∀ (a0 : SS) (a1 : Int32) (a2 : Int32) (a3 : Int32) (a4 : Int64) (a5 : Int64) (a6 : Int32), Fr wK vK q0 a0 → KO q0 (rec_7 a0 a1 a2 a3 a4 a5 a6) (fun r => r.2)) (x0 : SS) (x1 : Int32) (x2 : Int32) (x3 : Int32) (x4 : Int64) (x5 : Int64) (x6 : Int32) (x7 : Int32) (h : Fr wK vK q0 x0) : KO q0 (b_X12_leftBy_44 r rec_7 x0 x1 x2 x3 x4 x5 x6 x7) (fun r => r.2) := by
  unfold b_X12_leftBy_44
  refine KO_fx8 (fun rec_44 h_rec_44 q l1 l2 l3 l4 l6 l8 l9 h => ?_) FU x0 x1 x2 x3 x4 x5 x6 x7 h
  exact (KO_i (k_b_X12_leftBy_100 q0 r hr rec_7 h_rec_7 q l1 l2 l3 l4 l6 l8 h) (KO_bp (fun r1 => (KO_i (k_b_X12_leftBy_94 q0 r hr rec_7 h_rec_7 rec_44 h_rec_44 q l1 l2 l3 l4 l6 l8 l9 h) (KO_b (hr.2.1 q l1 l2 l3 l4 l8 l9 h) (fun r2 h_r2 => (KO_i (k_b_X12_leftBy_94 q0 r hr rec_7 h_rec_7 rec_44 h_rec_44 r2.2 l1 l2 l3 l4 l6 l8 l9 h_r2) (k_b_X12_leftBy_94 q0 r hr rec_7 h_rec_7 rec_44 h_rec_44 r2.2 l1 l2 l3 l4 r2.1 l8 l9 h_r2))))))))
theorem k_b_X12_leftBy_7 (q0 : SS) (r : GT_X12_leftBy) (hr : KG_X12_leftBy q0 r) (x0 : SS) (x1 : Int32) (x2 : Int32) (x3 : Int32) (x4 : Int64) (x5 : Int64) (x6 : Int32) (h : Fr wK vK q0 x0) : KO q0 (b_X12_leftBy_7 r x0 x1 x2 x3 x4 x5 x6) (fun r => r.2) := by
  unfold b_X12_leftBy_7
  refine KO_fx7 (fun rec_7 h_rec_7 q l1 l2 l3 l4 l6 l8 h => ?_) FU x0 x1 x2 x3 x4 x5 x6 h
  exact (KO_i (KO_some h) (KO_ic (fun c0 => (KO_i (KO_ic (fun c1 => (KO_i (k_b_X12_leftBy_100 q0 r hr rec_7 h_rec_7 q l1 l2 l3 l4 l6 l8 h) (k_b_X12_leftBy_44 q0 r hr rec_7 h_rec_7 q l1 l2 l3 l4 l6 l8 (0 : Int32) h))) KO_none) (k_b_X12_leftBy_100 q0 r hr rec_7 h_rec_7 q l1 l2 l3 l4 l6 l8 h))) KO_none))
theorem k_fb_X12_leftBy (q0 : SS) (r : GT_X12_leftBy) (hr : KG_X12_leftBy q0 r) (q : SS) (a1 : Int32) (a2 : Int32) (a3 : Int32) (a4 : Int64) (h : Fr wK vK q0 q) : KO q0 (fb_X12_leftBy r q a1 a2 a3 a4) (fun r => r.2) := by
  unfold fb_X12_leftBy
  exact (k_b_X12_leftBy_7 q0 r hr q a1 a2 a3 a4 a4 (0 : Int32) h)
theorem k_fb_X12_slipBy (q0 : SS) (r : GT_X12_leftBy) (hr : KG_X12_leftBy q0 r) (q : SS) (a1 : Int32) (a2 : Int32) (a3 : Int32) (a4 : Int64) (a6 : Int32) (a7 : Int32) (h : Fr wK vK q0 q) : KO q0 (fb_X12_slipBy r q a1 a2 a3 a4 a6 a7) (fun r => r.2) := by
  unfold fb_X12_slipBy
  exact (KO_bp (fun r1 => (KO_ns (Fr_sI h rfl) (fun q2 h_q2 => (KO_b (k_f_X12_oddsOf q0 q2 a6 a7 h_q2) (fun r3 h_r3 => (KO_i (KO_some h_r3) (KO_ic (fun c0 => (KO_ns (Fr_sI h_r3 rfl) (fun q4 h_q4 => (KO_b (hr.2.2 q4 a1 (a2 - (1 : Int32)) (a3 + (1 : Int32)) h_q4) (fun r5 h_r5 => (KO_nv (fun v6 => (KO_ic (fun c1 => (KO_ns (Fr_sI h_r5 rfl) (fun q7 h_q7 => (KO_some h_q7)))) KO_none)))))))) KO_none))))))))
theorem k_fb_X12_leftOf (q0 : SS) (r : GT_X12_leftBy) (hr : KG_X12_leftBy q0 r) (q : SS) (a1 : Int32) (a2 : Int32) (a3 : Int32) (h : Fr wK vK q0 q) : KO q0 (fb_X12_leftOf r q a1 a2 a3) (fun r => r.2) := by
  unfold fb_X12_leftOf
  exact (KO_i (KO_bp (fun r1 => (KO_some h))) (KO_b (hr.2.2 q a1 (a2 - (1 : Int32)) (a3 + (1 : Int32)) h) (fun r2 h_r2 => (KO_b (hr.1 r2.2 a1 a2 a3 ((12 : Int64) * r2.1) h_r2) (fun r3 h_r3 => (KO_some h_r3))))))
theorem kg_X12_leftBy (q0 : SS) : ∀ n, KG_X12_leftBy q0 (g_X12_leftBy n)
  | 0 => ⟨(fun _ _ _ _ _ _ => KO_none), (fun _ _ _ _ _ _ _ _ => KO_none), (fun _ _ _ _ _ => KO_none)⟩
  | n + 1 => ⟨(fun a0 a1 a2 a3 a4 h => k_fb_X12_leftBy q0 (g_X12_leftBy n) (kg_X12_leftBy q0 n) a0 a1 a2 a3 a4 h), (fun a0 a1 a2 a3 a4 a5 a6 h => k_fb_X12_slipBy q0 (g_X12_leftBy n) (kg_X12_leftBy q0 n) a0 a1 a2 a3 a4 a5 a6 h), (fun a0 a1 a2 a3 h => k_fb_X12_leftOf q0 (g_X12_leftBy n) (kg_X12_leftBy q0 n) a0 a1 a2 a3 h)⟩
theorem k_f_X12_leftBy (q0 : SS) (x0 : SS) (x1 : Int32) (x2 : Int32) (x3 : Int32) (x4 : Int64) (h : Fr wK vK q0 x0) : KO q0 (f_X12_leftBy x0 x1 x2 x3 x4) (fun r => r.2) := (kg_X12_leftBy q0 60).1 x0 x1 x2 x3 x4 h
theorem k_f_X12_slipBy (q0 : SS) (x0 : SS) (x1 : Int32) (x2 : Int32) (x3 : Int32) (x4 : Int64) (x5 : Int32) (x6 : Int32) (h : Fr wK vK q0 x0) : KO q0 (f_X12_slipBy x0 x1 x2 x3 x4 x5 x6) (fun r => r.2) := (kg_X12_leftBy q0 60).2.1 x0 x1 x2 x3 x4 x5 x6 h
theorem k_f_X12_leftOf (q0 : SS) (x0 : SS) (x1 : Int32) (x2 : Int32) (x3 : Int32) (h : Fr wK vK q0 x0) : KO q0 (f_X12_leftOf x0 x1 x2 x3) (fun r => r.2) := (kg_X12_leftBy q0 60).2.2 x0 x1 x2 x3 h
theorem k_b_X12_first_157 (q0 : SS) (rec_67 : SS → Int32 → Int32 → Int64 → Int64 → Int32 → Option (Int32 × SS)) (h_rec_67 : ∀ (a0 : SS) (a1 : Int32) (a2 : Int32) (a3 : Int64) (a4 : Int64) (a5 : Int32), Fr wK vK q0 a0 → KO q0 (rec_67 a0 a1 a2 a3 a4 a5) (fun r => r.2)) (q : SS) (l1 : Int32) (l2 : Int32) (l3 : Int64) (l5 : Int64) (l7 : Int32) (h : Fr wK vK q0 q) : KO q0 (b_X12_first_157 rec_67 q l1 l2 l3 l5 l7) (fun r => r.2) := by
  unfold b_X12_first_157
  exact (h_rec_67 q l1 l2 l3 l5 (l7 + (1 : Int32)) h)
theorem k_b_X12_first_151 (q0 : SS) (rec_67 : SS → Int32 → Int32 → Int64 → Int64 → Int32 → Option (Int32 × SS)) (h_rec_67 : ∀ (a0 : SS) (a1 : Int32) (a2 : Int32) (a3 : Int64) (a4 : Int64) (a5 : Int32), Fr wK vK q0 a0 → KO q0 (rec_67 a0 a1 a2 a3 a4 a5) (fun r => r.2)) (rec_104 : SS → Int32 → Int32 → Int64 → Int64 → Int32 → Int32 → Option (Int32 × SS)) (h_rec_104 : ∀ (a0 : SS) (a1 : Int32) (a2 : Int32) (a3 : Int64) (a4 : Int64) (a5 : Int32) (a6 : Int32), Fr wK vK q0 a0 → KO q0 (rec_104 a0 a1 a2 a3 a4 a5 a6) (fun r => r.2)) (q : SS) (l1 : Int32) (l2 : Int32) (l3 : Int64) (l5 : Int64) (l7 : Int32) (l8 : Int32) (h : Fr wK vK q0 q) : KO q0 (b_X12_first_151 rec_67 rec_104 q l1 l2 l3 l5 l7 l8) (fun r => r.2) := by
  unfold b_X12_first_151
  exact (h_rec_104 q l1 l2 l3 l5 l7 (l8 + (1 : Int32)) h)
theorem k_b_X12_first_104 (q0 : SS) (rec_67 : SS → Int32 → Int32 → Int64 → Int64 → Int32 → Option (Int32 × SS)) (h_rec_67 : ∀ (a0 : SS) (a1 : Int32) (a2 : Int32) (a3 : Int64) (a4 : Int64) (a5 : Int32), Fr wK vK q0 a0 → KO q0 (rec_67 a0 a1 a2 a3 a4 a5) (fun r => r.2)) (x0 : SS) (x1 : Int32) (x2 : Int32) (x3 : Int64) (x4 : Int64) (x5 : Int32) (x6 : Int32) (h : Fr wK vK q0 x0) : KO q0 (b_X12_first_104 rec_67 x0 x1 x2 x3 x4 x5 x6) (fun r => r.2) := by
  unfold b_X12_first_104
  refine KO_fx7 (fun rec_104 h_rec_104 q l1 l2 l3 l5 l7 l8 h => ?_) FU x0 x1 x2 x3 x4 x5 x6 h
  exact (KO_i (k_b_X12_first_157 q0 rec_67 h_rec_67 q l1 l2 l3 l5 l7 h) (KO_bp (fun r7 => (KO_i (k_b_X12_first_151 q0 rec_67 h_rec_67 rec_104 h_rec_104 q l1 l2 l3 l5 l7 l8 h) (KO_b (k_f_X12_slipBy q0 q l1 l2 (0 : Int32) l3 l7 l8 h) (fun r8 h_r8 => (KO_i (KO_some h_r8) (k_b_X12_first_151 q0 rec_67 h_rec_67 rec_104 h_rec_104 r8.2 l1 l2 l3 l5 l7 l8 h_r8))))))))
theorem k_b_X12_first_67 (q0 : SS)  (x0 : SS) (x1 : Int32) (x2 : Int32) (x3 : Int64) (x4 : Int64) (x5 : Int32) (h : Fr wK vK q0 x0) : KO q0 (b_X12_first_67 x0 x1 x2 x3 x4 x5) (fun r => r.2) := by
  unfold b_X12_first_67
  refine KO_fx6 (fun rec_67 h_rec_67 q l1 l2 l3 l5 l7 h => ?_) FU x0 x1 x2 x3 x4 x5 h
  exact (KO_i (KO_some h) (KO_ic (fun c0 => (KO_i (KO_ic (fun c1 => (KO_i (k_b_X12_first_157 q0 rec_67 h_rec_67 q l1 l2 l3 l5 l7 h) (k_b_X12_first_104 q0 rec_67 h_rec_67 q l1 l2 l3 l5 l7 (0 : Int32) h))) KO_none) (k_b_X12_first_157 q0 rec_67 h_rec_67 q l1 l2 l3 l5 l7 h))) KO_none))
theorem k_f_X12_first (q0 : SS) (q : SS) (a1 : Int32) (a2 : Int32) (h : Fr wK vK q0 q) : KO q0 (f_X12_first q a1 a2) (fun r => r.2) := by
  unfold f_X12_first
  exact (KO_bp (fun r1 => (KO_i (KO_some h) (KO_bp (fun r2 => (KO_i (KO_some h) (KO_b (k_f_X12_layNow q0 q h) (fun r3 h_r3 => (KO_i (KO_some h_r3) (KO_b (k_f_X12_leftOf q0 r3 a1 (a2 - (1 : Int32)) (1 : Int32) h_r3) (fun r4 h_r4 => (KO_nv (fun v5 => (KO_b (k_f_X12_leftBy q0 r4.2 a1 a2 (0 : Int32) v5 h_r4) (fun r6 h_r6 => (KO_i (KO_some h_r6) (k_b_X12_first_67 q0 r6.2 a1 a2 v5 r6.1 (0 : Int32) h_r6)))))))))))))))))
theorem k_f_X6_freeAtBest (q0 : SS) (q : SS) (h : Fr wK vK q0 q) : KO q0 (f_X6_freeAtBest q) (fun r => r.2) := by
  unfold f_X6_freeAtBest
  exact (KO_i (KO_some h) (KO_b (k_f_X6_best q0 q (0 : Int32) (0 : Int32) h) (fun r1 h_r1 => (KO_some h_r1))))
theorem k_f_X11_rid (q0 : SS) (q : SS) (a1 : Int32) (a2 : Int32) (a3 : Int32) (h : Fr wK vK q0 q) : KO q0 (f_X11_rid q a1 a2 a3) (fun r => r.2) := by
  unfold f_X11_rid
  exact (KO_bp (fun r1 => (KO_i (KO_some h) (KO_i (KO_some h) (KO_i (KO_some h) (KO_bp (fun r2 => (KO_i (KO_some h) (KO_b (k_f_X6_begin q0 q a1 a2 h) (fun r3 h_r3 => (KO_b (k_f_X6_freeAtBest q0 r3 h_r3) (fun r4 h_r4 => (KO_bp (fun r5 => (KO_bp (fun r6 => (KO_some h_r4)))))))))))))))))
theorem k_b_X12_rid_53 (q0 : SS)  (x0 : SS) (x1 : Int32) (x2 : Int32) (x3 : Int32) (x4 : Int64) (x5 : Int32) (h : Fr wK vK q0 x0) : KO q0 (b_X12_rid_53 x0 x1 x2 x3 x4 x5) (fun r => r.2) := by
  unfold b_X12_rid_53
  refine KO_fx6 (fun rec_53 h_rec_53 q l1 l2 l3 l4 l6 h => ?_) FU x0 x1 x2 x3 x4 x5 h
  exact (KO_i (KO_b (k_f_X12_leftOf q0 q l1 l2 (0 : Int32) h) (fun r7 h_r7 => (KO_bp (fun r8 => (KO_some h_r7))))) (KO_nv (fun v9 => (h_rec_53 q l1 l2 l3 v9 (l6 + (1 : Int32)) h))))
theorem k_f_X12_rid (q0 : SS) (q : SS) (a1 : Int32) (a2 : Int32) (a3 : Int32) (h : Fr wK vK q0 q) : KO q0 (f_X12_rid q a1 a2 a3) (fun r => r.2) := by
  unfold f_X12_rid
  exact (KO_bp (fun r1 => (KO_i (KO_some h) (KO_bp (fun r2 => (KO_i (KO_some h) (KO_bp (fun r3 => (KO_i (KO_some h) (KO_b (k_f_X12_layNow q0 q h) (fun r4 h_r4 => (KO_bp (fun r5 => (KO_nv (fun v6 => (KO_i (KO_some h_r4) (k_b_X12_rid_53 q0 r4 a1 a2 a3 v6 (0 : Int32) h_r4)))))))))))))))))
theorem k_b_X11_watch_92 (q0 : SS) (rec_27 : SS → Int32 → Int32 → Int32 → Int32 → Option (Int32 × SS)) (h_rec_27 : ∀ (a0 : SS) (a1 : Int32) (a2 : Int32) (a3 : Int32) (a4 : Int32), Fr wK vK q0 a0 → KO q0 (rec_27 a0 a1 a2 a3 a4) (fun r => r.2)) (q : SS) (l1 : Int32) (l3 : Int32) (l4 : Int32) (l5 : Int32) (h : Fr wK vK q0 q) : KO q0 (b_X11_watch_92 rec_27 q l1 l3 l4 l5) (fun r => r.2) := by
  unfold b_X11_watch_92
  exact (h_rec_27 q l1 l3 l4 (l5 + (1 : Int32)) h)
theorem k_b_X11_watch_85 (q0 : SS) (rec_27 : SS → Int32 → Int32 → Int32 → Int32 → Option (Int32 × SS)) (h_rec_27 : ∀ (a0 : SS) (a1 : Int32) (a2 : Int32) (a3 : Int32) (a4 : Int32), Fr wK vK q0 a0 → KO q0 (rec_27 a0 a1 a2 a3 a4) (fun r => r.2)) (q : SS) (l1 : Int32) (l5 : Int32) (l6 : Int32) (l7 : Int32) (h : Fr wK vK q0 q) : KO q0 (b_X11_watch_85 rec_27 q l1 l5 l6 l7) (fun r => r.2) := by
  unfold b_X11_watch_85
  exact (k_b_X11_watch_92 q0 rec_27 h_rec_27 q l1 l6 l7 l5 h)
theorem k_b_X11_watch_27 (q0 : SS)  (x0 : SS) (x1 : Int32) (x2 : Int32) (x3 : Int32) (x4 : Int32) (h : Fr wK vK q0 x0) : KO q0 (b_X11_watch_27 x0 x1 x2 x3 x4) (fun r => r.2) := by
  unfold b_X11_watch_27
  refine KO_fx5 (fun rec_27 h_rec_27 q l1 l3 l4 l5 h => ?_) FU x0 x1 x2 x3 x4 h
  exact (KO_bp (fun r3 => (KO_i (KO_i (KO_some h) (KO_some h)) (KO_bp (fun r5 => (KO_i (k_b_X11_watch_92 q0 rec_27 h_rec_27 q l1 l3 l4 l5 h) (KO_b (k_f_X8_oddsOf q0 q l5 l1 h) (fun r6 h_r6 => (KO_bp (fun r7 => (KO_i (k_b_X11_watch_85 q0 rec_27 h_rec_27 r6.2 l1 l5 r6.1 r7 h_r6) (KO_i (KO_i (k_b_X11_watch_92 q0 rec_27 h_rec_27 r6.2 l1 l3 l4 l5 h_r6) (k_b_X11_watch_85 q0 rec_27 h_rec_27 r6.2 l1 l5 r6.1 r7 h_r6)) (k_b_X11_watch_92 q0 rec_27 h_rec_27 r6.2 l1 l3 l4 l5 h_r6)))))))))))))
theorem k_f_X11_watch (q0 : SS) (q : SS) (a1 : Int32) (h : Fr wK vK q0 q) : KO q0 (f_X11_watch q a1) (fun r => r.2) := by
  unfold f_X11_watch
  exact (KO_bp (fun r1 => (KO_i (KO_some h) (KO_b (k_f_X11_now q0 q h) (fun r2 h_r2 => (k_b_X11_watch_27 q0 r2 a1 (-1 : Int32) (-2 : Int32) (0 : Int32) h_r2))))))
theorem k_b_X12_watch_93 (q0 : SS) (rec_22 : SS → Int32 → Int32 → Int32 → Int32 → Option (Int32 × SS)) (h_rec_22 : ∀ (a0 : SS) (a1 : Int32) (a2 : Int32) (a3 : Int32) (a4 : Int32), Fr wK vK q0 a0 → KO q0 (rec_22 a0 a1 a2 a3 a4) (fun r => r.2)) (q : SS) (l1 : Int32) (l2 : Int32) (l3 : Int32) (l4 : Int32) (h : Fr wK vK q0 q) : KO q0 (b_X12_watch_93 rec_22 q l1 l2 l3 l4) (fun r => r.2) := by
  unfold b_X12_watch_93
  exact (h_rec_22 q l1 l2 l3 (l4 + (1 : Int32)) h)
theorem k_b_X12_watch_87 (q0 : SS) (rec_22 : SS → Int32 → Int32 → Int32 → Int32 → Option (Int32 × SS)) (h_rec_22 : ∀ (a0 : SS) (a1 : Int32) (a2 : Int32) (a3 : Int32) (a4 : Int32), Fr wK vK q0 a0 → KO q0 (rec_22 a0 a1 a2 a3 a4) (fun r => r.2)) (q : SS) (l1 : Int32) (l4 : Int32) (l5 : Int32) (l6 : Int32) (h : Fr wK vK q0 q) : KO q0 (b_X12_watch_87 rec_22 q l1 l4 l5 l6) (fun r => r.2) := by
  unfold b_X12_watch_87
  exact (k_b_X12_watch_93 q0 rec_22 h_rec_22 q l1 l6 l5 l4 h)
theorem k_b_X12_watch_22 (q0 : SS)  (x0 : SS) (x1 : Int32) (x2 : Int32) (x3 : Int32) (x4 : Int32) (h : Fr wK vK q0 x0) : KO q0 (b_X12_watch_22 x0 x1 x2 x3 x4) (fun r => r.2) := by
  unfold b_X12_watch_22
  refine KO_fx5 (fun rec_22 h_rec_22 q l1 l2 l3 l4 h => ?_) FU x0 x1 x2 x3 x4 h
  exact (KO_i (KO_i (KO_some h) (KO_some h)) (KO_bp (fun r4 => (KO_i (k_b_X12_watch_93 q0 rec_22 h_rec_22 q l1 l2 l3 l4 h) (KO_b (k_f_X12_oddsOf q0 q l4 l1 h) (fun r5 h_r5 => (KO_ic (fun c0 => (KO_nv (fun v6 => (KO_i (k_b_X12_watch_87 q0 rec_22 h_rec_22 r5.2 l1 l4 r5.1 v6 h_r5) (KO_i (k_b_X12_watch_93 q0 rec_22 h_rec_22 r5.2 l1 l2 l3 l4 h_r5) (KO_i (KO_i (k_b_X12_watch_87 q0 rec_22 h_rec_22 r5.2 l1 l4 r5.1 v6 h_r5) (k_b_X12_watch_93 q0 rec_22 h_rec_22 r5.2 l1 l2 l3 l4 h_r5)) (k_b_X12_watch_87 q0 rec_22 h_rec_22 r5.2 l1 l4 r5.1 v6 h_r5))))))) KO_none)))))))
theorem k_f_X12_watch (q0 : SS) (q : SS) (a1 : Int32) (h : Fr wK vK q0 q) : KO q0 (f_X12_watch q a1) (fun r => r.2) := by
  unfold f_X12_watch
  exact (KO_bp (fun r1 => (KO_i (KO_some h) (KO_b (k_f_X12_layNow q0 q h) (fun r2 h_r2 => (k_b_X12_watch_22 q0 r2 a1 (-2 : Int32) (0 : Int32) (0 : Int32) h_r2))))))
theorem k_b_X11_likeliest_45 (q0 : SS) (rec_13 : SS → Int32 → Int32 → Int32 → Option (Int32 × SS)) (h_rec_13 : ∀ (a0 : SS) (a1 : Int32) (a2 : Int32) (a3 : Int32), Fr wK vK q0 a0 → KO q0 (rec_13 a0 a1 a2 a3) (fun r => r.2)) (q : SS) (l2 : Int32) (l3 : Int32) (l4 : Int32) (h : Fr wK vK q0 q) : KO q0 (b_X11_likeliest_45 rec_13 q l2 l3 l4) (fun r => r.2) := by
  unfold b_X11_likeliest_45
  exact (h_rec_13 q l2 l3 (l4 + (1 : Int32)) h)
theorem k_b_X11_likeliest_13 (q0 : SS)  (x0 : SS) (x1 : Int32) (x2 : Int32) (x3 : Int32) (h : Fr wK vK q0 x0) : KO q0 (b_X11_likeliest_13 x0 x1 x2 x3) (fun r => r.2) := by
  unfold b_X11_likeliest_13
  refine KO_fx4 (fun rec_13 h_rec_13 q l2 l3 l4 h => ?_) FU x0 x1 x2 x3 h
  exact (KO_bp (fun r2 => (KO_i (KO_some h) (KO_bp (fun r3 => (KO_i (k_b_X11_likeliest_45 q0 rec_13 h_rec_13 q l2 l3 l4 h) (k_b_X11_likeliest_45 q0 rec_13 h_rec_13 q r3 l4 l4 h)))))))
theorem k_f_X11_likeliest (q0 : SS) (q : SS) (h : Fr wK vK q0 q) : KO q0 (f_X11_likeliest q) (fun r => r.2) := by
  unfold f_X11_likeliest
  exact (KO_b (k_f_X11_now q0 q h) (fun r1 h_r1 => (k_b_X11_likeliest_13 q0 r1 (0 : Int32) (-2 : Int32) (0 : Int32) h_r1)))
theorem k_b_X12_likeliest_44 (q0 : SS) (rec_9 : SS → Int32 → Int32 → Option (Int32 × SS)) (h_rec_9 : ∀ (a0 : SS) (a1 : Int32) (a2 : Int32), Fr wK vK q0 a0 → KO q0 (rec_9 a0 a1 a2) (fun r => r.2)) (q : SS) (l1 : Int32) (l2 : Int32) (h : Fr wK vK q0 q) : KO q0 (b_X12_likeliest_44 rec_9 q l1 l2) (fun r => r.2) := by
  unfold b_X12_likeliest_44
  exact (h_rec_9 q l1 (l2 + (1 : Int32)) h)
theorem k_b_X12_likeliest_42 (q0 : SS) (rec_9 : SS → Int32 → Int32 → Option (Int32 × SS)) (h_rec_9 : ∀ (a0 : SS) (a1 : Int32) (a2 : Int32), Fr wK vK q0 a0 → KO q0 (rec_9 a0 a1 a2) (fun r => r.2)) (q : SS) (l2 : Int32) (h : Fr wK vK q0 q) : KO q0 (b_X12_likeliest_42 rec_9 q l2) (fun r => r.2) := by
  unfold b_X12_likeliest_42
  exact (k_b_X12_likeliest_44 q0 rec_9 h_rec_9 q l2 l2 h)
theorem k_b_X12_likeliest_9 (q0 : SS)  (x0 : SS) (x1 : Int32) (x2 : Int32) (h : Fr wK vK q0 x0) : KO q0 (b_X12_likeliest_9 x0 x1 x2) (fun r => r.2) := by
  unfold b_X12_likeliest_9
  refine KO_fx3 (fun rec_9 h_rec_9 q l1 l2 h => ?_) FU x0 x1 x2 h
  exact (KO_i (KO_some h) (KO_bp (fun r2 => (KO_i (k_b_X12_likeliest_44 q0 rec_9 h_rec_9 q l1 l2 h) (KO_i (k_b_X12_likeliest_42 q0 rec_9 h_rec_9 q l2 h) (KO_bp (fun r3 => (KO_bp (fun r4 => (KO_i (k_b_X12_likeliest_44 q0 rec_9 h_rec_9 q l1 l2 h) (k_b_X12_likeliest_42 q0 rec_9 h_rec_9 q l2 h)))))))))))
theorem k_f_X12_likeliest (q0 : SS) (q : SS) (h : Fr wK vK q0 q) : KO q0 (f_X12_likeliest q) (fun r => r.2) := by
  unfold f_X12_likeliest
  exact (KO_b (k_f_X12_layNow q0 q h) (fun r1 h_r1 => (k_b_X12_likeliest_9 q0 r1 (-2 : Int32) (0 : Int32) h_r1)))
theorem k_b_X11_safe_34 (q0 : SS) (rec_9 : SS → Int32 → Int32 → Option (Int32 × SS)) (h_rec_9 : ∀ (a0 : SS) (a1 : Int32) (a2 : Int32), Fr wK vK q0 a0 → KO q0 (rec_9 a0 a1 a2) (fun r => r.2)) (q : SS) (l2 : Int32) (l3 : Int32) (h : Fr wK vK q0 q) : KO q0 (b_X11_safe_34 rec_9 q l2 l3) (fun r => r.2) := by
  unfold b_X11_safe_34
  exact (h_rec_9 q l2 (l3 + (1 : Int32)) h)
theorem k_b_X11_safe_9 (q0 : SS)  (x0 : SS) (x1 : Int32) (x2 : Int32) (h : Fr wK vK q0 x0) : KO q0 (b_X11_safe_9 x0 x1 x2) (fun r => r.2) := by
  unfold b_X11_safe_9
  refine KO_fx3 (fun rec_9 h_rec_9 q l2 l3 h => ?_) FU x0 x1 x2 h
  exact (KO_bp (fun r2 => (KO_i (KO_some h) (KO_bp (fun r3 => (KO_i (KO_nv (fun v4 => (k_b_X11_safe_34 q0 rec_9 h_rec_9 q v4 l3 h))) (k_b_X11_safe_34 q0 rec_9 h_rec_9 q l2 l3 h)))))))
theorem k_f_X11_safe (q0 : SS) (q : SS) (h : Fr wK vK q0 q) : KO q0 (f_X11_safe q) (fun r => r.2) := by
  unfold f_X11_safe
  exact (KO_b (k_f_X11_now q0 q h) (fun r1 h_r1 => (k_b_X11_safe_9 q0 r1 (0 : Int32) (0 : Int32) h_r1)))
theorem k_b_X12_safe_30 (q0 : SS) (rec_8 : SS → Int32 → Int32 → Option (Int32 × SS)) (h_rec_8 : ∀ (a0 : SS) (a1 : Int32) (a2 : Int32), Fr wK vK q0 a0 → KO q0 (rec_8 a0 a1 a2) (fun r => r.2)) (q : SS) (l1 : Int32) (l2 : Int32) (h : Fr wK vK q0 q) : KO q0 (b_X12_safe_30 rec_8 q l1 l2) (fun r => r.2) := by
  unfold b_X12_safe_30
  exact (h_rec_8 q l1 (l2 + (1 : Int32)) h)
theorem k_b_X12_safe_8 (q0 : SS)  (x0 : SS) (x1 : Int32) (x2 : Int32) (h : Fr wK vK q0 x0) : KO q0 (b_X12_safe_8 x0 x1 x2) (fun r => r.2) := by
  unfold b_X12_safe_8
  refine KO_fx3 (fun rec_8 h_rec_8 q l1 l2 h => ?_) FU x0 x1 x2 h
  exact (KO_i (KO_some h) (KO_bp (fun r2 => (KO_i (KO_nv (fun v3 => (k_b_X12_safe_30 q0 rec_8 h_rec_8 q v3 l2 h))) (k_b_X12_safe_30 q0 rec_8 h_rec_8 q l1 l2 h)))))
theorem k_f_X12_safe (q0 : SS) (q : SS) (h : Fr wK vK q0 q) : KO q0 (f_X12_safe q) (fun r => r.2) := by
  unfold f_X12_safe
  exact (KO_b (k_f_X12_layNow q0 q h) (fun r1 h_r1 => (k_b_X12_safe_8 q0 r1 (0 : Int32) (0 : Int32) h_r1)))
theorem k_f_X11_king (q0 : SS) (q : SS) (a1 : Int32) (a2 : Int32) (h : Fr wK vK q0 q) : KO q0 (f_X11_king q a1 a2) (fun r => r.2) := by
  unfold f_X11_king
  exact (KO_bp (fun r1 => (KO_i (KO_some h) (KO_bp (fun r2 => (KO_i (KO_some h) (KO_b (k_f_X11_now q0 q h) (fun r3 h_r3 => (KO_bp (fun r4 => (KO_bp (fun r5 => (KO_bp (fun r6 => (KO_some h_r3)))))))))))))))
theorem k_f_X12_king (q0 : SS) (q : SS) (a1 : Int32) (a2 : Int32) (h : Fr wK vK q0 q) : KO q0 (f_X12_king q a1 a2) (fun r => r.2) := by
  unfold f_X12_king
  exact (KO_bp (fun r1 => (KO_i (KO_some h) (KO_bp (fun r2 => (KO_i (KO_some h) (KO_b (k_f_X12_layNow q0 q h) (fun r3 h_r3 => (KO_bp (fun r4 => (KO_bp (fun r5 => (KO_bp (fun r6 => (KO_some h_r3)))))))))))))))
theorem k_b_X2_weighStep_37 (q0 : SS) (q : SS) (l1 : Int32) (l2 : Int32) (s0 : Int64) (s1 : Int64) (h : Fr wK vK q0 q) : KO q0 (b_X2_weighStep_37 q l1 l2 s0 s1) (fun r => r) := by
  unfold b_X2_weighStep_37
  exact (KO_ns (Fr_sL h rfl) (fun q4 h_q4 => (KO_ns (Fr_sL h_q4 rfl) (fun q5 h_q5 => (KO_i (KO_some h_q5) (KO_bp (fun r6 => (KO_bp (fun r7 => (KO_b (k_f_X8_give q0 q5 r6 r7 h_q5) (fun r8 h_r8 => (KO_some h_r8))))))))))))
theorem k_f_X2_weighStep (q0 : SS) (q : SS) (a1 : Int32) (a2 : Int32) (h : Fr wK vK q0 q) : KO q0 (f_X2_weighStep q a1 a2) (fun r => r) := by
  unfold f_X2_weighStep
  exact (KO_bp (fun r1 => (KO_bp (fun r2 => (KO_b (k_f_X8_oddsOf q0 q r1 r2 h) (fun r3 h_r3 => (KO_i (k_b_X2_weighStep_37 q0 r3.2 a1 a2 (((12 : Int32) - r3.1).toInt64) (r3.2.2 37 6) h_r3) (k_b_X2_weighStep_37 q0 r3.2 a1 a2 (r3.1.toInt64) (r3.2.2 37 6) h_r3))))))))
theorem k_b_X2_weighAllThatCan_46 (q0 : SS) (rec_12 : SS → Int32 → Option SS) (h_rec_12 : ∀ (a0 : SS) (a1 : Int32), Fr wK vK q0 a0 → KO q0 (rec_12 a0 a1) (fun r => r)) (q : SS) (l1 : Int32) (h : Fr wK vK q0 q) : KO q0 (b_X2_weighAllThatCan_46 rec_12 q l1) (fun r => r) := by
  unfold b_X2_weighAllThatCan_46
  exact (h_rec_12 q (l1 + (1 : Int32)) h)
theorem k_b_X2_weighAllThatCan_12 (q0 : SS)  (x0 : SS) (x1 : Int32) (h : Fr wK vK q0 x0) : KO q0 (b_X2_weighAllThatCan_12 x0 x1) (fun r => r) := by
  unfold b_X2_weighAllThatCan_12
  refine KO_fx2 (fun rec_12 h_rec_12 q l1 h => ?_) FU x0 x1 h
  exact (KO_i (KO_some h) (KO_bp (fun r3 => (KO_bp (fun r4 => (KO_bp (fun r5 => (KO_i (k_b_X2_weighAllThatCan_46 q0 rec_12 h_rec_12 q l1 h) (KO_b (k_f_X2_weighStep q0 q l1 (1 : Int32) h) (fun r6 h_r6 => (k_b_X2_weighAllThatCan_46 q0 rec_12 h_rec_12 r6 l1 h_r6)))))))))))
theorem k_f_X2_weighAllThatCan (q0 : SS) (q : SS) (h : Fr wK vK q0 q) : KO q0 (f_X2_weighAllThatCan q) (fun r => r) := by
  unfold f_X2_weighAllThatCan
  exact (KO_ns (Fr_sL h rfl) (fun q1 h_q1 => (KO_ns (Fr_sL h_q1 rfl) (fun q2 h_q2 => (k_b_X2_weighAllThatCan_12 q0 q2 (0 : Int32) h_q2)))))
theorem k_f_X11_all (q0 : SS) (q : SS) (a1 : Int32) (a2 : Int32) (h : Fr wK vK q0 q) : KO q0 (f_X11_all q a1 a2) (fun r => r.2) := by
  unfold f_X11_all
  exact (KO_bp (fun r1 => (KO_i (KO_bp (fun r2 => (KO_i (KO_some h) (KO_b (k_f_X2_begin q0 q a1 h) (fun r3 h_r3 => (KO_b (k_f_X2_weighAllThatCan q0 r3 h_r3) (fun r4 h_r4 => (KO_bp (fun r5 => (KO_bp (fun r6 => (KO_bp (fun r7 => (KO_some h_r4)))))))))))))) (KO_some h))))
theorem k_b_X12_all_124 (q0 : SS) (rec_49 : SS → Int32 → Int32 → Int32 → Int64 → Int64 → Int32 → Option (Int64 × SS)) (h_rec_49 : ∀ (a0 : SS) (a1 : Int32) (a2 : Int32) (a3 : Int32) (a4 : Int64) (a5 : Int64) (a6 : Int32), Fr wK vK q0 a0 → KO q0 (rec_49 a0 a1 a2 a3 a4 a5 a6) (fun r => r.2)) (q : SS) (l1 : Int32) (l2 : Int32) (l3 : Int32) (l4 : Int64) (l6 : Int64) (l8 : Int32) (h : Fr wK vK q0 q) : KO q0 (b_X12_all_124 rec_49 q l1 l2 l3 l4 l6 l8) (fun r => r.2) := by
  unfold b_X12_all_124
  exact (h_rec_49 q l1 l2 l3 l4 l6 (l8 + (1 : Int32)) h)
theorem k_b_X12_all_49 (q0 : SS)  (x0 : SS) (x1 : Int32) (x2 : Int32) (x3 : Int32) (x4 : Int64) (x5 : Int64) (x6 : Int32) (h : Fr wK vK q0 x0) : KO q0 (b_X12_all_49 x0 x1 x2 x3 x4 x5 x6) (fun r => r.2) := by
  unfold b_X12_all_49
  refine KO_fx7 (fun rec_49 h_rec_49 q l1 l2 l3 l4 l6 l8 h => ?_) FU x0 x1 x2 x3 x4 x5 x6 h
  exact (KO_i (KO_bp (fun r6 => (KO_some h))) (KO_bp (fun r7 => (KO_nv (fun v8 => (KO_bp (fun r9 => (KO_nv (fun v10 => (KO_bp (fun r11 => (KO_i (k_b_X12_all_124 q0 rec_49 h_rec_49 q l1 l2 l3 l4 l6 l8 h) (KO_b (k_f_X12_oddsOf q0 q v8 v10 h) (fun r12 h_r12 => (KO_nv (fun v13 => (KO_nv (fun v14 => (KO_ic (fun c0 => (KO_ns (Fr_sI h_r12 rfl) (fun q15 h_q15 => (k_b_X12_all_124 q0 rec_49 h_rec_49 q15 l1 l2 l3 v13 v14 l8 h_q15)))) KO_none)))))))))))))))))))
theorem k_f_X12_all (q0 : SS) (q : SS) (a1 : Int32) (a2 : Int32) (h : Fr wK vK q0 q) : KO q0 (f_X12_all q a1 a2) (fun r => r.2) := by
  unfold f_X12_all
  exact (KO_bp (fun r1 => (KO_i (KO_some h) (KO_bp (fun r2 => (KO_i (KO_some h) (KO_bp (fun r3 => (KO_i (KO_b (k_f_X12_layNow q0 q h) (fun r4 h_r4 => (KO_bp (fun r5 => (k_b_X12_all_49 q0 r4 a1 a2 r5 (1 : Int64) (1 : Int64) (0 : Int32) h_r4))))) (KO_some h))))))))))
theorem k_b_X2_weighSet_88 (q0 : SS) (rec_27 : SS → Int32 → Int32 → Int32 → Option SS) (h_rec_27 : ∀ (a0 : SS) (a1 : Int32) (a2 : Int32) (a3 : Int32), Fr wK vK q0 a0 → KO q0 (rec_27 a0 a1 a2 a3) (fun r => r)) (q : SS) (l1 : Int32) (l2 : Int32) (l3 : Int32) (h : Fr wK vK q0 q) : KO q0 (b_X2_weighSet_88 rec_27 q l1 l2 l3) (fun r => r) := by
  unfold b_X2_weighSet_88
  exact (h_rec_27 q l1 l2 (l3 + (1 : Int32)) h)
theorem k_b_X2_weighSet_49 (q0 : SS) (rec_27 : SS → Int32 → Int32 → Int32 → Option SS) (h_rec_27 : ∀ (a0 : SS) (a1 : Int32) (a2 : Int32) (a3 : Int32), Fr wK vK q0 a0 → KO q0 (rec_27 a0 a1 a2 a3) (fun r => r)) (q : SS) (l1 : Int32) (l2 : Int32) (l3 : Int32) (s0 : Int32) (h : Fr wK vK q0 q) : KO q0 (b_X2_weighSet_49 rec_27 q l1 l2 l3 s0) (fun r => r) := by
  unfold b_X2_weighSet_49
  exact (KO_bp (fun r5 => (KO_bp (fun r6 => (KO_bp (fun r7 => (KO_i (KO_i (k_b_X2_weighSet_88 q0 rec_27 h_rec_27 q l1 l2 l3 h) (k_b_X2_weighSet_88 q0 rec_27 h_rec_27 q l1 (0 : Int32) l3 h)) (KO_b (k_f_X2_weighStep q0 q l3 s0 h) (fun r9 h_r9 => (k_b_X2_weighSet_88 q0 rec_27 h_rec_27 r9 l1 l2 l3 h_r9))))))))))
theorem k_b_X2_weighSet_27 (q0 : SS)  (x0 : SS) (x1 : Int32) (x2 : Int32) (x3 : Int32) (h : Fr wK vK q0 x0) : KO q0 (b_X2_weighSet_27 x0 x1 x2 x3) (fun r => r) := by
  unfold b_X2_weighSet_27
  refine KO_fx4 (fun rec_27 h_rec_27 q l1 l2 l3 h => ?_) FU x0 x1 x2 x3 h
  exact (KO_i (KO_i (KO_ns (Fr_sL h rfl) (fun q3 h_q3 => (KO_some h_q3))) (KO_some h)) (KO_i (k_b_X2_weighSet_49 q0 rec_27 h_rec_27 q l1 l2 l3 (1 : Int32) h) (k_b_X2_weighSet_49 q0 rec_27 h_rec_27 q l1 l2 l3 (0 : Int32) h)))
theorem k_b_X2_weighSet_14 (q0 : SS) (q : SS) (l1 : Int32) (s0 : Int32) (h : Fr wK vK q0 q) : KO q0 (b_X2_weighSet_14 q l1 s0) (fun r => r) := by
  unfold b_X2_weighSet_14
  exact (KO_ns (Fr_sL h rfl) (fun q1 h_q1 => (KO_ns (Fr_sL h_q1 rfl) (fun q2 h_q2 => (k_b_X2_weighSet_27 q0 q2 l1 s0 (0 : Int32) h_q2)))))
theorem k_f_X2_weighSet (q0 : SS) (q : SS) (a1 : Int32) (h : Fr wK vK q0 q) : KO q0 (f_X2_weighSet q a1) (fun r => r) := by
  unfold f_X2_weighSet
  exact (KO_i (k_b_X2_weighSet_14 q0 q a1 (1 : Int32) h) (k_b_X2_weighSet_14 q0 q a1 (0 : Int32) h))
theorem k_f_X11_likely (q0 : SS) (q : SS) (a1 : Int32) (a2 : Int32) (a3 : Int32) (h : Fr wK vK q0 q) : KO q0 (f_X11_likely q a1 a2 a3) (fun r => r.2) := by
  unfold f_X11_likely
  exact (KO_bp (fun r1 => (KO_i (KO_i (KO_some h) (KO_i (KO_some h) (KO_bp (fun r2 => (KO_i (KO_some h) (KO_b (k_f_X2_begin q0 q a1 h) (fun r3 h_r3 => (KO_b (k_f_X2_weighSet q0 r3 a2 h_r3) (fun r4 h_r4 => (KO_bp (fun r5 => (KO_bp (fun r6 => (KO_bp (fun r7 => (KO_some h_r4)))))))))))))))) (KO_some h))))
theorem k_b_X12_likely_196 (q0 : SS) (rec_72 : SS → Int32 → Int32 → Int32 → Int32 → Int64 → Int64 → Int32 → Option (Int64 × SS)) (h_rec_72 : ∀ (a0 : SS) (a1 : Int32) (a2 : Int32) (a3 : Int32) (a4 : Int32) (a5 : Int64) (a6 : Int64) (a7 : Int32), Fr wK vK q0 a0 → KO q0 (rec_72 a0 a1 a2 a3 a4 a5 a6 a7) (fun r => r.2)) (q : SS) (l1 : Int32) (l2 : Int32) (l3 : Int32) (l4 : Int32) (l5 : Int64) (l7 : Int64) (l9 : Int32) (h : Fr wK vK q0 q) : KO q0 (b_X12_likely_196 rec_72 q l1 l2 l3 l4 l5 l7 l9) (fun r => r.2) := by
  unfold b_X12_likely_196
  exact (h_rec_72 q l1 l2 l3 l4 l5 l7 (l9 + (1 : Int32)) h)
theorem k_b_X12_likely_171 (q0 : SS) (rec_72 : SS → Int32 → Int32 → Int32 → Int32 → Int64 → Int64 → Int32 → Option (Int64 × SS)) (h_rec_72 : ∀ (a0 : SS) (a1 : Int32) (a2 : Int32) (a3 : Int32) (a4 : Int32) (a5 : Int64) (a6 : Int64) (a7 : Int32), Fr wK vK q0 a0 → KO q0 (rec_72 a0 a1 a2 a3 a4 a5 a6 a7) (fun r => r.2)) (q : SS) (l1 : Int32) (l2 : Int32) (l3 : Int32) (l4 : Int32) (l7 : Int64) (l9 : Int32) (l10 : Int32) (l11 : Int32) (l12 : Int32) (s0 : Int64) (s1 : Int64) (h : Fr wK vK q0 q) : KO q0 (b_X12_likely_171 rec_72 q l1 l2 l3 l4 l7 l9 l10 l11 l12 s0 s1) (fun r => r.2) := by
  unfold b_X12_likely_171
  exact (KO_nv (fun v15 => (KO_nv (fun v16 => (KO_i (k_b_X12_likely_196 q0 rec_72 h_rec_72 q l1 l2 l3 l4 v15 v16 l9 h) (KO_ic (fun c0 => (KO_ns (Fr_sI h rfl) (fun q17 h_q17 => (k_b_X12_likely_196 q0 rec_72 h_rec_72 q17 l1 l2 l3 l4 v15 v16 l9 h_q17)))) KO_none))))))
theorem k_b_X12_likely_118 (q0 : SS) (rec_72 : SS → Int32 → Int32 → Int32 → Int32 → Int64 → Int64 → Int32 → Option (Int64 × SS)) (h_rec_72 : ∀ (a0 : SS) (a1 : Int32) (a2 : Int32) (a3 : Int32) (a4 : Int32) (a5 : Int64) (a6 : Int64) (a7 : Int32), Fr wK vK q0 a0 → KO q0 (rec_72 a0 a1 a2 a3 a4 a5 a6 a7) (fun r => r.2)) (q : SS) (l1 : Int32) (l2 : Int32) (l3 : Int32) (l4 : Int32) (l5 : Int64) (l7 : Int64) (l9 : Int32) (l10 : Int32) (l11 : Int32) (s0 : Int32) (h : Fr wK vK q0 q) : KO q0 (b_X12_likely_118 rec_72 q l1 l2 l3 l4 l5 l7 l9 l10 l11 s0) (fun r => r.2) := by
  unfold b_X12_likely_118
  exact (KO_bp (fun r12 => (KO_i (KO_i (k_b_X12_likely_196 q0 rec_72 h_rec_72 q l1 l2 l3 l4 l5 l7 l9 h) (k_b_X12_likely_196 q0 rec_72 h_rec_72 q l1 l2 l3 l4 (0 : Int64) l7 l9 h)) (KO_b (k_f_X12_oddsOf q0 q l10 l11 h) (fun r14 h_r14 => (KO_i (k_b_X12_likely_171 q0 rec_72 h_rec_72 r14.2 l1 l2 l3 l4 l7 l9 l10 l11 s0 (((12 : Int32) - r14.1).toInt64) l5 h_r14) (k_b_X12_likely_171 q0 rec_72 h_rec_72 r14.2 l1 l2 l3 l4 l7 l9 l10 l11 s0 (r14.1.toInt64) l5 h_r14)))))))
theorem k_b_X12_likely_72 (q0 : SS)  (x0 : SS) (x1 : Int32) (x2 : Int32) (x3 : Int32) (x4 : Int32) (x5 : Int64) (x6 : Int64) (x7 : Int32) (h : Fr wK vK q0 x0) : KO q0 (b_X12_likely_72 x0 x1 x2 x3 x4 x5 x6 x7) (fun r => r.2) := by
  unfold b_X12_likely_72
  refine KO_fx8 (fun rec_72 h_rec_72 q l1 l2 l3 l4 l5 l7 l9 h => ?_) FU x0 x1 x2 x3 x4 x5 x6 x7 h
  exact (KO_i (KO_bp (fun r7 => (KO_some h))) (KO_bp (fun r8 => (KO_nv (fun v9 => (KO_bp (fun r10 => (KO_nv (fun v11 => (KO_i (k_b_X12_likely_118 q0 rec_72 h_rec_72 q l1 l2 l3 l4 l5 l7 l9 v9 v11 (1 : Int32) h) (k_b_X12_likely_118 q0 rec_72 h_rec_72 q l1 l2 l3 l4 l5 l7 l9 v9 v11 (0 : Int32) h)))))))))))
theorem k_b_X12_likely_64 (q0 : SS) (q : SS) (l1 : Int32) (l2 : Int32) (l3 : Int32) (l4 : Int32) (s0 : Int64) (h : Fr wK vK q0 q) : KO q0 (b_X12_likely_64 q l1 l2 l3 l4 s0) (fun r => r.2) := by
  unfold b_X12_likely_64
  exact (k_b_X12_likely_72 q0 q l1 l2 l3 l4 s0 (1 : Int64) (0 : Int32) h)
theorem k_f_X12_likely (q0 : SS) (q : SS) (a1 : Int32) (a2 : Int32) (a3 : Int32) (h : Fr wK vK q0 q) : KO q0 (f_X12_likely q a1 a2 a3) (fun r => r.2) := by
  unfold f_X12_likely
  exact (KO_bp (fun r1 => (KO_i (KO_some h) (KO_bp (fun r2 => (KO_i (KO_some h) (KO_bp (fun r3 => (KO_i (KO_some h) (KO_bp (fun r4 => (KO_i (KO_b (k_f_X12_layNow q0 q h) (fun r5 h_r5 => (KO_bp (fun r6 => (KO_i (k_b_X12_likely_64 q0 r5 a1 a2 a3 r6 (1 : Int64) h_r5) (k_b_X12_likely_64 q0 r5 a1 a2 a3 r6 (0 : Int64) h_r5)))))) (KO_some h)))))))))))))
theorem k_b_X2_goByWell_109 (q0 : SS) (rec_12 : SS → Int32 → Int32 → Option SS) (h_rec_12 : ∀ (a0 : SS) (a1 : Int32) (a2 : Int32), Fr wK vK q0 a0 → KO q0 (rec_12 a0 a1 a2) (fun r => r)) (q : SS) (l1 : Int32) (l2 : Int32) (h : Fr wK vK q0 q) : KO q0 (b_X2_goByWell_109 rec_12 q l1 l2) (fun r => r) := by
  unfold b_X2_goByWell_109
  exact (h_rec_12 q l1 (l2 + (1 : Int32)) h)
theorem k_b_X2_goByWell_12 (q0 : SS)  (x0 : SS) (x1 : Int32) (x2 : Int32) (h : Fr wK vK q0 x0) : KO q0 (b_X2_goByWell_12 x0 x1 x2) (fun r => r) := by
  unfold b_X2_goByWell_12
  refine KO_fx3 (fun rec_12 h_rec_12 q l1 l2 h => ?_) FU x0 x1 x2 h
  exact (KO_i (KO_some h) (KO_i (KO_some h) (KO_bp (fun r3 => (KO_bp (fun r4 => (KO_bp (fun r5 => (KO_i (KO_ns (Fr_sI h rfl) (fun q6 h_q6 => (k_b_X2_goByWell_109 q0 rec_12 h_rec_12 q6 l1 l2 h_q6))) (KO_bp (fun r7 => (KO_bp (fun r8 => (KO_b (k_f_X8_oddsOf q0 q r7 r8 h) (fun r9 h_r9 => (KO_i (k_b_X2_goByWell_109 q0 rec_12 h_rec_12 r9.2 l1 l2 h_r9) (KO_ns (Fr_sI h_r9 rfl) (fun q10 h_q10 => (KO_bp (fun r11 => (KO_bp (fun r12 => (KO_b (k_f_X8_give q0 q10 r11 r12 h_q10) (fun r13 h_r13 => (k_b_X2_goByWell_109 q0 rec_12 h_rec_12 r13 l1 l2 h_r13)))))))))))))))))))))))))
theorem k_f_X2_goByWell (q0 : SS) (q : SS) (a1 : Int32) (h : Fr wK vK q0 q) : KO q0 (f_X2_goByWell q a1) (fun r => r) := by
  unfold f_X2_goByWell
  exact (KO_ns (Fr_sI h rfl) (fun q1 h_q1 => (KO_ns (Fr_sI h_q1 rfl) (fun q2 h_q2 => (k_b_X2_goByWell_12 q0 q2 a1 (0 : Int32) h_q2)))))
theorem k_b_X11_eve_45 (q0 : SS) (q : SS) (l1 : Int32) (l2 : Int32) (l3 : Int32) (h : Fr wK vK q0 q) : KO q0 (b_X11_eve_45 q l1 l2 l3) (fun r => r.2) := by
  unfold b_X11_eve_45
  exact (KO_bp (fun r2 => (KO_i (KO_b (k_f_X2_begin q0 q l1 h) (fun r3 h_r3 => (KO_b (k_f_X2_goByWell q0 r3 l2 h_r3) (fun r4 h_r4 => (KO_i (KO_bp (fun r5 => (KO_some h_r4))) (KO_i (KO_bp (fun r6 => (KO_some h_r4))) (KO_bp (fun r7 => (KO_some h_r4))))))))) (KO_some h))))
theorem k_f_X11_eve (q0 : SS) (q : SS) (a1 : Int32) (a2 : Int32) (a3 : Int32) (h : Fr wK vK q0 q) : KO q0 (f_X11_eve q a1 a2 a3) (fun r => r.2) := by
  unfold f_X11_eve
  exact (KO_bp (fun r1 => (KO_i (KO_some h) (KO_i (KO_some h) (KO_i (KO_some h) (KO_i (k_b_X11_eve_45 q0 q a1 a2 a3 h) (KO_i (k_b_X11_eve_45 q0 q a1 a2 a3 h) (KO_bp (fun r11 => (KO_i (KO_some h) (k_b_X11_eve_45 q0 q a1 a2 a3 h)))))))))))
theorem k_b_X12_goEve_113 (q0 : SS) (rec_24 : SS → Int32 → Int32 → Int32 → Option SS) (h_rec_24 : ∀ (a0 : SS) (a1 : Int32) (a2 : Int32) (a3 : Int32), Fr wK vK q0 a0 → KO q0 (rec_24 a0 a1 a2 a3) (fun r => r)) (q : SS) (l1 : Int32) (l3 : Int32) (l4 : Int32) (h : Fr wK vK q0 q) : KO q0 (b_X12_goEve_113 rec_24 q l1 l3 l4) (fun r => r) := by
  unfold b_X12_goEve_113
  exact (h_rec_24 q l1 l3 (l4 + (1 : Int32)) h)
theorem k_b_X12_goEve_24 (q0 : SS)  (x0 : SS) (x1 : Int32) (x2 : Int32) (x3 : Int32) (h : Fr wK vK q0 x0) : KO q0 (b_X12_goEve_24 x0 x1 x2 x3) (fun r => r) := by
  unfold b_X12_goEve_24
  refine KO_fx4 (fun rec_24 h_rec_24 q l1 l3 l4 h => ?_) FU x0 x1 x2 x3 h
  exact (KO_i (KO_some h) (KO_bp (fun r5 => (KO_nv (fun v6 => (KO_bp (fun r7 => (KO_nv (fun v8 => (KO_bp (fun r9 => (KO_i (KO_ns (Fr_sI h rfl) (fun q10 h_q10 => (k_b_X12_goEve_113 q0 rec_24 h_rec_24 q10 l1 l3 l4 h_q10))) (KO_b (k_f_X12_oddsOf q0 q v6 v8 h) (fun r11 h_r11 => (KO_i (k_b_X12_goEve_113 q0 rec_24 h_rec_24 r11.2 l1 l3 l4 h_r11) (KO_ic (fun c0 => (KO_ns (Fr_sI h_r11 rfl) (fun q12 h_q12 => (KO_ns (Fr_sI h_q12 rfl) (fun q13 h_q13 => (k_b_X12_goEve_113 q0 rec_24 h_rec_24 q13 l1 l3 l4 h_q13)))))) KO_none))))))))))))))))
theorem k_f_X12_goEve (q0 : SS) (q : SS) (a1 : Int32) (a2 : Int32) (h : Fr wK vK q0 q) : KO q0 (f_X12_goEve q a1 a2) (fun r => r) := by
  unfold f_X12_goEve
  exact (KO_b (k_f_X12_layNow q0 q h) (fun r1 h_r1 => (KO_ns (Fr_sI h_r1 rfl) (fun q2 h_q2 => (KO_ns (Fr_sI h_q2 rfl) (fun q3 h_q3 => (KO_bp (fun r4 => (k_b_X12_goEve_24 q0 q3 a1 r4 (0 : Int32) h_q3)))))))))
theorem k_f_X12_eve (q0 : SS) (q : SS) (a1 : Int32) (a2 : Int32) (a3 : Int32) (h : Fr wK vK q0 q) : KO q0 (f_X12_eve q a1 a2 a3) (fun r => r.2) := by
  unfold f_X12_eve
  exact (KO_bp (fun r1 => (KO_i (KO_some h) (KO_bp (fun r2 => (KO_i (KO_some h) (KO_bp (fun r3 => (KO_i (KO_some h) (KO_bp (fun r4 => (KO_i (KO_b (k_f_X12_goEve q0 q a1 a2 h) (fun r5 h_r5 => (KO_i (KO_some h_r5) (KO_i (KO_some h_r5) (KO_bp (fun r6 => (KO_some h_r5))))))) (KO_bp (fun r9 => (KO_some h)))))))))))))))
theorem k_f_X11_later (q0 : SS) (q : SS) (a1 : Int32) (a2 : Int32) (a3 : Int32) (h : Fr wK vK q0 q) : KO q0 (f_X11_later q a1 a2 a3) (fun r => r.2) := by
  unfold f_X11_later
  exact (KO_bp (fun r1 => (KO_i (KO_some h) (KO_i (KO_some h) (KO_i (KO_some h) (KO_bp (fun r2 => (KO_i (KO_some h) (KO_bp (fun r3 => (KO_i (KO_b (k_f_X2_begin q0 q a1 h) (fun r4 h_r4 => (KO_b (k_f_X2_goByWell q0 r4 a2 h_r4) (fun r5 h_r5 => (KO_bp (fun r6 => (KO_some h_r5))))))) (KO_some h))))))))))))
theorem k_f_X12_later (q0 : SS) (q : SS) (a1 : Int32) (a2 : Int32) (a3 : Int32) (h : Fr wK vK q0 q) : KO q0 (f_X12_later q a1 a2 a3) (fun r => r.2) := by
  unfold f_X12_later
  exact (KO_bp (fun r1 => (KO_i (KO_some h) (KO_bp (fun r2 => (KO_i (KO_some h) (KO_bp (fun r3 => (KO_i (KO_some h) (KO_bp (fun r4 => (KO_i (KO_b (k_f_X12_goEve q0 q a1 a2 h) (fun r5 h_r5 => (KO_ic (fun c0 => (KO_some h_r5)) KO_none))) (KO_bp (fun r6 => (KO_some h)))))))))))))))
theorem k_f_X11_odds (q0 : SS) (q : SS) (a1 : Int32) (h : Fr wK vK q0 q) : KO q0 (f_X11_odds q a1) (fun r => r.2) := by
  unfold f_X11_odds
  exact (KO_bp (fun r1 => (KO_i (KO_some h) (KO_b (k_f_X11_now q0 q h) (fun r2 h_r2 => (KO_b (k_f_X8_oddsOf q0 r2 (jshr a1 (3 : Int32)) (a1 &&& (7 : Int32)) h_r2) (fun r3 h_r3 => (KO_some h_r3))))))))
theorem k_f_X12_odds (q0 : SS) (q : SS) (a1 : Int32) (h : Fr wK vK q0 q) : KO q0 (f_X12_odds q a1) (fun r => r.2) := by
  unfold f_X12_odds
  exact (KO_bp (fun r1 => (KO_i (KO_some h) (KO_b (k_f_X12_layNow q0 q h) (fun r2 h_r2 => (KO_b (k_f_X12_oddsOf q0 r2 (a1 / (8 : Int32)) (jrem a1 (8 : Int32)) h_r2) (fun r3 h_r3 => (KO_some h_r3))))))))
theorem k_f_X4_clear (q0 : SS) (q : SS) (h : Fr wK vK q0 q) : KO q0 (f_X4_clear q) (fun r => r) := by
  unfold f_X4_clear
  exact (KO_ns (Fr_sI h rfl) (fun q1 h_q1 => (KO_some h_q1)))
theorem k_f_X4_addStep (q0 : SS) (q : SS) (a1 : Int32) (a2 : Int32) (h : Fr wK vK q0 q) : KO q0 (f_X4_addStep q a1 a2) (fun r => r) := by
  unfold f_X4_addStep
  exact (KO_i (KO_some h) (KO_i (KO_ns (Fr_sI h rfl) (fun q1 h_q1 => (KO_i (KO_ns (Fr_sI h_q1 rfl) (fun q2 h_q2 => (KO_ns (Fr_sI h_q2 rfl) (fun q3 h_q3 => (KO_some h_q3))))) KO_none))) KO_none))
theorem k_b_X5_readNumber_48 (q0 : SS) (q : SS) (l1 : Int32) (h : Fr wK vK q0 q) : KO q0 (b_X5_readNumber_48 q l1) (fun r => r) := by
  unfold b_X5_readNumber_48
  exact (KO_b (k_f_X4_addStep q0 q (48 : Int32) l1 h) (fun r1 h_r1 => (KO_some h_r1)))
theorem k_b_X5_readNumber_4 (q0 : SS)  (x0 : SS) (x1 : Int32) (x2 : Int32) (h : Fr wK vK q0 x0) : KO q0 (b_X5_readNumber_4 x0 x1 x2) (fun r => r) := by
  unfold b_X5_readNumber_4
  refine KO_fx3 (fun rec_4 h_rec_4 q l1 l2 h => ?_) FU x0 x1 x2 h
  exact (KO_i (k_b_X5_readNumber_48 q0 q l1 h) (KO_bp (fun r2 => (KO_bp (fun r3 => (KO_i (k_b_X5_readNumber_48 q0 q l1 h) (KO_bp (fun r4 => (KO_nv (fun v5 => (KO_ns (Fr_sI h rfl) (fun q6 h_q6 => (h_rec_4 q6 v5 (l2 + (1 : Int32)) h_q6)))))))))))))
theorem k_f_X5_readNumber (q0 : SS) (q : SS) (h : Fr wK vK q0 q) : KO q0 (f_X5_readNumber q) (fun r => r) := by
  unfold f_X5_readNumber
  exact (k_b_X5_readNumber_4 q0 q (0 : Int32) (0 : Int32) h)
def KG_X5_readJoined (q0 : SS) (r : GT_X5_readJoined) : Prop := (∀ (a0 : SS) (a1 : Int32) (a2 : Int32), Fr wK vK q0 a0 → KO q0 (r.1 a0 a1 a2) (fun r => r.2)) ∧ (∀ (a0 : SS) (a1 : Int32), Fr wK vK q0 a0 → KO q0 (r.2.1 a0 a1) (fun r => r.2)) ∧ (∀ (a0 : SS) (a1 : Int32) (a2 : Int32), Fr wK vK q0 a0 → KO q0 (r.2.2.1 a0 a1 a2) (fun r => r.2)) ∧ (∀ (a0 : SS) (a1 : Int32), Fr wK vK q0 a0 → KO q0 (r.2.2.2 a0 a1) (fun r => r.2))
theorem k_b_X5_readJoined_97 (q0 : SS) (r : GT_X5_readJoined) (hr : KG_X5_readJoined q0 r) (rec_12 : SS → Int32 → Int32 → Int32 → Int32 → Int32 → Option (Int32 × SS)) (h_rec_12 : ∀ (a0 : SS) (a1 : Int32) (a2 : Int32) (a3 : Int32) (a4 : Int32) (a5 : Int32), Fr wK vK q0 a0 → KO q0 (rec_12 a0 a1 a2 a3 a4 a5) (fun r => r.2)) (q : SS) (l1 : Int32) (l2 : Int32) (l4 : Int32) (l5 : Int32) (s0 : Int32) (h : Fr wK vK q0 q) : KO q0 (b_X5_readJoined_97 r rec_12 q l1 l2 l4 l5 s0) (fun r => r.2) := by
  unfold b_X5_readJoined_97
  exact (h_rec_12 q l1 l2 s0 l4 (l5 + (1 : Int32)) h)
theorem k_b_X5_readJoined_12 (q0 : SS) (r : GT_X5_readJoined) (hr : KG_X5_readJoined q0 r) (x0 : SS) (x1 : Int32) (x2 : Int32) (x3 : Int32) (x4 : Int32) (x5 : Int32) (h : Fr wK vK q0 x0) : KO q0 (b_X5_readJoined_12 r x0 x1 x2 x3 x4 x5) (fun r => r.2) := by
  unfold b_X5_readJoined_12
  refine KO_fx6 (fun rec_12 h_rec_12 q l1 l2 l3 l4 l5 h => ?_) FU x0 x1 x2 x3 x4 x5 h
  exact (KO_i (KO_i (KO_some h) KO_none) (KO_i (KO_i (KO_some h) KO_none) (KO_bp (fun r2 => (KO_bp (fun r3 => (KO_i (KO_some h) (KO_i (KO_ns (Fr_sI h rfl) (fun q4 h_q4 => (KO_b (hr.1 q4 (r3 + (1 : Int32)) l2 h_q4) (fun r5 h_r5 => (KO_b (k_f_X4_addStep q0 r5.2 r2 (0 : Int32) h_r5) (fun r6 h_r6 => (KO_i (k_b_X5_readJoined_97 q0 r hr rec_12 h_rec_12 r6 l1 l2 r5.1 l5 (r3 - (1 : Int32)) h_r6) (k_b_X5_readJoined_97 q0 r hr rec_12 h_rec_12 r6 l1 l2 r5.1 l5 r3 h_r6)))))))) (KO_some h)))))))))
theorem k_fb_X5_readJoined (q0 : SS) (r : GT_X5_readJoined) (hr : KG_X5_readJoined q0 r) (q : SS) (a1 : Int32) (a2 : Int32) (h : Fr wK vK q0 q) : KO q0 (fb_X5_readJoined r q a1 a2) (fun r => r.2) := by
  unfold fb_X5_readJoined
  exact (KO_b (hr.2.1 q a2 h) (fun r1 h_r1 => (k_b_X5_readJoined_12 q0 r hr r1.2 a1 a2 (5 : Int32) r1.1 (0 : Int32) h_r1)))
theorem k_b_X5_readOperand_75 (q0 : SS) (r : GT_X5_readJoined) (hr : KG_X5_readJoined q0 r) (q : SS) (l1 : Int32) (l2 : Int32) (h : Fr wK vK q0 q) : KO q0 (b_X5_readOperand_75 r q l1 l2) (fun r => r.2) := by
  unfold b_X5_readOperand_75
  exact (KO_ns (Fr_sI h rfl) (fun q4 h_q4 => (KO_i (KO_b (hr.2.2.2 q4 (l1 + (1 : Int32)) h_q4) (fun r5 h_r5 => (KO_i (KO_some h_r5) KO_none))) (KO_b (hr.2.2.1 q4 l2 (l1 + (1 : Int32)) h_q4) (fun r6 h_r6 => (KO_i (KO_some h_r6) KO_none))))))
theorem k_fb_X5_readOperand (q0 : SS) (r : GT_X5_readJoined) (hr : KG_X5_readJoined q0 r) (q : SS) (a1 : Int32) (h : Fr wK vK q0 q) : KO q0 (fb_X5_readOperand r q a1) (fun r => r.2) := by
  unfold fb_X5_readOperand
  exact (KO_bp (fun r1 => (KO_bp (fun r2 => (KO_bp (fun r3 => (KO_i (KO_i (KO_i (KO_some h) (KO_i (k_b_X5_readOperand_75 q0 r hr q a1 r1 h) (KO_i (k_b_X5_readOperand_75 q0 r hr q a1 r1 h) (KO_i (k_b_X5_readOperand_75 q0 r hr q a1 r1 h) (KO_some h))))) (KO_ns (Fr_sI h rfl) (fun q12 h_q12 => (KO_b (k_f_X4_addStep q0 q12 (110 : Int32) r2 h_q12) (fun r13 h_r13 => (KO_some h_r13)))))) (KO_b (k_f_X5_readNumber q0 q h) (fun r15 h_r15 => (KO_some h_r15))))))))))
theorem k_b_X5_readTurned_23 (q0 : SS) (r : GT_X5_readJoined) (hr : KG_X5_readJoined q0 r) (q : SS) (l3 : Int32) (s0 : Int32) (h : Fr wK vK q0 q) : KO q0 (b_X5_readTurned_23 r q l3 s0) (fun r => r.2) := by
  unfold b_X5_readTurned_23
  exact (KO_b (k_f_X4_addStep q0 q s0 (0 : Int32) h) (fun r2 h_r2 => (KO_i (KO_some h_r2) KO_none)))
theorem k_fb_X5_readTurned (q0 : SS) (r : GT_X5_readJoined) (hr : KG_X5_readJoined q0 r) (q : SS) (a1 : Int32) (a2 : Int32) (h : Fr wK vK q0 q) : KO q0 (fb_X5_readTurned r q a1 a2) (fun r => r.2) := by
  unfold fb_X5_readTurned
  exact (KO_b (hr.2.1 q a2 h) (fun r1 h_r1 => (KO_i (k_b_X5_readTurned_23 q0 r hr r1.2 r1.1 (33 : Int32) h_r1) (k_b_X5_readTurned_23 q0 r hr r1.2 r1.1 (126 : Int32) h_r1))))
theorem k_fb_X5_readEnclosed (q0 : SS) (r : GT_X5_readJoined) (hr : KG_X5_readJoined q0 r) (q : SS) (a1 : Int32) (h : Fr wK vK q0 q) : KO q0 (fb_X5_readEnclosed r q a1) (fun r => r.2) := by
  unfold fb_X5_readEnclosed
  exact (KO_b (hr.1 q (1 : Int32) a1 h) (fun r1 h_r1 => (KO_i (KO_some h_r1) (KO_bp (fun r2 => (KO_i (KO_ns (Fr_sI h_r1 rfl) (fun q3 h_q3 => (KO_some h_q3))) (KO_some h_r1)))))))
theorem kg_X5_readJoined (q0 : SS) : ∀ n, KG_X5_readJoined q0 (g_X5_readJoined n)
  | 0 => ⟨(fun _ _ _ _ => KO_none), (fun _ _ _ => KO_none), (fun _ _ _ _ => KO_none), (fun _ _ _ => KO_none)⟩
  | n + 1 => ⟨(fun a0 a1 a2 h => k_fb_X5_readJoined q0 (g_X5_readJoined n) (kg_X5_readJoined q0 n) a0 a1 a2 h), (fun a0 a1 h => k_fb_X5_readOperand q0 (g_X5_readJoined n) (kg_X5_readJoined q0 n) a0 a1 h), (fun a0 a1 a2 h => k_fb_X5_readTurned q0 (g_X5_readJoined n) (kg_X5_readJoined q0 n) a0 a1 a2 h), (fun a0 a1 h => k_fb_X5_readEnclosed q0 (g_X5_readJoined n) (kg_X5_readJoined q0 n) a0 a1 h)⟩
theorem k_f_X5_readJoined (q0 : SS) (x0 : SS) (x1 : Int32) (x2 : Int32) (h : Fr wK vK q0 x0) : KO q0 (f_X5_readJoined x0 x1 x2) (fun r => r.2) := (kg_X5_readJoined q0 900).1 x0 x1 x2 h
theorem k_b_X5_readLine_47 (q0 : SS) (q : SS) (l1 : Int32) (h : Fr wK vK q0 q) : KO q0 (b_X5_readLine_47 q l1) (fun r => r.2) := by
  unfold b_X5_readLine_47
  exact (KO_b (k_f_X4_addStep q0 q (59 : Int32) (0 : Int32) h) (fun r2 h_r2 => (KO_i (KO_some h_r2) KO_none)))
theorem k_f_X5_readLine (q0 : SS) (q : SS) (h : Fr wK vK q0 q) : KO q0 (f_X5_readLine q) (fun r => r.2) := by
  unfold f_X5_readLine
  exact (KO_b (k_f_X5_readJoined q0 q (1 : Int32) (0 : Int32) h) (fun r1 h_r1 => (KO_i (k_b_X5_readLine_47 q0 r1.2 r1.1 h_r1) (KO_bp (fun r3 => (KO_i (KO_ns (Fr_sI h_r1 rfl) (fun q4 h_q4 => (KO_b (k_f_X4_addStep q0 q4 (63 : Int32) (0 : Int32) h_q4) (fun r5 h_r5 => (KO_b (k_f_X5_readJoined q0 r5 (1 : Int32) (0 : Int32) h_r5) (fun r6 h_r6 => (k_b_X5_readLine_47 q0 r6.2 r6.1 h_r6))))))) (k_b_X5_readLine_47 q0 r1.2 r1.1 h_r1)))))))
theorem k_b_X5_readText_59 (q0 : SS) (q : SS) (l1 : Int32) (h : Fr wK vK q0 q) : KO q0 (b_X5_readText_59 q l1) (fun r => r.2) := by
  unfold b_X5_readText_59
  exact (KO_i (KO_some h) (KO_i (KO_some h) (KO_some h)))
theorem k_b_X5_readText_19 (q0 : SS)  (x0 : SS) (x1 : Int32) (x2 : Int32) (h : Fr wK vK q0 x0) : KO q0 (b_X5_readText_19 x0 x1 x2) (fun r => r.2) := by
  unfold b_X5_readText_19
  refine KO_fx3 (fun rec_19 h_rec_19 q l1 l2 h => ?_) FU x0 x1 x2 h
  exact (KO_i (k_b_X5_readText_59 q0 q l1 h) (KO_i (k_b_X5_readText_59 q0 q l1 h) (KO_bp (fun r6 => (KO_i (KO_ns (Fr_sI h rfl) (fun q7 h_q7 => (KO_b (k_f_X5_readLine q0 q7 h_q7) (fun r8 h_r8 => (h_rec_19 r8.2 r8.1 (l2 + (1 : Int32)) h_r8))))) (k_b_X5_readText_59 q0 q l1 h))))))
theorem k_f_X5_readText (q0 : SS) (q : SS) (h : Fr wK vK q0 q) : KO q0 (f_X5_readText q) (fun r => r.2) := by
  unfold f_X5_readText
  exact (KO_ns (Fr_sI h rfl) (fun q1 h_q1 => (KO_b (k_f_X4_clear q0 q1 h_q1) (fun r2 h_r2 => (KO_b (k_f_X5_readLine q0 r2 h_r2) (fun r3 h_r3 => (k_b_X5_readText_19 q0 r3.2 r3.1 (0 : Int32) h_r3)))))))
theorem k_f_X5_addByte (q0 : SS) (q : SS) (a1 : Int32) (h : Fr wK vK q0 q) : KO q0 (f_X5_addByte q a1) (fun r => r.2) := by
  unfold f_X5_addByte
  exact (KO_i (KO_i (KO_ns (Fr_sI h rfl) (fun q1 h_q1 => (KO_ns (Fr_sI h_q1 rfl) (fun q2 h_q2 => (KO_some h_q2))))) KO_none) (KO_some h))
theorem k_f_X11_feed (q0 : SS) (q : SS) (a1 : Int32) (h : Fr wK vK q0 q) : KO q0 (f_X11_feed q a1) (fun r => r.2) := by
  unfold f_X11_feed
  exact (KO_i (KO_some h) (KO_i (KO_b (k_f_X5_addByte q0 q a1 h) (fun r1 h_r1 => (KO_some h_r1))) (KO_some h)))
theorem k_f_X12_feed (q0 : SS) (q : SS) (a1 : Int32) (h : Fr wK vK q0 q) : KO q0 (f_X12_feed q a1) (fun r => r.2) := by
  unfold f_X12_feed
  exact (KO_bp (fun r1 => (KO_i (KO_some h) (KO_i (KO_some h) (KO_i (KO_ns (Fr_sI h rfl) (fun q2 h_q2 => (KO_ns (Fr_sI h_q2 rfl) (fun q3 h_q3 => (KO_some h_q3))))) KO_none)))))
theorem k_b_X11_of_12 (q0 : SS) (q : SS) (l1 : Int32) (l2 : Int32) (h : Fr wK vK q0 q) : KO q0 (b_X11_of_12 q l1 l2) (fun r => r.2) := by
  unfold b_X11_of_12
  exact (KO_bp (fun r1 => (KO_i (KO_some h) (KO_i (KO_b (k_f_X11_now q0 q h) (fun r2 h_r2 => (KO_bp (fun r3 => (KO_some h_r2))))) (KO_b (k_f_X11_now q0 q h) (fun r4 h_r4 => (KO_bp (fun r5 => (KO_some h_r4)))))))))
theorem k_f_X11_of (q0 : SS) (q : SS) (a1 : Int32) (a2 : Int32) (h : Fr wK vK q0 q) : KO q0 (f_X11_of q a1 a2) (fun r => r.2) := by
  unfold f_X11_of
  exact (KO_i (k_b_X11_of_12 q0 q a1 a2 h) (KO_i (k_b_X11_of_12 q0 q a1 a2 h) (KO_bp (fun r8 => (KO_i (KO_some h) (KO_bp (fun r9 => (KO_some h))))))))
theorem k_f_X12_of (q0 : SS) (q : SS) (a1 : Int32) (a2 : Int32) (h : Fr wK vK q0 q) : KO q0 (f_X12_of q a1 a2) (fun r => r.2) := by
  unfold f_X12_of
  exact (KO_bp (fun r1 => (KO_i (KO_bp (fun r2 => (KO_i (KO_some h) (KO_bp (fun r3 => (KO_some h)))))) (KO_bp (fun r5 => (KO_i (KO_some h) (KO_b (k_f_X12_layNow q0 q h) (fun r6 h_r6 => (KO_i (KO_bp (fun r7 => (KO_some h_r6))) (KO_bp (fun r8 => (KO_some h_r6))))))))))))
theorem k_f_X0_forgetOldest (q0 : SS) (q : SS) (h : Fr wK vK q0 q) : KO q0 (f_X0_forgetOldest q) (fun r => r) := by
  unfold f_X0_forgetOldest
  exact (KO_i (KO_ns (Fr_sR h (fun _ => rfl)) (fun q1 h_q1 => (KO_i (KO_ns (Fr_sR h_q1 (fun _ => rfl)) (fun q2 h_q2 => (KO_i (KO_ns (Fr_sR h_q2 (fun _ => rfl)) (fun q3 h_q3 => (KO_i (KO_ns (Fr_sR h_q3 (fun _ => rfl)) (fun q4 h_q4 => (KO_ns (Fr_sI h_q4 rfl) (fun q5 h_q5 => (KO_some h_q5))))) KO_none))) KO_none))) KO_none))) KO_none)
theorem k_b_X0_add_13 (q0 : SS) (q : SS) (l1 : Int32) (l2 : Int32) (l3 : Int32) (l4 : Int32) (h : Fr wK vK q0 q) : KO q0 (b_X0_add_13 q l1 l2 l3 l4) (fun r => r) := by
  unfold b_X0_add_13
  exact (KO_i (KO_ns (Fr_sI h rfl) (fun q1 h_q1 => (KO_i (KO_ns (Fr_sI h_q1 rfl) (fun q2 h_q2 => (KO_i (KO_ns (Fr_sI h_q2 rfl) (fun q3 h_q3 => (KO_i (KO_ns (Fr_sI h_q3 rfl) (fun q4 h_q4 => (KO_ns (Fr_sI h_q4 rfl) (fun q5 h_q5 => (KO_ns (Fr_sI h_q5 rfl) (fun q6 h_q6 => (KO_some h_q6))))))) KO_none))) KO_none))) KO_none))) KO_none)
theorem k_f_X0_add (q0 : SS) (q : SS) (a1 : Int32) (a2 : Int32) (a3 : Int32) (a4 : Int32) (h : Fr wK vK q0 q) : KO q0 (f_X0_add q a1 a2 a3 a4) (fun r => r) := by
  unfold f_X0_add
  exact (KO_i (k_b_X0_add_13 q0 q a1 a2 a3 a4 h) (KO_b (k_f_X0_forgetOldest q0 q h) (fun r7 h_r7 => (k_b_X0_add_13 q0 r7 a1 a2 a3 a4 h_r7))))
theorem k_f_X11_mend (q0 : SS) (q : SS) (a1 : Int32) (a2 : Int32) (a3 : Int32) (h : Fr wK vK q0 q) : KO q0 (f_X11_mend q a1 a2 a3) (fun r => r.2) := by
  unfold f_X11_mend
  exact (KO_bp (fun r1 => (KO_i (KO_some h) (KO_bp (fun r2 => (KO_i (KO_some h) (KO_bp (fun r3 => (KO_i (KO_some h) (KO_b (k_f_X0_add q0 q a2 a1 r3 a3 h) (fun r4 h_r4 => (KO_b (k_f_X10_set q0 r4 a2 a1 a3 h_r4) (fun r5 h_r5 => (KO_some h_r5))))))))))))))
theorem k_b_X12_changes_121 (q0 : SS) (q : SS) (l1 : Int32) (l2 : Int32) (l3 : Int32) (l4 : Int32) (h : Fr wK vK q0 q) : KO q0 (b_X12_changes_121 q l1 l2 l3 l4) (fun r => r.2) := by
  unfold b_X12_changes_121
  exact (KO_i (KO_ns (Fr_sI h rfl) (fun q4 h_q4 => (KO_i (KO_ns (Fr_sI h_q4 rfl) (fun q5 h_q5 => (KO_i (KO_ns (Fr_sI h_q5 rfl) (fun q6 h_q6 => (KO_i (KO_ns (Fr_sI h_q6 rfl) (fun q7 h_q7 => (KO_ns (Fr_sI h_q7 rfl) (fun q8 h_q8 => (KO_b (k_f_X12_lays q0 q8 l1 l2 l3 h_q8) (fun r9 h_r9 => (KO_some h_r9))))))) KO_none))) KO_none))) KO_none))) KO_none)
theorem k_b_X12_changes_34 (q0 : SS)  (x0 : SS) (x1 : Int32) (x2 : Int32) (x3 : Int32) (x4 : Int32) (x5 : Int32) (h : Fr wK vK q0 x0) : KO q0 (b_X12_changes_34 x0 x1 x2 x3 x4 x5) (fun r => r.2) := by
  unfold b_X12_changes_34
  refine KO_fx6 (fun rec_34 h_rec_34 q l1 l2 l3 l4 l5 h => ?_) FU x0 x1 x2 x3 x4 x5 h
  exact (KO_i (KO_ns (Fr_sI h rfl) (fun q3 h_q3 => (k_b_X12_changes_121 q0 q3 l1 l2 l3 l4 h_q3))) (KO_ic (fun c0 => (KO_i (KO_ns (Fr_sI h rfl) (fun q10 h_q10 => (KO_ic (fun c1 => (KO_i (KO_ns (Fr_sI h_q10 rfl) (fun q11 h_q11 => (KO_ic (fun c2 => (KO_i (KO_ns (Fr_sI h_q11 rfl) (fun q12 h_q12 => (KO_ic (fun c3 => (KO_i (KO_ns (Fr_sI h_q12 rfl) (fun q13 h_q13 => (h_rec_34 q13 l1 l2 l3 l4 (l5 + (1 : Int32)) h_q13))) KO_none)) KO_none))) KO_none)) KO_none))) KO_none)) KO_none))) KO_none)) KO_none))
theorem k_f_X12_changes (q0 : SS) (q : SS) (a1 : Int32) (a2 : Int32) (a3 : Int32) (h : Fr wK vK q0 q) : KO q0 (f_X12_changes q a1 a2 a3) (fun r => r.2) := by
  unfold f_X12_changes
  exact (KO_bp (fun r1 => (KO_i (KO_some h) (KO_ns (Fr_sI h rfl) (fun q2 h_q2 => (KO_i (k_b_X12_changes_34 q0 q2 a1 a2 a3 r1 (1 : Int32) h_q2) (k_b_X12_changes_121 q0 q2 a1 a2 a3 r1 h_q2)))))))
theorem k_f_X12_mend (q0 : SS) (q : SS) (a1 : Int32) (a2 : Int32) (a3 : Int32) (h : Fr wK vK q0 q) : KO q0 (f_X12_mend q a1 a2 a3) (fun r => r.2) := by
  unfold f_X12_mend
  exact (KO_bp (fun r1 => (KO_i (KO_some h) (KO_bp (fun r2 => (KO_i (KO_some h) (KO_b (k_f_X12_changes q0 q a2 a1 a3 h) (fun r3 h_r3 => (KO_some h_r3)))))))))
theorem k_f_X10_addTicket (q0 : SS) (q : SS) (a1 : Int32) (a2 : Int32) (a3 : Int32) (h : Fr wK vK q0 q) : KO q0 (f_X10_addTicket q a1 a2 a3) (fun r => r.2) := by
  unfold f_X10_addTicket
  exact (KO_i (KO_ns (Fr_sI h rfl) (fun q1 h_q1 => (KO_b (k_f_X10_set q0 q1 (4 : Int32) ((q1.1 1 2) - (1 : Int32)) a1 h_q1) (fun r2 h_r2 => (KO_b (k_f_X10_set q0 r2 (5 : Int32) ((r2.1 1 2) - (1 : Int32)) a2 h_r2) (fun r3 h_r3 => (KO_b (k_f_X10_set q0 r3 (6 : Int32) ((r3.1 1 2) - (1 : Int32)) a3 h_r3) (fun r4 h_r4 => (KO_some h_r4))))))))) (KO_some h))
theorem k_f_X11_addFromRow (q0 : SS) (q : SS) (a1 : Int32) (a2 : Int32) (a3 : Int32) (h : Fr wK vK q0 q) : KO q0 (f_X11_addFromRow q a1 a2 a3) (fun r => r.2) := by
  unfold f_X11_addFromRow
  exact (KO_nv (fun v1 => (KO_bp (fun r2 => (KO_i (KO_bp (fun r3 => (KO_nv (fun v4 => (KO_bp (fun r5 => (KO_nv (fun v6 => (KO_bp (fun r7 => (KO_nv (fun v8 => (KO_bp (fun r9 => (KO_i (KO_some h) (KO_bp (fun r10 => (KO_i (KO_some h) (KO_bp (fun r11 => (KO_i (KO_some h) (KO_b (k_f_X10_addTicket q0 q v4 v6 v8 h) (fun r12 h_r12 => (KO_i (KO_some h_r12) (KO_some h_r12))))))))))))))))))))))))) (KO_some h))))))
theorem k_b_X11_tickets_63 (q0 : SS)  (x0 : SS) (x1 : Int32) (x2 : Int32) (x3 : Int32) (x4 : Int32) (x5 : Int32) (h : Fr wK vK q0 x0) : KO q0 (b_X11_tickets_63 x0 x1 x2 x3 x4 x5) (fun r => r.2) := by
  unfold b_X11_tickets_63
  refine KO_fx6 (fun rec_63 h_rec_63 q l1 l2 l3 l5 l6 h => ?_) FU x0 x1 x2 x3 x4 x5 h
  exact (KO_i (KO_some h) (KO_b (k_f_X11_addFromRow q0 q l1 l2 l6 h) (fun r3 h_r3 => (KO_i (KO_some h_r3) (h_rec_63 r3.2 l1 l2 l3 (l5 + (1 : Int32)) (l6 + (1 : Int32)) h_r3)))))
theorem k_f_X11_tickets (q0 : SS) (q : SS) (a1 : Int32) (a2 : Int32) (a3 : Int32) (h : Fr wK vK q0 q) : KO q0 (f_X11_tickets q a1 a2 a3) (fun r => r.2) := by
  unfold f_X11_tickets
  exact (KO_bp (fun r1 => (KO_i (KO_some h) (KO_i (KO_some h) (KO_i (KO_bp (fun r2 => (KO_i (KO_some h) (KO_i (KO_some h) (KO_i (k_b_X11_tickets_63 q0 q a1 a2 a3 (0 : Int32) (0 : Int32) h) (KO_some h)))))) (KO_some h))))))
theorem k_f_X12_addTicket (q0 : SS) (q : SS) (a1 : Int32) (a2 : Int32) (a3 : Int32) (h : Fr wK vK q0 q) : KO q0 (f_X12_addTicket q a1 a2 a3) (fun r => r.2) := by
  unfold f_X12_addTicket
  exact (KO_i (KO_ns (Fr_sI h rfl) (fun q1 h_q1 => (KO_i (KO_ns (Fr_sI h_q1 rfl) (fun q2 h_q2 => (KO_i (KO_ns (Fr_sI h_q2 rfl) (fun q3 h_q3 => (KO_ns (Fr_sI h_q3 rfl) (fun q4 h_q4 => (KO_some h_q4))))) KO_none))) KO_none))) KO_none)
theorem k_b_X12_tickets_58 (q0 : SS)  (x0 : SS) (x1 : Int32) (x2 : Int32) (x3 : Int32) (x4 : Int32) (h : Fr wK vK q0 x0) : KO q0 (b_X12_tickets_58 x0 x1 x2 x3 x4) (fun r => r.2) := by
  unfold b_X12_tickets_58
  refine KO_fx5 (fun rec_58 h_rec_58 q l1 l2 l3 l4 h => ?_) FU x0 x1 x2 x3 x4 h
  exact (KO_i (KO_some h) (KO_nv (fun v3 => (KO_i (KO_some h) (KO_ic (fun c0 => (KO_i (KO_some h) (KO_i (KO_some h) (KO_nv (fun v4 => (KO_ic (fun c1 => (KO_i (KO_bp (fun r5 => (KO_i (KO_some h) (KO_i (KO_bp (fun r6 => (KO_i (KO_some h) (KO_ic (fun c2 => (KO_i (KO_i (KO_b (k_f_X12_addTicket q0 q ((q.2 91 v4.toNatClampNeg).toInt32) ((q.2 91 (v4 + (1 : Int32)).toNatClampNeg).toInt32) ((q.2 91 (v4 + (2 : Int32)).toNatClampNeg).toInt32) h) (fun r7 h_r7 => (h_rec_58 r7.2 l1 l2 l3 (l4 + (1 : Int32)) h_r7))) KO_none) KO_none)) KO_none)))) KO_none)))) KO_none)) KO_none)))))) KO_none)))))
theorem k_b_X12_tickets_43 (q0 : SS) (q : SS) (l1 : Int32) (l2 : Int32) (l3 : Int32) (h : Fr wK vK q0 q) : KO q0 (b_X12_tickets_43 q l1 l2 l3) (fun r => r.2) := by
  unfold b_X12_tickets_43
  exact (KO_ic (fun c0 => (KO_i (KO_some h) (k_b_X12_tickets_58 q0 q l1 l2 l3 (0 : Int32) h))) KO_none)
theorem k_f_X12_tickets (q0 : SS) (q : SS) (a1 : Int32) (a2 : Int32) (a3 : Int32) (h : Fr wK vK q0 q) : KO q0 (f_X12_tickets q a1 a2 a3) (fun r => r.2) := by
  unfold f_X12_tickets
  exact (KO_bp (fun r1 => (KO_i (KO_some h) (KO_bp (fun r2 => (KO_i (KO_some h) (KO_ic (fun c0 => (KO_i (k_b_X12_tickets_43 q0 q a1 a2 a3 h) (KO_ic (fun c1 => (KO_i (k_b_X12_tickets_43 q0 q a1 a2 a3 h) (KO_some h))) KO_none))) KO_none)))))))
theorem k_f_X11_ticket (q0 : SS) (q : SS) (a1 : Int32) (a2 : Int32) (h : Fr wK vK q0 q) : KO q0 (f_X11_ticket q a1 a2) (fun r => r.2) := by
  unfold f_X11_ticket
  exact (KO_bp (fun r1 => (KO_i (KO_some h) (KO_bp (fun r2 => (KO_i (KO_some h) (KO_b (k_f_X10_addTicket q0 q a1 a2 (0 : Int32) h) (fun r3 h_r3 => (KO_some h_r3)))))))))
theorem k_f_X12_ticket (q0 : SS) (q : SS) (a1 : Int32) (a2 : Int32) (h : Fr wK vK q0 q) : KO q0 (f_X12_ticket q a1 a2) (fun r => r.2) := by
  unfold f_X12_ticket
  exact (KO_bp (fun r1 => (KO_i (KO_some h) (KO_i (KO_some h) (KO_b (k_f_X12_addTicket q0 q a1 a2 (0 : Int32) h) (fun r2 h_r2 => (KO_some h_r2)))))))
theorem k_f_X10_addPerson (q0 : SS) (q : SS) (a1 : Int32) (h : Fr wK vK q0 q) : KO q0 (f_X10_addPerson q a1) (fun r => r.2) := by
  unfold f_X10_addPerson
  exact (KO_i (KO_ns (Fr_sI h rfl) (fun q1 h_q1 => (KO_b (k_f_X10_set q0 q1 (0 : Int32) ((q1.1 1 1) - (1 : Int32)) a1 h_q1) (fun r2 h_r2 => (KO_some h_r2))))) (KO_some h))
theorem k_f_X11_person (q0 : SS) (q : SS) (a1 : Int32) (h : Fr wK vK q0 q) : KO q0 (f_X11_person q a1) (fun r => r.2) := by
  unfold f_X11_person
  exact (KO_bp (fun r1 => (KO_i (KO_some h) (KO_b (k_f_X10_addPerson q0 q a1 h) (fun r2 h_r2 => (KO_some h_r2))))))
theorem k_f_X12_person (q0 : SS) (q : SS) (a1 : Int32) (h : Fr wK vK q0 q) : KO q0 (f_X12_person q a1) (fun r => r.2) := by
  unfold f_X12_person
  exact (KO_bp (fun r1 => (KO_i (KO_some h) (KO_i (KO_some h) (KO_i (KO_ns (Fr_sI h rfl) (fun q2 h_q2 => (KO_i (KO_ns (Fr_sI h_q2 rfl) (fun q3 h_q3 => (KO_i (KO_ns (Fr_sI h_q3 rfl) (fun q4 h_q4 => (KO_i (KO_ns (Fr_sI h_q4 rfl) (fun q5 h_q5 => (KO_ns (Fr_sI h_q5 rfl) (fun q6 h_q6 => (KO_some h_q6))))) KO_none))) KO_none))) KO_none))) KO_none)))))
/-! ===== the class's queries leave the model's cells alone ===== -/
def wQ (k _ : Nat) : Bool := Nat.blt k 60
def vQ (k : Nat) : Bool := Nat.blt k 60
def KC {ρ : Type} (q0 : SS) (o : Option ρ) (st : ρ → SS) : Prop := ∀ r, o = some r → Fr wQ vQ q0 (st r)
theorem KC_none {ρ : Type} {q0 : SS} {st : ρ → SS} : KC q0 none st := fun _ h => by cases h
theorem KC_some {ρ : Type} {q0 : SS} {st : ρ → SS} {r : ρ} (h : Fr wQ vQ q0 (st r)) : KC q0 (some r) st := fun r' e => by
  cases e
  exact h
theorem KC_i {ρ : Type} {q0 : SS} {st : ρ → SS} {c : Prop} [Decidable c] {a b : Option ρ} (h1 : KC q0 a st) (h2 : KC q0 b st) : KC q0 (if c then a else b) st := by
  by_cases h : c
  · rw [if_pos h]; exact h1
  · rw [if_neg h]; exact h2
theorem KC_ic {ρ : Type} {q0 : SS} {st : ρ → SS} {c : Prop} [Decidable c] {a b : Option ρ} (h1 : c → KC q0 a st) (h2 : KC q0 b st) : KC q0 (if c then a else b) st := by
  by_cases h : c
  · rw [if_pos h]; exact h1 h
  · rw [if_neg h]; exact h2
theorem KC_ns {ρ : Type} {q0 : SS} {st : ρ → SS} {e : SS} {f : SS → Option ρ} (h : Fr wQ vQ q0 e) (k : ∀ x, Fr wQ vQ q0 x → KC q0 (f x) st) : KC q0 (nm e f) st := k e h
theorem KC_nv {α ρ : Type} {q0 : SS} {st : ρ → SS} {e : α} {f : α → Option ρ} (k : ∀ x, KC q0 (f x) st) : KC q0 (nm e f) st := k e
theorem KC_bp {α ρ : Type} {q0 : SS} {st : ρ → SS} {o : Option α} {f : α → Option ρ} (k : ∀ x, KC q0 (f x) st) : KC q0 (o.bind f) st := by
  cases o with
  | none => exact KC_none
  | some x => exact k x
theorem KC_b {α ρ : Type} {q0 : SS} {st' : α → SS} {st : ρ → SS} {o : Option α} {f : α → Option ρ} (h : KC q0 o st') (k : ∀ x, Fr wQ vQ q0 (st' x) → KC q0 (f x) st) : KC q0 (o.bind f) st := by
  cases o with
  | none => exact KC_none
  | some x => exact k x (h x rfl)
theorem KC_s0 {ρ : Type} {q0 : SS} {st : ρ → SS} {x : Int32} {d : Option ρ} (h : KC q0 d st) : KC q0 (sw x [] d) st := h
theorem KC_sw {ρ : Type} {q0 : SS} {st : ρ → SS} {x : Int32} {k : Int} {o d : Option ρ} {t : List (Int × Option ρ)} (h1 : KC q0 o st) (h2 : KC q0 (sw x t d) st) : KC q0 (sw x ((k, o) :: t) d) st := by
  show KC q0 (if x.toInt = k then o else sw x t d) st
  exact KC_i h1 h2
theorem KC_fx1 {ρ : Type} {q0 : SS} {st : ρ → SS} {F : (SS → Option ρ) → SS → Option ρ} (h : ∀ rec, (∀ b0, Fr wQ vQ q0 b0 → KC q0 (rec b0) st) → ∀ a0, Fr wQ vQ q0 a0 → KC q0 (F rec a0) st) : ∀ n a0, Fr wQ vQ q0 a0 → KC q0 (fx1 F n a0) st
  | 0, _, _ => KC_none
  | n + 1, a0, e => h _ (fun b0 e => KC_fx1 h n b0 e) a0 e
theorem KC_fx2 {A1 ρ : Type} {q0 : SS} {st : ρ → SS} {F : (SS → A1 → Option ρ) → SS → A1 → Option ρ} (h : ∀ rec, (∀ b0 b1, Fr wQ vQ q0 b0 → KC q0 (rec b0 b1) st) → ∀ a0 a1, Fr wQ vQ q0 a0 → KC q0 (F rec a0 a1) st) : ∀ n a0 a1, Fr wQ vQ q0 a0 → KC q0 (fx2 F n a0 a1) st
  | 0, _, _, _ => KC_none
  | n + 1, a0, a1, e => h _ (fun b0 b1 e => KC_fx2 h n b0 b1 e) a0 a1 e
theorem KC_fx3 {A1 A2 ρ : Type} {q0 : SS} {st : ρ → SS} {F : (SS → A1 → A2 → Option ρ) → SS → A1 → A2 → Option ρ} (h : ∀ rec, (∀ b0 b1 b2, Fr wQ vQ q0 b0 → KC q0 (rec b0 b1 b2) st) → ∀ a0 a1 a2, Fr wQ vQ q0 a0 → KC q0 (F rec a0 a1 a2) st) : ∀ n a0 a1 a2, Fr wQ vQ q0 a0 → KC q0 (fx3 F n a0 a1 a2) st
  | 0, _, _, _, _ => KC_none
  | n + 1, a0, a1, a2, e => h _ (fun b0 b1 b2 e => KC_fx3 h n b0 b1 b2 e) a0 a1 a2 e
theorem KC_fx4 {A1 A2 A3 ρ : Type} {q0 : SS} {st : ρ → SS} {F : (SS → A1 → A2 → A3 → Option ρ) → SS → A1 → A2 → A3 → Option ρ} (h : ∀ rec, (∀ b0 b1 b2 b3, Fr wQ vQ q0 b0 → KC q0 (rec b0 b1 b2 b3) st) → ∀ a0 a1 a2 a3, Fr wQ vQ q0 a0 → KC q0 (F rec a0 a1 a2 a3) st) : ∀ n a0 a1 a2 a3, Fr wQ vQ q0 a0 → KC q0 (fx4 F n a0 a1 a2 a3) st
  | 0, _, _, _, _, _ => KC_none
  | n + 1, a0, a1, a2, a3, e => h _ (fun b0 b1 b2 b3 e => KC_fx4 h n b0 b1 b2 b3 e) a0 a1 a2 a3 e
theorem KC_fx5 {A1 A2 A3 A4 ρ : Type} {q0 : SS} {st : ρ → SS} {F : (SS → A1 → A2 → A3 → A4 → Option ρ) → SS → A1 → A2 → A3 → A4 → Option ρ} (h : ∀ rec, (∀ b0 b1 b2 b3 b4, Fr wQ vQ q0 b0 → KC q0 (rec b0 b1 b2 b3 b4) st) → ∀ a0 a1 a2 a3 a4, Fr wQ vQ q0 a0 → KC q0 (F rec a0 a1 a2 a3 a4) st) : ∀ n a0 a1 a2 a3 a4, Fr wQ vQ q0 a0 → KC q0 (fx5 F n a0 a1 a2 a3 a4) st
  | 0, _, _, _, _, _, _ => KC_none
  | n + 1, a0, a1, a2, a3, a4, e => h _ (fun b0 b1 b2 b3 b4 e => KC_fx5 h n b0 b1 b2 b3 b4 e) a0 a1 a2 a3 a4 e
theorem KC_fx6 {A1 A2 A3 A4 A5 ρ : Type} {q0 : SS} {st : ρ → SS} {F : (SS → A1 → A2 → A3 → A4 → A5 → Option ρ) → SS → A1 → A2 → A3 → A4 → A5 → Option ρ} (h : ∀ rec, (∀ b0 b1 b2 b3 b4 b5, Fr wQ vQ q0 b0 → KC q0 (rec b0 b1 b2 b3 b4 b5) st) → ∀ a0 a1 a2 a3 a4 a5, Fr wQ vQ q0 a0 → KC q0 (F rec a0 a1 a2 a3 a4 a5) st) : ∀ n a0 a1 a2 a3 a4 a5, Fr wQ vQ q0 a0 → KC q0 (fx6 F n a0 a1 a2 a3 a4 a5) st
  | 0, _, _, _, _, _, _, _ => KC_none
  | n + 1, a0, a1, a2, a3, a4, a5, e => h _ (fun b0 b1 b2 b3 b4 b5 e => KC_fx6 h n b0 b1 b2 b3 b4 b5 e) a0 a1 a2 a3 a4 a5 e
theorem KC_fx7 {A1 A2 A3 A4 A5 A6 ρ : Type} {q0 : SS} {st : ρ → SS} {F : (SS → A1 → A2 → A3 → A4 → A5 → A6 → Option ρ) → SS → A1 → A2 → A3 → A4 → A5 → A6 → Option ρ} (h : ∀ rec, (∀ b0 b1 b2 b3 b4 b5 b6, Fr wQ vQ q0 b0 → KC q0 (rec b0 b1 b2 b3 b4 b5 b6) st) → ∀ a0 a1 a2 a3 a4 a5 a6, Fr wQ vQ q0 a0 → KC q0 (F rec a0 a1 a2 a3 a4 a5 a6) st) : ∀ n a0 a1 a2 a3 a4 a5 a6, Fr wQ vQ q0 a0 → KC q0 (fx7 F n a0 a1 a2 a3 a4 a5 a6) st
  | 0, _, _, _, _, _, _, _, _ => KC_none
  | n + 1, a0, a1, a2, a3, a4, a5, a6, e => h _ (fun b0 b1 b2 b3 b4 b5 b6 e => KC_fx7 h n b0 b1 b2 b3 b4 b5 b6 e) a0 a1 a2 a3 a4 a5 a6 e
theorem KC_fx8 {A1 A2 A3 A4 A5 A6 A7 ρ : Type} {q0 : SS} {st : ρ → SS} {F : (SS → A1 → A2 → A3 → A4 → A5 → A6 → A7 → Option ρ) → SS → A1 → A2 → A3 → A4 → A5 → A6 → A7 → Option ρ} (h : ∀ rec, (∀ b0 b1 b2 b3 b4 b5 b6 b7, Fr wQ vQ q0 b0 → KC q0 (rec b0 b1 b2 b3 b4 b5 b6 b7) st) → ∀ a0 a1 a2 a3 a4 a5 a6 a7, Fr wQ vQ q0 a0 → KC q0 (F rec a0 a1 a2 a3 a4 a5 a6 a7) st) : ∀ n a0 a1 a2 a3 a4 a5 a6 a7, Fr wQ vQ q0 a0 → KC q0 (fx8 F n a0 a1 a2 a3 a4 a5 a6 a7) st
  | 0, _, _, _, _, _, _, _, _, _ => KC_none
  | n + 1, a0, a1, a2, a3, a4, a5, a6, a7, e => h _ (fun b0 b1 b2 b3 b4 b5 b6 b7 e => KC_fx8 h n b0 b1 b2 b3 b4 b5 b6 b7 e) a0 a1 a2 a3 a4 a5 a6 a7 e
theorem KC_fx9 {A1 A2 A3 A4 A5 A6 A7 A8 ρ : Type} {q0 : SS} {st : ρ → SS} {F : (SS → A1 → A2 → A3 → A4 → A5 → A6 → A7 → A8 → Option ρ) → SS → A1 → A2 → A3 → A4 → A5 → A6 → A7 → A8 → Option ρ} (h : ∀ rec, (∀ b0 b1 b2 b3 b4 b5 b6 b7 b8, Fr wQ vQ q0 b0 → KC q0 (rec b0 b1 b2 b3 b4 b5 b6 b7 b8) st) → ∀ a0 a1 a2 a3 a4 a5 a6 a7 a8, Fr wQ vQ q0 a0 → KC q0 (F rec a0 a1 a2 a3 a4 a5 a6 a7 a8) st) : ∀ n a0 a1 a2 a3 a4 a5 a6 a7 a8, Fr wQ vQ q0 a0 → KC q0 (fx9 F n a0 a1 a2 a3 a4 a5 a6 a7 a8) st
  | 0, _, _, _, _, _, _, _, _, _, _ => KC_none
  | n + 1, a0, a1, a2, a3, a4, a5, a6, a7, a8, e => h _ (fun b0 b1 b2 b3 b4 b5 b6 b7 b8 e => KC_fx9 h n b0 b1 b2 b3 b4 b5 b6 b7 b8 e) a0 a1 a2 a3 a4 a5 a6 a7 a8 e
theorem KC_fx10 {A1 A2 A3 A4 A5 A6 A7 A8 A9 ρ : Type} {q0 : SS} {st : ρ → SS} {F : (SS → A1 → A2 → A3 → A4 → A5 → A6 → A7 → A8 → A9 → Option ρ) → SS → A1 → A2 → A3 → A4 → A5 → A6 → A7 → A8 → A9 → Option ρ} (h : ∀ rec, (∀ b0 b1 b2 b3 b4 b5 b6 b7 b8 b9, Fr wQ vQ q0 b0 → KC q0 (rec b0 b1 b2 b3 b4 b5 b6 b7 b8 b9) st) → ∀ a0 a1 a2 a3 a4 a5 a6 a7 a8 a9, Fr wQ vQ q0 a0 → KC q0 (F rec a0 a1 a2 a3 a4 a5 a6 a7 a8 a9) st) : ∀ n a0 a1 a2 a3 a4 a5 a6 a7 a8 a9, Fr wQ vQ q0 a0 → KC q0 (fx10 F n a0 a1 a2 a3 a4 a5 a6 a7 a8 a9) st
  | 0, _, _, _, _, _, _, _, _, _, _, _ => KC_none
  | n + 1, a0, a1, a2, a3, a4, a5, a6, a7, a8, a9, e => h _ (fun b0 b1 b2 b3 b4 b5 b6 b7 b8 b9 e => KC_fx10 h n b0 b1 b2 b3 b4 b5 b6 b7 b8 b9 e) a0 a1 a2 a3 a4 a5 a6 a7 a8 a9 e
theorem KC_fx11 {A1 A2 A3 A4 A5 A6 A7 A8 A9 A10 ρ : Type} {q0 : SS} {st : ρ → SS} {F : (SS → A1 → A2 → A3 → A4 → A5 → A6 → A7 → A8 → A9 → A10 → Option ρ) → SS → A1 → A2 → A3 → A4 → A5 → A6 → A7 → A8 → A9 → A10 → Option ρ} (h : ∀ rec, (∀ b0 b1 b2 b3 b4 b5 b6 b7 b8 b9 b10, Fr wQ vQ q0 b0 → KC q0 (rec b0 b1 b2 b3 b4 b5 b6 b7 b8 b9 b10) st) → ∀ a0 a1 a2 a3 a4 a5 a6 a7 a8 a9 a10, Fr wQ vQ q0 a0 → KC q0 (F rec a0 a1 a2 a3 a4 a5 a6 a7 a8 a9 a10) st) : ∀ n a0 a1 a2 a3 a4 a5 a6 a7 a8 a9 a10, Fr wQ vQ q0 a0 → KC q0 (fx11 F n a0 a1 a2 a3 a4 a5 a6 a7 a8 a9 a10) st
  | 0, _, _, _, _, _, _, _, _, _, _, _, _ => KC_none
  | n + 1, a0, a1, a2, a3, a4, a5, a6, a7, a8, a9, a10, e => h _ (fun b0 b1 b2 b3 b4 b5 b6 b7 b8 b9 b10 e => KC_fx11 h n b0 b1 b2 b3 b4 b5 b6 b7 b8 b9 b10 e) a0 a1 a2 a3 a4 a5 a6 a7 a8 a9 a10 e
theorem KC_fx12 {A1 A2 A3 A4 A5 A6 A7 A8 A9 A10 A11 ρ : Type} {q0 : SS} {st : ρ → SS} {F : (SS → A1 → A2 → A3 → A4 → A5 → A6 → A7 → A8 → A9 → A10 → A11 → Option ρ) → SS → A1 → A2 → A3 → A4 → A5 → A6 → A7 → A8 → A9 → A10 → A11 → Option ρ} (h : ∀ rec, (∀ b0 b1 b2 b3 b4 b5 b6 b7 b8 b9 b10 b11, Fr wQ vQ q0 b0 → KC q0 (rec b0 b1 b2 b3 b4 b5 b6 b7 b8 b9 b10 b11) st) → ∀ a0 a1 a2 a3 a4 a5 a6 a7 a8 a9 a10 a11, Fr wQ vQ q0 a0 → KC q0 (F rec a0 a1 a2 a3 a4 a5 a6 a7 a8 a9 a10 a11) st) : ∀ n a0 a1 a2 a3 a4 a5 a6 a7 a8 a9 a10 a11, Fr wQ vQ q0 a0 → KC q0 (fx12 F n a0 a1 a2 a3 a4 a5 a6 a7 a8 a9 a10 a11) st
  | 0, _, _, _, _, _, _, _, _, _, _, _, _, _ => KC_none
  | n + 1, a0, a1, a2, a3, a4, a5, a6, a7, a8, a9, a10, a11, e => h _ (fun b0 b1 b2 b3 b4 b5 b6 b7 b8 b9 b10 b11 e => KC_fx12 h n b0 b1 b2 b3 b4 b5 b6 b7 b8 b9 b10 b11 e) a0 a1 a2 a3 a4 a5 a6 a7 a8 a9 a10 a11 e
def MC (q y : SS) : Prop := (∀ k, 60 ≤ k → y.1 k = q.1 k) ∧ ∀ k, 60 ≤ k → y.2 k = q.2 k
theorem bl60 {k : Nat} (h : 60 ≤ k) : Nat.blt k 60 = false := by
  cases g : Nat.blt k 60 with
  | false => rfl
  | true => exact absurd (Nat.le_of_ble_eq_true g) (by omega)
theorem MC_of {q y : SS} (f : Fr wQ vQ q y) : MC q y := ⟨fun k hk => Fr_r f (fun _ => bl60 hk), fun k hk => f.2 k (bl60 hk)⟩
theorem kc_b_X8_begin_2 (q0 : SS)  (x0 : SS) (x1 : Int32) (h : Fr wQ vQ q0 x0) : KC q0 (b_X8_begin_2 x0 x1) (fun r => r) := by
  unfold b_X8_begin_2
  refine KC_fx2 (fun rec_2 h_rec_2 q l1 h => ?_) FU x0 x1 h
  exact (KC_i (KC_some h) (KC_bp (fun r1 => (KC_ic (fun c0 => (KC_ns (Fr_sI h rfl) (fun q2 h_q2 => (h_rec_2 q2 (l1 + (1 : Int32)) h_q2)))) KC_none))))
theorem kc_f_X8_begin (q0 : SS) (q : SS) (h : Fr wQ vQ q0 q) : KC q0 (f_X8_begin q) (fun r => r) := by
  unfold f_X8_begin
  exact (kc_b_X8_begin_2 q0 q (0 : Int32) h)
theorem kc_f_X11_now (q0 : SS) (q : SS) (h : Fr wQ vQ q0 q) : KC q0 (f_X11_now q) (fun r => r) := by
  unfold f_X11_now
  exact (KC_b (kc_f_X8_begin q0 q h) (fun r1 h_r1 => (KC_some h_r1)))
theorem kc_f_X4_pop (q0 : SS) (q : SS) (h : Fr wQ vQ q0 q) : KC q0 (f_X4_pop q) (fun r => r.2) := by
  unfold f_X4_pop
  exact (KC_i (KC_some h) (KC_i (KC_ns (Fr_sI h rfl) (fun q1 h_q1 => (KC_i (KC_some h_q1) KC_none))) (KC_some h)))
theorem kc_f_X4_push (q0 : SS) (q : SS) (a1 : Int32) (h : Fr wQ vQ q0 q) : KC q0 (f_X4_push q a1) (fun r => r) := by
  unfold f_X4_push
  exact (KC_i (KC_some h) (KC_i (KC_some h) (KC_i (KC_ns (Fr_sI h rfl) (fun q1 h_q1 => (KC_ns (Fr_sI h_q1 rfl) (fun q2 h_q2 => (KC_some h_q2))))) KC_none)))
theorem kc_b_X4_doStep_44 (q0 : SS) (q : SS) (s0 : Int32) (h : Fr wQ vQ q0 q) : KC q0 (b_X4_doStep_44 q s0) (fun r => r) := by
  unfold b_X4_doStep_44
  exact (KC_b (kc_f_X4_push q0 q s0 h) (fun r2 h_r2 => (KC_some h_r2)))
theorem kc_b_X4_doStep_43 (q0 : SS) (q : SS) (h : Fr wQ vQ q0 q) : KC q0 (b_X4_doStep_43 q) (fun r => r) := by
  unfold b_X4_doStep_43
  exact (kc_b_X4_doStep_44 q0 q (0 : Int32) h)
theorem kc_b_X4_doStep_87 (q0 : SS) (q : SS) (s0 : Int32) (h : Fr wQ vQ q0 q) : KC q0 (b_X4_doStep_87 q s0) (fun r => r) := by
  unfold b_X4_doStep_87
  exact (KC_b (kc_f_X4_push q0 q s0 h) (fun r8 h_r8 => (KC_some h_r8)))
theorem kc_f_X4_doStep (q0 : SS) (q : SS) (a1 : Int32) (a2 : Int32) (h : Fr wQ vQ q0 q) : KC q0 (f_X4_doStep q a1 a2) (fun r => r) := by
  unfold f_X4_doStep
  exact (KC_i (KC_b (kc_f_X4_push q0 q a2 h) (fun r1 h_r1 => (KC_some h_r1))) (KC_i (KC_i (kc_b_X4_doStep_43 q0 q h) (KC_i (kc_b_X4_doStep_43 q0 q h) (KC_ic (fun c0 => (kc_b_X4_doStep_44 q0 q (q.1 16 a2.toNatClampNeg) h)) KC_none))) (KC_i (KC_b (kc_f_X4_pop q0 q h) (fun r5 h_r5 => (KC_b (kc_f_X4_push q0 r5.2 (-r5.1) h_r5) (fun r6 h_r6 => (KC_some h_r6))))) (KC_i (KC_b (kc_f_X4_pop q0 q h) (fun r7 h_r7 => (KC_i (kc_b_X4_doStep_87 q0 r7.2 (1 : Int32) h_r7) (kc_b_X4_doStep_87 q0 r7.2 (0 : Int32) h_r7)))) (KC_b (kc_f_X4_pop q0 q h) (fun r10 h_r10 => (KC_b (kc_f_X4_pop q0 r10.2 h_r10) (fun r11 h_r11 => (KC_bp (fun r12 => (KC_b (kc_f_X4_push q0 r11.2 r12 h_r11) (fun r13 h_r13 => (KC_some h_r13)))))))))))))
theorem kc_b_X4_workOut_145 (q0 : SS) (rec_56 : SS → Int32 → Int32 → Option (Int32 × SS)) (h_rec_56 : ∀ (a0 : SS) (a1 : Int32) (a2 : Int32), Fr wQ vQ q0 a0 → KC q0 (rec_56 a0 a1 a2) (fun r => r.2)) (q : SS) (l7 : Int32) (l8 : Int32) (h : Fr wQ vQ q0 q) : KC q0 (b_X4_workOut_145 rec_56 q l7 l8) (fun r => r.2) := by
  unfold b_X4_workOut_145
  exact (h_rec_56 q l7 (l8 + (1 : Int32)) h)
theorem kc_b_X4_workOut_100 (q0 : SS) (rec_56 : SS → Int32 → Int32 → Option (Int32 × SS)) (h_rec_56 : ∀ (a0 : SS) (a1 : Int32) (a2 : Int32), Fr wQ vQ q0 a0 → KC q0 (rec_56 a0 a1 a2) (fun r => r.2)) (q : SS) (l8 : Int32) (s0 : Int32) (h : Fr wQ vQ q0 q) : KC q0 (b_X4_workOut_100 rec_56 q l8 s0) (fun r => r.2) := by
  unfold b_X4_workOut_100
  exact (kc_b_X4_workOut_145 q0 rec_56 h_rec_56 q s0 l8 h)
theorem kc_b_X4_workOut_56 (q0 : SS)  (x0 : SS) (x1 : Int32) (x2 : Int32) (h : Fr wQ vQ q0 x0) : KC q0 (b_X4_workOut_56 x0 x1 x2) (fun r => r.2) := by
  unfold b_X4_workOut_56
  refine KC_fx3 (fun rec_56 h_rec_56 q l7 l8 h => ?_) FU x0 x1 x2 h
  exact (KC_i (KC_some h) (KC_i (KC_some h) (KC_ic (fun c0 => (KC_nv (fun v8 => (KC_i (KC_b (kc_f_X4_pop q0 q h) (fun r9 h_r9 => (KC_i (kc_b_X4_workOut_100 q0 rec_56 h_rec_56 r9.2 l8 (0 : Int32) h_r9) (kc_b_X4_workOut_100 q0 rec_56 h_rec_56 r9.2 l8 (1 : Int32) h_r9)))) (KC_i (KC_b (kc_f_X4_pop q0 q h) (fun r11 h_r11 => (KC_i (kc_b_X4_workOut_145 q0 rec_56 h_rec_56 r11.2 (1 : Int32) l8 h_r11) (KC_some h_r11)))) (KC_ic (fun c1 => (KC_b (kc_f_X4_doStep q0 q v8 (q.1 14 l8.toNatClampNeg) h) (fun r13 h_r13 => (kc_b_X4_workOut_145 q0 rec_56 h_rec_56 r13 l7 l8 h_r13)))) KC_none)))))) KC_none)))
theorem kc_f_X4_workOut (q0 : SS) (q : SS) (a1 : Int32) (a2 : Int32) (a3 : Int32) (a4 : Int32) (a5 : Int32) (a6 : Int32) (h : Fr wQ vQ q0 q) : KC q0 (f_X4_workOut q a1 a2 a3 a4 a5 a6) (fun r => r.2) := by
  unfold f_X4_workOut
  exact (KC_i (KC_ns (Fr_sI h rfl) (fun q1 h_q1 => (KC_i (KC_ns (Fr_sI h_q1 rfl) (fun q2 h_q2 => (KC_i (KC_ns (Fr_sI h_q2 rfl) (fun q3 h_q3 => (KC_i (KC_ns (Fr_sI h_q3 rfl) (fun q4 h_q4 => (KC_i (KC_ns (Fr_sI h_q4 rfl) (fun q5 h_q5 => (KC_i (KC_ns (Fr_sI h_q5 rfl) (fun q6 h_q6 => (KC_ns (Fr_sI h_q6 rfl) (fun q7 h_q7 => (kc_b_X4_workOut_56 q0 q7 (1 : Int32) (0 : Int32) h_q7))))) KC_none))) KC_none))) KC_none))) KC_none))) KC_none))) KC_none)
theorem kc_b_X8_oddsBy_87 (q0 : SS) (q : SS) (l8 : Int32) (h : Fr wQ vQ q0 q) : KC q0 (b_X8_oddsBy_87 q l8) (fun r => r.2) := by
  unfold b_X8_oddsBy_87
  exact (KC_some h)
theorem kc_f_X8_oddsBy (q0 : SS) (q : SS) (a1 : Int32) (a2 : Int32) (a3 : Int32) (a4 : Int32) (a5 : Int32) (h : Fr wQ vQ q0 q) : KC q0 (f_X8_oddsBy q a1 a2 a3 a4 a5) (fun r => r.2) := by
  unfold f_X8_oddsBy
  exact (KC_bp (fun r1 => (KC_i (KC_some h) (KC_i (KC_bp (fun r2 => (KC_bp (fun r3 => (KC_nv (fun v4 => (KC_bp (fun r5 => (KC_i (kc_b_X8_oddsBy_87 q0 q v4 h) (KC_bp (fun r6 => (KC_b (kc_f_X4_workOut q0 q r2 r6 a3 a4 a5 r3 h) (fun r7 h_r7 => (kc_b_X8_oddsBy_87 q0 r7.2 r7.1 h_r7)))))))))))))) (KC_some h)))))
theorem kc_f_X8_oddsOf (q0 : SS) (q : SS) (a1 : Int32) (a2 : Int32) (h : Fr wQ vQ q0 q) : KC q0 (f_X8_oddsOf q a1 a2) (fun r => r.2) := by
  unfold f_X8_oddsOf
  exact (KC_bp (fun r1 => (KC_i (KC_some h) (KC_bp (fun r2 => (KC_bp (fun r3 => (KC_bp (fun r4 => (KC_bp (fun r5 => (KC_b (kc_f_X8_oddsBy q0 q r2 a2 r3 r4 r5 h) (fun r6 h_r6 => (KC_some h_r6))))))))))))))
theorem kc_f_X8_give (q0 : SS) (q : SS) (a1 : Int32) (a2 : Int32) (h : Fr wQ vQ q0 q) : KC q0 (f_X8_give q a1 a2) (fun r => r) := by
  unfold f_X8_give
  exact (KC_bp (fun r1 => (KC_i (KC_some h) (KC_ic (fun c0 => (KC_ns (Fr_sI h rfl) (fun q2 h_q2 => (KC_some h_q2)))) KC_none))))
theorem kc_b_X8_slipDrawn_65 (q0 : SS) (q : SS) (l4 : Int32) (l5 : Int32) (s0 : Int32) (h : Fr wQ vQ q0 q) : KC q0 (b_X8_slipDrawn_65 q l4 l5 s0) (fun r => r.2) := by
  unfold b_X8_slipDrawn_65
  exact (KC_i (KC_i (KC_some h) KC_none) (KC_b (kc_f_X8_give q0 q l4 l5 h) (fun r6 h_r6 => (KC_i (KC_some h_r6) KC_none))))
theorem kc_f_X8_slipDrawn (q0 : SS) (q : SS) (a1 : Int32) (h : Fr wQ vQ q0 q) : KC q0 (f_X8_slipDrawn q a1) (fun r => r.2) := by
  unfold f_X8_slipDrawn
  exact (KC_bp (fun r1 => (KC_bp (fun r2 => (KC_i (KC_some h) (KC_i (KC_i KC_none (KC_nv (fun v3 => (KC_i KC_none (KC_nv (fun v4 => (KC_b (kc_f_X8_oddsOf q0 q v3 v4 h) (fun r5 h_r5 => (KC_i (kc_b_X8_slipDrawn_65 q0 r5.2 v3 v4 (0 : Int32) h_r5) (kc_b_X8_slipDrawn_65 q0 r5.2 v3 v4 (1 : Int32) h_r5)))))))))) (KC_some h)))))))
theorem kc_b_X11_drawn_156 (q0 : SS) (rec_70 : SS → Int32 → Int32 → Int32 → Int32 → Int32 → Int32 → Int32 → Option (Int32 × SS)) (h_rec_70 : ∀ (a0 : SS) (a1 : Int32) (a2 : Int32) (a3 : Int32) (a4 : Int32) (a5 : Int32) (a6 : Int32) (a7 : Int32), Fr wQ vQ q0 a0 → KC q0 (rec_70 a0 a1 a2 a3 a4 a5 a6 a7) (fun r => r.2)) (q : SS) (l3 : Int32) (l4 : Int32) (l5 : Int32) (l6 : Int32) (l7 : Int32) (l9 : Int32) (s0 : Int32) (s1 : Int32) (h : Fr wQ vQ q0 q) : KC q0 (b_X11_drawn_156 rec_70 q l3 l4 l5 l6 l7 l9 s0 s1) (fun r => r.2) := by
  unfold b_X11_drawn_156
  exact (KC_nv (fun v7 => (h_rec_70 q l3 l4 l5 l6 l7 v7 (l9 + (1 : Int32)) h)))
theorem kc_b_X11_drawn_120 (q0 : SS) (rec_70 : SS → Int32 → Int32 → Int32 → Int32 → Int32 → Int32 → Int32 → Option (Int32 × SS)) (h_rec_70 : ∀ (a0 : SS) (a1 : Int32) (a2 : Int32) (a3 : Int32) (a4 : Int32) (a5 : Int32) (a6 : Int32) (a7 : Int32), Fr wQ vQ q0 a0 → KC q0 (rec_70 a0 a1 a2 a3 a4 a5 a6 a7) (fun r => r.2)) (rec_87 : SS → Int32 → Int32 → Int32 → Int32 → Int32 → Int32 → Int32 → Int32 → Option (Int32 × SS)) (h_rec_87 : ∀ (a0 : SS) (a1 : Int32) (a2 : Int32) (a3 : Int32) (a4 : Int32) (a5 : Int32) (a6 : Int32) (a7 : Int32) (a8 : Int32), Fr wQ vQ q0 a0 → KC q0 (rec_87 a0 a1 a2 a3 a4 a5 a6 a7 a8) (fun r => r.2)) (q : SS) (l3 : Int32) (l4 : Int32) (l5 : Int32) (l6 : Int32) (l8 : Int32) (l9 : Int32) (l10 : Int32) (s0 : Int32) (s1 : Int32) (h : Fr wQ vQ q0 q) : KC q0 (b_X11_drawn_120 rec_70 rec_87 q l3 l4 l5 l6 l8 l9 l10 s0 s1) (fun r => r.2) := by
  unfold b_X11_drawn_120
  exact (KC_nv (fun v11 => (h_rec_87 q l3 l4 l5 l6 v11 l8 l9 (l10 + (1 : Int32)) h)))
theorem kc_b_X11_drawn_87 (q0 : SS) (rec_70 : SS → Int32 → Int32 → Int32 → Int32 → Int32 → Int32 → Int32 → Option (Int32 × SS)) (h_rec_70 : ∀ (a0 : SS) (a1 : Int32) (a2 : Int32) (a3 : Int32) (a4 : Int32) (a5 : Int32) (a6 : Int32) (a7 : Int32), Fr wQ vQ q0 a0 → KC q0 (rec_70 a0 a1 a2 a3 a4 a5 a6 a7) (fun r => r.2)) (x0 : SS) (x1 : Int32) (x2 : Int32) (x3 : Int32) (x4 : Int32) (x5 : Int32) (x6 : Int32) (x7 : Int32) (x8 : Int32) (h : Fr wQ vQ q0 x0) : KC q0 (b_X11_drawn_87 rec_70 x0 x1 x2 x3 x4 x5 x6 x7 x8) (fun r => r.2) := by
  unfold b_X11_drawn_87
  refine KC_fx9 (fun rec_87 h_rec_87 q l3 l4 l5 l6 l7 l8 l9 l10 h => ?_) FU x0 x1 x2 x3 x4 x5 x6 x7 x8 h
  exact (KC_i (KC_bp (fun r5 => (KC_bp (fun r6 => (KC_i (kc_b_X11_drawn_156 q0 rec_70 h_rec_70 q l3 l4 l5 r5 l7 l9 (1 : Int32) l8 h) (kc_b_X11_drawn_156 q0 rec_70 h_rec_70 q l3 l4 l5 r5 l7 l9 (0 : Int32) l8 h)))))) (KC_bp (fun r9 => (KC_b (kc_f_X8_slipDrawn q0 q r9 h) (fun r10 h_r10 => (KC_i (kc_b_X11_drawn_120 q0 rec_70 h_rec_70 rec_87 h_rec_87 r10.2 l3 l4 l5 r9 l8 l9 l10 (0 : Int32) l7 h_r10) (kc_b_X11_drawn_120 q0 rec_70 h_rec_70 rec_87 h_rec_87 r10.2 l3 l4 l5 r9 l8 l9 l10 (1 : Int32) l7 h_r10)))))))
theorem kc_b_X11_drawn_70 (q0 : SS)  (x0 : SS) (x1 : Int32) (x2 : Int32) (x3 : Int32) (x4 : Int32) (x5 : Int32) (x6 : Int32) (x7 : Int32) (h : Fr wQ vQ q0 x0) : KC q0 (b_X11_drawn_70 x0 x1 x2 x3 x4 x5 x6 x7) (fun r => r.2) := by
  unfold b_X11_drawn_70
  refine KC_fx8 (fun rec_70 h_rec_70 q l3 l4 l5 l6 l7 l8 l9 h => ?_) FU x0 x1 x2 x3 x4 x5 x6 x7 h
  exact (KC_i (KC_i (KC_some h) (KC_some h)) (KC_b (kc_f_X8_begin q0 q h) (fun r4 h_r4 => (kc_b_X11_drawn_87 q0 rec_70 h_rec_70 r4 l3 l4 l5 l6 l7 l8 l9 (0 : Int32) h_r4))))
theorem kc_b_X11_drawn_58 (q0 : SS) (q : SS) (l1 : Int32) (l3 : Int32) (l4 : Int32) (l5 : Int32) (h : Fr wQ vQ q0 q) : KC q0 (b_X11_drawn_58 q l1 l3 l4 l5) (fun r => r.2) := by
  unfold b_X11_drawn_58
  exact (kc_b_X11_drawn_70 q0 q l3 l4 l5 l1 (0 : Int32) (0 : Int32) (0 : Int32) h)
theorem kc_f_X11_drawn (q0 : SS) (q : SS) (a1 : Int32) (a2 : Int32) (a3 : Int32) (h : Fr wQ vQ q0 q) : KC q0 (f_X11_drawn q a1 a2 a3) (fun r => r.2) := by
  unfold f_X11_drawn
  exact (KC_nv (fun v1 => (KC_nv (fun v2 => (KC_i (KC_some h) (KC_i (KC_some h) (KC_i (KC_some h) (KC_i (KC_i (kc_b_X11_drawn_58 q0 q a1 a3 v1 v2 h) (KC_bp (fun r15 => (KC_i (KC_some h) (kc_b_X11_drawn_58 q0 q a1 a3 v1 v2 h))))) (KC_some h)))))))))
theorem kc_b_X2_begin_26 (q0 : SS)  (x0 : SS) (x1 : Int32) (x2 : Int32) (x3 : Int32) (h : Fr wQ vQ q0 x0) : KC q0 (b_X2_begin_26 x0 x1 x2 x3) (fun r => r) := by
  unfold b_X2_begin_26
  refine KC_fx4 (fun rec_26 h_rec_26 q l2 l3 l4 h => ?_) FU x0 x1 x2 x3 h
  exact (KC_i (KC_some h) (KC_bp (fun r5 => (KC_nv (fun v6 => (KC_bp (fun r7 => (KC_i (KC_some h) (KC_ic (fun c0 => (KC_ns (Fr_sI h rfl) (fun q8 h_q8 => (KC_ns (Fr_sI h_q8 rfl) (fun q9 h_q9 => (h_rec_26 q9 l2 l3 (l4 + (1 : Int32)) h_q9)))))) KC_none)))))))))
theorem kc_f_X2_begin (q0 : SS) (q : SS) (a2 : Int32) (h : Fr wQ vQ q0 q) : KC q0 (f_X2_begin q a2) (fun r => r) := by
  unfold f_X2_begin
  exact (KC_b (kc_f_X8_begin q0 q h) (fun r1 h_r1 => (KC_bp (fun r2 => (KC_nv (fun v3 => (KC_ns (Fr_sI h_r1 rfl) (fun q4 h_q4 => (kc_b_X2_begin_26 q0 q4 a2 v3 (0 : Int32) h_q4)))))))))
theorem kc_b_X9_arrive_100 (q0 : SS) (q : SS) (l1 : Int32) (h : Fr wQ vQ q0 q) : KC q0 (b_X9_arrive_100 q l1) (fun r => r) := by
  unfold b_X9_arrive_100
  exact (KC_ns (Fr_sI h rfl) (fun q7 h_q7 => (KC_ns (Fr_sI h_q7 rfl) (fun q8 h_q8 => (KC_some h_q8)))))
theorem kc_b_X9_arrive_90 (q0 : SS) (q : SS) (l1 : Int32) (l2 : Int64) (h : Fr wQ vQ q0 q) : KC q0 (b_X9_arrive_90 q l1 l2) (fun r => r) := by
  unfold b_X9_arrive_90
  exact (KC_ns (Fr_sL h rfl) (fun q5 h_q5 => (KC_ns (Fr_sI h_q5 rfl) (fun q6 h_q6 => (kc_b_X9_arrive_100 q0 q6 l1 h_q6)))))
theorem kc_b_X9_arrive_58 (q0 : SS) (q : SS) (l1 : Int32) (l2 : Int64) (h : Fr wQ vQ q0 q) : KC q0 (b_X9_arrive_58 q l1 l2) (fun r => r) := by
  unfold b_X9_arrive_58
  exact (KC_i (kc_b_X9_arrive_90 q0 q l1 l2 h) (KC_i (kc_b_X9_arrive_100 q0 q l1 h) (KC_i (KC_i (kc_b_X9_arrive_100 q0 q l1 h) (kc_b_X9_arrive_90 q0 q l1 l2 h)) (kc_b_X9_arrive_100 q0 q l1 h))))
theorem kc_b_X9_arrive_47 (q0 : SS) (q : SS) (l1 : Int32) (l2 : Int64) (l4 : Int32) (h : Fr wQ vQ q0 q) : KC q0 (b_X9_arrive_47 q l1 l2 l4) (fun r => r) := by
  unfold b_X9_arrive_47
  exact (KC_ns (Fr_sI h rfl) (fun q3 h_q3 => (KC_ns (Fr_sI h_q3 rfl) (fun q4 h_q4 => (kc_b_X9_arrive_58 q0 q4 l1 l2 h_q4)))))
theorem kc_f_X9_arrive (q0 : SS) (q : SS) (a1 : Int32) (a2 : Int64) (h : Fr wQ vQ q0 q) : KC q0 (f_X9_arrive q a1 a2) (fun r => r) := by
  unfold f_X9_arrive
  exact (KC_bp (fun r1 => (KC_i (KC_some h) (KC_bp (fun r2 => (KC_i (kc_b_X9_arrive_47 q0 q a1 a2 r2 h) (KC_i (kc_b_X9_arrive_47 q0 q a1 a2 r2 h) (KC_i (KC_i (kc_b_X9_arrive_58 q0 q a1 a2 h) (kc_b_X9_arrive_47 q0 q a1 a2 r2 h)) (kc_b_X9_arrive_58 q0 q a1 a2 h)))))))))
theorem kc_b_X9_oddsAt_99 (q0 : SS) (q : SS) (l6 : Int32) (h : Fr wQ vQ q0 q) : KC q0 (b_X9_oddsAt_99 q l6) (fun r => r.2) := by
  unfold b_X9_oddsAt_99
  exact (KC_ic (fun c0 => (KC_some h)) KC_none)
theorem kc_f_X9_oddsAt (q0 : SS) (q : SS) (a1 : Int32) (a2 : Int32) (a3 : Int32) (h : Fr wQ vQ q0 q) : KC q0 (f_X9_oddsAt q a1 a2 a3) (fun r => r.2) := by
  unfold f_X9_oddsAt
  exact (KC_bp (fun r1 => (KC_bp (fun r2 => (KC_nv (fun v3 => (KC_i (KC_some h) (KC_i (KC_ic (fun c0 => (KC_i (KC_bp (fun r4 => (KC_bp (fun r5 => (KC_b (kc_f_X8_oddsBy q0 q r1 a3 r2 r4 r5 h) (fun r6 h_r6 => (KC_ic (fun c1 => (KC_ns (Fr_sI h_r6 rfl) (fun q7 h_q7 => (kc_b_X9_oddsAt_99 q0 q7 v3 h_q7)))) KC_none))))))) (kc_b_X9_oddsAt_99 q0 q v3 h))) KC_none) (KC_some h)))))))))
def KGc_X9_spread (q0 : SS) (r : GT_X9_spread) : Prop := (∀ (a0 : SS) (a1 : Int32) (a2 : Int32) (a3 : Int64), Fr wQ vQ q0 a0 → KC q0 (r a0 a1 a2 a3) (fun r => r))
theorem kc_b_X9_spread_90 (q0 : SS) (r : GT_X9_spread) (hr : KGc_X9_spread q0 r) (q : SS) (l1 : Int32) (l2 : Int32) (l3 : Int64) (l6 : Int32) (l7 : Int32) (s0 : Int32) (h : Fr wQ vQ q0 q) : KC q0 (b_X9_spread_90 r q l1 l2 l3 l6 l7 s0) (fun r => r) := by
  unfold b_X9_spread_90
  exact (KC_bp (fun r6 => (KC_b (hr q (l1 + (1 : Int32)) l2 ((((12 : Int32) - s0).toInt64) * l3) h) (fun r7 h_r7 => (KC_b (kc_f_X8_give q0 r7 l6 l7 h_r7) (fun r8 h_r8 => (KC_b (hr r8 (l1 + (1 : Int32)) (l2 ||| (jshl (1 : Int32) l1)) ((s0.toInt64) * l3) h_r8) (fun r9 h_r9 => (KC_b (kc_f_X8_give q0 r9 l6 r6 h_r9) (fun r10 h_r10 => (KC_some h_r10)))))))))))
theorem kc_fb_X9_spread (q0 : SS) (r : GT_X9_spread) (hr : KGc_X9_spread q0 r) (q : SS) (a1 : Int32) (a2 : Int32) (a3 : Int64) (h : Fr wQ vQ q0 q) : KC q0 (fb_X9_spread r q a1 a2 a3) (fun r => r) := by
  unfold fb_X9_spread
  exact (KC_bp (fun r1 => (KC_i (KC_bp (fun r2 => (KC_bp (fun r3 => (KC_bp (fun r4 => (KC_i (KC_b (hr q (a1 + (1 : Int32)) a2 ((12 : Int64) * a3) h) (fun r5 h_r5 => (KC_some h_r5))) (KC_i (kc_b_X9_spread_90 q0 r hr q a1 a2 a3 r2 r3 (0 : Int32) h) (KC_b (kc_f_X9_oddsAt q0 q a1 r2 r3 h) (fun r11 h_r11 => (kc_b_X9_spread_90 q0 r hr r11.2 a1 a2 a3 r2 r3 r11.1 h_r11))))))))))) (KC_b (kc_f_X9_arrive q0 q a2 a3 h) (fun r14 h_r14 => (KC_some h_r14))))))
theorem kgc_X9_spread (q0 : SS) : ∀ n, KGc_X9_spread q0 (g_X9_spread n)
  | 0 => (fun _ _ _ _ _ => KC_none)
  | n + 1 => (fun a0 a1 a2 a3 h => kc_fb_X9_spread q0 (g_X9_spread n) (kgc_X9_spread q0 n) a0 a1 a2 a3 h)
theorem kc_f_X9_spread (q0 : SS) (x0 : SS) (x1 : Int32) (x2 : Int32) (x3 : Int64) (h : Fr wQ vQ q0 x0) : KC q0 (f_X9_spread x0 x1 x2 x3) (fun r => r) := kgc_X9_spread q0 60 x0 x1 x2 x3 h
theorem kc_b_X9_goThrough_76 (q0 : SS) (q : SS) (l3 : Int32) (h : Fr wQ vQ q0 q) : KC q0 (b_X9_goThrough_76 q l3) (fun r => r) := by
  unfold b_X9_goThrough_76
  exact (KC_i (KC_ns (Fr_sI h rfl) (fun q1 h_q1 => (KC_ns (Fr_sI h_q1 rfl) (fun q2 h_q2 => (KC_ns (Fr_sI h_q2 rfl) (fun q3 h_q3 => (KC_ns (Fr_sI h_q3 rfl) (fun q4 h_q4 => (KC_ns (Fr_sI h_q4 rfl) (fun q5 h_q5 => (KC_ns (Fr_sL h_q5 rfl) (fun q6 h_q6 => (KC_ns (Fr_sI h_q6 rfl) (fun q7 h_q7 => (KC_b (kc_f_X9_spread q0 q7 (0 : Int32) (0 : Int32) (1 : Int64) h_q7) (fun r8 h_r8 => (KC_some h_r8))))))))))))))))) KC_none)
theorem kc_b_X9_goThrough_48 (q0 : SS)  (x0 : SS) (x1 : Int32) (x2 : Int32) (h : Fr wQ vQ q0 x0) : KC q0 (b_X9_goThrough_48 x0 x1 x2) (fun r => r) := by
  unfold b_X9_goThrough_48
  refine KC_fx3 (fun rec_48 h_rec_48 q l3 l4 h => ?_) FU x0 x1 x2 h
  exact (KC_i (kc_b_X9_goThrough_76 q0 q l3 h) (KC_i (kc_b_X9_goThrough_76 q0 q l3 h) (KC_ic (fun c0 => (KC_ns (Fr_sI h rfl) (fun q9 h_q9 => (h_rec_48 q9 l3 (l4 + (1 : Int32)) h_q9)))) KC_none)))
theorem kc_b_X9_goThrough_38 (q0 : SS) (rec_3 : SS → Int32 → Int32 → Int32 → Option SS) (h_rec_3 : ∀ (a0 : SS) (a1 : Int32) (a2 : Int32) (a3 : Int32), Fr wQ vQ q0 a0 → KC q0 (rec_3 a0 a1 a2 a3) (fun r => r)) (q : SS) (l2 : Int32) (l3 : Int32) (l4 : Int32) (s0 : Int32) (s1 : Int32) (h : Fr wQ vQ q0 q) : KC q0 (b_X9_goThrough_38 rec_3 q l2 l3 l4 s0 s1) (fun r => r) := by
  unfold b_X9_goThrough_38
  exact (KC_ic (fun c0 => (KC_ns (Fr_sI h rfl) (fun q13 h_q13 => (h_rec_3 q13 l2 l3 (l4 + (1 : Int32)) h_q13)))) KC_none)
theorem kc_b_X9_goThrough_3 (q0 : SS)  (x0 : SS) (x1 : Int32) (x2 : Int32) (x3 : Int32) (h : Fr wQ vQ q0 x0) : KC q0 (b_X9_goThrough_3 x0 x1 x2 x3) (fun r => r) := by
  unfold b_X9_goThrough_3
  refine KC_fx4 (fun rec_3 h_rec_3 q l2 l3 l4 h => ?_) FU x0 x1 x2 x3 h
  exact (KC_i (kc_b_X9_goThrough_48 q0 q l3 (0 : Int32) h) (KC_bp (fun r12 => (KC_i (kc_b_X9_goThrough_38 q0 rec_3 h_rec_3 q l2 l3 l4 (-1 : Int32) l4 h) (KC_bp (fun r14 => (kc_b_X9_goThrough_38 q0 rec_3 h_rec_3 q l2 l3 l4 (r14.toInt32) l4 h)))))))
theorem kc_f_X9_goThrough (q0 : SS) (q : SS) (a2 : Int32) (a3 : Int32) (h : Fr wQ vQ q0 q) : KC q0 (f_X9_goThrough q a2 a3) (fun r => r) := by
  unfold f_X9_goThrough
  exact (kc_b_X9_goThrough_3 q0 q a2 a3 (0 : Int32) h)
theorem kc_b_X11_behind_114 (q0 : SS) (q : SS) (l3 : Int32) (s0 : Int32) (s1 : Int32) (h : Fr wQ vQ q0 q) : KC q0 (b_X11_behind_114 q l3 s0 s1) (fun r => r.2) := by
  unfold b_X11_behind_114
  exact (KC_b (kc_f_X9_goThrough q0 q s1 s0 h) (fun r8 h_r8 => (KC_sw (KC_bp (fun r10 => (KC_some h_r8))) (KC_sw (KC_bp (fun r12 => (KC_some h_r8))) (KC_sw (KC_bp (fun r14 => (KC_some h_r8))) (KC_sw (KC_bp (fun r16 => (KC_some h_r8))) (KC_s0 (KC_bp (fun r17 => (KC_some h_r8))))))))))
theorem kc_f_X11_behind (q0 : SS) (q : SS) (a1 : Int32) (a2 : Int32) (a3 : Int32) (h : Fr wQ vQ q0 q) : KC q0 (f_X11_behind q a1 a2 a3) (fun r => r.2) := by
  unfold f_X11_behind
  exact (KC_bp (fun r1 => (KC_i (KC_some h) (KC_bp (fun r2 => (KC_i (KC_some h) (KC_i (KC_some h) (KC_i (KC_bp (fun r3 => (KC_i (KC_bp (fun r4 => (KC_i (KC_bp (fun r5 => (KC_i (KC_bp (fun r6 => (KC_i (KC_b (kc_f_X2_begin q0 q a1 h) (fun r7 h_r7 => (KC_i (kc_b_X11_behind_114 q0 r7 a3 (1 : Int32) a2 h_r7) (kc_b_X11_behind_114 q0 r7 a3 (0 : Int32) a2 h_r7)))) (KC_some h)))) (KC_some h)))) (KC_some h)))) (KC_some h)))) (KC_some h)))))))))
theorem kc_b_X11_hire_146 (q0 : SS) (q : SS) (l3 : Int32) (l4 : Int32) (l5 : Int32) (l6 : Int32) (h : Fr wQ vQ q0 q) : KC q0 (b_X11_hire_146 q l3 l4 l5 l6) (fun r => r.2) := by
  unfold b_X11_hire_146
  exact (KC_i (KC_i (KC_some h) (KC_some h)) (KC_some h))
theorem kc_b_X11_hire_140 (q0 : SS) (rec_60 : SS → Int32 → Int32 → Int32 → Int32 → Int32 → Int32 → Option (Int32 × SS)) (h_rec_60 : ∀ (a0 : SS) (a1 : Int32) (a2 : Int32) (a3 : Int32) (a4 : Int32) (a5 : Int32) (a6 : Int32), Fr wQ vQ q0 a0 → KC q0 (rec_60 a0 a1 a2 a3 a4 a5 a6) (fun r => r.2)) (q : SS) (l1 : Int32) (l3 : Int32) (l4 : Int32) (l5 : Int32) (l6 : Int32) (l7 : Int32) (h : Fr wQ vQ q0 q) : KC q0 (b_X11_hire_140 rec_60 q l1 l3 l4 l5 l6 l7) (fun r => r.2) := by
  unfold b_X11_hire_140
  exact (h_rec_60 q l1 l3 l4 l5 l6 (l7 + (1 : Int32)) h)
theorem kc_b_X11_hire_134 (q0 : SS) (rec_60 : SS → Int32 → Int32 → Int32 → Int32 → Int32 → Int32 → Option (Int32 × SS)) (h_rec_60 : ∀ (a0 : SS) (a1 : Int32) (a2 : Int32) (a3 : Int32) (a4 : Int32) (a5 : Int32) (a6 : Int32), Fr wQ vQ q0 a0 → KC q0 (rec_60 a0 a1 a2 a3 a4 a5 a6) (fun r => r.2)) (rec_75 : SS → Int32 → Int32 → Int32 → Int32 → Int32 → Int32 → Int32 → Option (Int32 × SS)) (h_rec_75 : ∀ (a0 : SS) (a1 : Int32) (a2 : Int32) (a3 : Int32) (a4 : Int32) (a5 : Int32) (a6 : Int32) (a7 : Int32), Fr wQ vQ q0 a0 → KC q0 (rec_75 a0 a1 a2 a3 a4 a5 a6 a7) (fun r => r.2)) (q : SS) (l1 : Int32) (l3 : Int32) (l4 : Int32) (l5 : Int32) (l6 : Int32) (l7 : Int32) (l8 : Int32) (h : Fr wQ vQ q0 q) : KC q0 (b_X11_hire_134 rec_60 rec_75 q l1 l3 l4 l5 l6 l7 l8) (fun r => r.2) := by
  unfold b_X11_hire_134
  exact (h_rec_75 q l1 l3 l4 l5 l6 l7 (l8 + (1 : Int32)) h)
theorem kc_b_X11_hire_75 (q0 : SS) (rec_60 : SS → Int32 → Int32 → Int32 → Int32 → Int32 → Int32 → Option (Int32 × SS)) (h_rec_60 : ∀ (a0 : SS) (a1 : Int32) (a2 : Int32) (a3 : Int32) (a4 : Int32) (a5 : Int32) (a6 : Int32), Fr wQ vQ q0 a0 → KC q0 (rec_60 a0 a1 a2 a3 a4 a5 a6) (fun r => r.2)) (x0 : SS) (x1 : Int32) (x2 : Int32) (x3 : Int32) (x4 : Int32) (x5 : Int32) (x6 : Int32) (x7 : Int32) (h : Fr wQ vQ q0 x0) : KC q0 (b_X11_hire_75 rec_60 x0 x1 x2 x3 x4 x5 x6 x7) (fun r => r.2) := by
  unfold b_X11_hire_75
  refine KC_fx8 (fun rec_75 h_rec_75 q l1 l3 l4 l5 l6 l7 l8 h => ?_) FU x0 x1 x2 x3 x4 x5 x6 x7 h
  exact (KC_bp (fun r6 => (KC_i (kc_b_X11_hire_140 q0 rec_60 h_rec_60 q l1 l3 l4 l5 l6 l7 h) (KC_i (kc_b_X11_hire_140 q0 rec_60 h_rec_60 q l1 l3 l4 l5 l6 l7 h) (KC_bp (fun r7 => (KC_nv (fun v8 => (KC_i (kc_b_X11_hire_134 q0 rec_60 h_rec_60 rec_75 h_rec_75 q l1 l3 l4 l5 l6 l7 l8 h) (KC_nv (fun v9 => (KC_nv (fun v10 => (kc_b_X11_hire_134 q0 rec_60 h_rec_60 rec_75 h_rec_75 q l1 l3 v9 v10 l8 l7 l8 h))))))))))))))
theorem kc_b_X11_hire_60 (q0 : SS)  (x0 : SS) (x1 : Int32) (x2 : Int32) (x3 : Int32) (x4 : Int32) (x5 : Int32) (x6 : Int32) (h : Fr wQ vQ q0 x0) : KC q0 (b_X11_hire_60 x0 x1 x2 x3 x4 x5 x6) (fun r => r.2) := by
  unfold b_X11_hire_60
  refine KC_fx7 (fun rec_60 h_rec_60 q l1 l3 l4 l5 l6 l7 h => ?_) FU x0 x1 x2 x3 x4 x5 x6 h
  exact (KC_i (kc_b_X11_hire_146 q0 q l3 l4 l5 l6 h) (KC_i (kc_b_X11_hire_146 q0 q l3 l4 l5 l6 h) (kc_b_X11_hire_75 q0 rec_60 h_rec_60 q l1 l3 l4 l5 l6 l7 (0 : Int32) h)))
theorem kc_f_X11_hire (q0 : SS) (q : SS) (a1 : Int32) (a2 : Int32) (a3 : Int32) (h : Fr wQ vQ q0 q) : KC q0 (f_X11_hire q a1 a2 a3) (fun r => r.2) := by
  unfold f_X11_hire
  exact (KC_bp (fun r1 => (KC_i (KC_some h) (KC_i (KC_some h) (KC_i (KC_some h) (KC_i (KC_some h) (KC_i (KC_b (kc_f_X11_now q0 q h) (fun r2 h_r2 => (KC_bp (fun r3 => (KC_i (kc_b_X11_hire_60 q0 r2 a1 a3 a2 (0 : Int32) (-2 : Int32) (0 : Int32) h_r2) (KC_some h_r2)))))) (KC_some h))))))))
theorem kc_b_X6_sortTickets_101 (q0 : SS) (rec_38 : SS → Int32 → Option SS) (h_rec_38 : ∀ (a0 : SS) (a1 : Int32), Fr wQ vQ q0 a0 → KC q0 (rec_38 a0 a1) (fun r => r)) (q : SS) (l1 : Int32) (h : Fr wQ vQ q0 q) : KC q0 (b_X6_sortTickets_101 rec_38 q l1) (fun r => r) := by
  unfold b_X6_sortTickets_101
  exact (h_rec_38 q (l1 + (-1 : Int32)) h)
theorem kc_b_X6_sortTickets_38 (q0 : SS)  (x0 : SS) (x1 : Int32) (h : Fr wQ vQ q0 x0) : KC q0 (b_X6_sortTickets_38 x0 x1) (fun r => r) := by
  unfold b_X6_sortTickets_38
  refine KC_fx2 (fun rec_38 h_rec_38 q l1 h => ?_) FU x0 x1 h
  exact (KC_i (KC_some h) (KC_bp (fun r3 => (KC_i (kc_b_X6_sortTickets_101 q0 rec_38 h_rec_38 q l1 h) (KC_bp (fun r4 => (KC_i (kc_b_X6_sortTickets_101 q0 rec_38 h_rec_38 q l1 h) (KC_bp (fun r5 => (KC_i (KC_ic (fun c0 => (KC_ic (fun c1 => (KC_ns (Fr_sI h rfl) (fun q6 h_q6 => (KC_ic (fun c2 => (KC_ns (Fr_sI h_q6 rfl) (fun q7 h_q7 => (kc_b_X6_sortTickets_101 q0 rec_38 h_rec_38 q7 l1 h_q7)))) KC_none)))) KC_none)) KC_none) (kc_b_X6_sortTickets_101 q0 rec_38 h_rec_38 q l1 h)))))))))))
theorem kc_b_X6_sortTickets_2 (q0 : SS)  (x0 : SS) (x1 : Int32) (h : Fr wQ vQ q0 x0) : KC q0 (b_X6_sortTickets_2 x0 x1) (fun r => r) := by
  unfold b_X6_sortTickets_2
  refine KC_fx2 (fun rec_2 h_rec_2 q l1 h => ?_) FU x0 x1 h
  exact (KC_i (KC_bp (fun r1 => (KC_nv (fun v2 => (kc_b_X6_sortTickets_38 q0 q v2 h))))) (KC_ic (fun c0 => (KC_ns (Fr_sI h rfl) (fun q12 h_q12 => (KC_ic (fun c1 => (KC_ns (Fr_sI h_q12 rfl) (fun q13 h_q13 => (h_rec_2 q13 (l1 + (1 : Int32)) h_q13)))) KC_none)))) KC_none))
theorem kc_f_X6_sortTickets (q0 : SS) (q : SS) (h : Fr wQ vQ q0 q) : KC q0 (f_X6_sortTickets q) (fun r => r) := by
  unfold f_X6_sortTickets
  exact (kc_b_X6_sortTickets_2 q0 q (0 : Int32) h)
theorem kc_b_X6_workOutHour_114 (q0 : SS) (rec_17 : SS → Int32 → Int32 → Int32 → Option SS) (h_rec_17 : ∀ (a0 : SS) (a1 : Int32) (a2 : Int32) (a3 : Int32), Fr wQ vQ q0 a0 → KC q0 (rec_17 a0 a1 a2 a3) (fun r => r)) (rec_41 : SS → Int32 → Int32 → Int32 → Int32 → Int32 → Option SS) (h_rec_41 : ∀ (a0 : SS) (a1 : Int32) (a2 : Int32) (a3 : Int32) (a4 : Int32) (a5 : Int32), Fr wQ vQ q0 a0 → KC q0 (rec_41 a0 a1 a2 a3 a4 a5) (fun r => r)) (rec_50 : SS → Int32 → Int32 → Int32 → Int32 → Int32 → Int32 → Option SS) (h_rec_50 : ∀ (a0 : SS) (a1 : Int32) (a2 : Int32) (a3 : Int32) (a4 : Int32) (a5 : Int32) (a6 : Int32), Fr wQ vQ q0 a0 → KC q0 (rec_50 a0 a1 a2 a3 a4 a5 a6) (fun r => r)) (q : SS) (l1 : Int32) (l2 : Int32) (l3 : Int32) (l4 : Int32) (l5 : Int32) (l6 : Int32) (h : Fr wQ vQ q0 q) : KC q0 (b_X6_workOutHour_114 rec_17 rec_41 rec_50 q l1 l2 l3 l4 l5 l6) (fun r => r) := by
  unfold b_X6_workOutHour_114
  exact (h_rec_50 q l1 l2 l3 l4 l5 (l6 + (1 : Int32)) h)
theorem kc_b_X6_workOutHour_50 (q0 : SS) (rec_17 : SS → Int32 → Int32 → Int32 → Option SS) (h_rec_17 : ∀ (a0 : SS) (a1 : Int32) (a2 : Int32) (a3 : Int32), Fr wQ vQ q0 a0 → KC q0 (rec_17 a0 a1 a2 a3) (fun r => r)) (rec_41 : SS → Int32 → Int32 → Int32 → Int32 → Int32 → Option SS) (h_rec_41 : ∀ (a0 : SS) (a1 : Int32) (a2 : Int32) (a3 : Int32) (a4 : Int32) (a5 : Int32), Fr wQ vQ q0 a0 → KC q0 (rec_41 a0 a1 a2 a3 a4 a5) (fun r => r)) (x0 : SS) (x1 : Int32) (x2 : Int32) (x3 : Int32) (x4 : Int32) (x5 : Int32) (x6 : Int32) (h : Fr wQ vQ q0 x0) : KC q0 (b_X6_workOutHour_50 rec_17 rec_41 x0 x1 x2 x3 x4 x5 x6) (fun r => r) := by
  unfold b_X6_workOutHour_50
  refine KC_fx7 (fun rec_50 h_rec_50 q l1 l2 l3 l4 l5 l6 h => ?_) FU x0 x1 x2 x3 x4 x5 x6 h
  exact (KC_i (h_rec_41 q l1 l2 l3 l4 (l5 + (1 : Int32)) h) (KC_bp (fun r5 => (KC_i (kc_b_X6_workOutHour_114 q0 rec_17 h_rec_17 rec_41 h_rec_41 rec_50 h_rec_50 q l1 l2 l3 l4 l5 l6 h) (KC_ic (fun c0 => (KC_i (kc_b_X6_workOutHour_114 q0 rec_17 h_rec_17 rec_41 h_rec_41 rec_50 h_rec_50 q l1 l2 l3 l4 l5 l6 h) (KC_b (kc_f_X8_oddsBy q0 q (q.1 42 6) l3 (l4 + l5) l6 l2 h) (fun r6 h_r6 => (KC_ic (fun c1 => (KC_ns (Fr_sI h_r6 rfl) (fun q7 h_q7 => (kc_b_X6_workOutHour_114 q0 rec_17 h_rec_17 rec_41 h_rec_41 rec_50 h_rec_50 q7 l1 l2 l3 l4 l5 l6 h_q7)))) KC_none))))) KC_none)))))
theorem kc_b_X6_workOutHour_41 (q0 : SS) (rec_17 : SS → Int32 → Int32 → Int32 → Option SS) (h_rec_17 : ∀ (a0 : SS) (a1 : Int32) (a2 : Int32) (a3 : Int32), Fr wQ vQ q0 a0 → KC q0 (rec_17 a0 a1 a2 a3) (fun r => r)) (x0 : SS) (x1 : Int32) (x2 : Int32) (x3 : Int32) (x4 : Int32) (x5 : Int32) (h : Fr wQ vQ q0 x0) : KC q0 (b_X6_workOutHour_41 rec_17 x0 x1 x2 x3 x4 x5) (fun r => r) := by
  unfold b_X6_workOutHour_41
  refine KC_fx6 (fun rec_41 h_rec_41 q l1 l2 l3 l4 l5 h => ?_) FU x0 x1 x2 x3 x4 x5 h
  exact (KC_i (h_rec_17 q l1 l2 (l3 + (1 : Int32)) h) (kc_b_X6_workOutHour_50 q0 rec_17 h_rec_17 rec_41 h_rec_41 q l1 l2 l3 l4 l5 (0 : Int32) h))
theorem kc_b_X6_workOutHour_17 (q0 : SS)  (x0 : SS) (x1 : Int32) (x2 : Int32) (x3 : Int32) (h : Fr wQ vQ q0 x0) : KC q0 (b_X6_workOutHour_17 x0 x1 x2 x3) (fun r => r) := by
  unfold b_X6_workOutHour_17
  refine KC_fx4 (fun rec_17 h_rec_17 q l1 l2 l3 h => ?_) FU x0 x1 x2 x3 h
  exact (KC_bp (fun r3 => (KC_i (KC_some h) (KC_bp (fun r4 => (kc_b_X6_workOutHour_41 q0 rec_17 h_rec_17 q l1 l2 l3 r4 (0 : Int32) h))))))
theorem kc_f_X6_workOutHour (q0 : SS) (q : SS) (a1 : Int32) (h : Fr wQ vQ q0 q) : KC q0 (f_X6_workOutHour q a1) (fun r => r) := by
  unfold f_X6_workOutHour
  exact (KC_bp (fun r1 => (KC_nv (fun v2 => (kc_b_X6_workOutHour_17 q0 q a1 v2 (0 : Int32) h)))))
theorem kc_b_X6_begin_72 (q0 : SS)  (x0 : SS) (x1 : Int32) (h : Fr wQ vQ q0 x0) : KC q0 (b_X6_begin_72 x0 x1) (fun r => r) := by
  unfold b_X6_begin_72
  refine KC_fx2 (fun rec_72 h_rec_72 q l3 h => ?_) FU x0 x1 h
  exact (KC_i (KC_some h) (KC_b (kc_f_X6_workOutHour q0 q l3 h) (fun r9 h_r9 => (h_rec_72 r9 (l3 + (1 : Int32)) h_r9))))
theorem kc_b_X6_begin_47 (q0 : SS)  (x0 : SS) (x1 : Int32) (h : Fr wQ vQ q0 x0) : KC q0 (b_X6_begin_47 x0 x1) (fun r => r) := by
  unfold b_X6_begin_47
  refine KC_fx2 (fun rec_47 h_rec_47 q l3 h => ?_) FU x0 x1 h
  exact (KC_i (KC_b (kc_f_X6_sortTickets q0 q h) (fun r8 h_r8 => (kc_b_X6_begin_72 q0 r8 (0 : Int32) h_r8))) (KC_ic (fun c0 => (KC_ns (Fr_sI h rfl) (fun q11 h_q11 => (h_rec_47 q11 (l3 + (1 : Int32)) h_q11)))) KC_none))
theorem kc_f_X6_begin (q0 : SS) (q : SS) (a1 : Int32) (a2 : Int32) (h : Fr wQ vQ q0 q) : KC q0 (f_X6_begin q a1 a2) (fun r => r) := by
  unfold f_X6_begin
  exact (KC_b (kc_f_X8_begin q0 q h) (fun r1 h_r1 => (KC_ns (Fr_sI h_r1 rfl) (fun q2 h_q2 => (KC_ns (Fr_sI h_q2 rfl) (fun q3 h_q3 => (KC_bp (fun r4 => (KC_ns (Fr_sI h_q3 rfl) (fun q5 h_q5 => (KC_bp (fun r6 => (KC_ns (Fr_sI h_q5 rfl) (fun q7 h_q7 => (kc_b_X6_begin_47 q0 q7 (0 : Int32) h_q7)))))))))))))))
def KGc_X6_best (q0 : SS) (r : GT_X6_best) : Prop := (∀ (a0 : SS) (a1 : Int32) (a2 : Int32), Fr wQ vQ q0 a0 → KC q0 (r.1 a0 a1 a2) (fun r => r.2)) ∧ (∀ (a0 : SS) (a1 : Int32) (a2 : Int32) (a3 : Int32) (a4 : Int32) (a5 : Int32), Fr wQ vQ q0 a0 → KC q0 (r.2 a0 a1 a2 a3 a4 a5) (fun r => r.2))
theorem kc_b_X6_best_13 (q0 : SS) (r : GT_X6_best) (hr : KGc_X6_best q0 r) (q : SS) (l2 : Int32) (h : Fr wQ vQ q0 q) : KC q0 (b_X6_best_13 r q l2) (fun r => r.2) := by
  unfold b_X6_best_13
  exact (KC_some h)
theorem kc_b_X6_best_47 (q0 : SS) (r : GT_X6_best) (hr : KGc_X6_best q0 r) (rec_38 : SS → Int32 → Int32 → Int32 → Int32 → Int32 → Option (Int32 × SS)) (h_rec_38 : ∀ (a0 : SS) (a1 : Int32) (a2 : Int32) (a3 : Int32) (a4 : Int32) (a5 : Int32), Fr wQ vQ q0 a0 → KC q0 (rec_38 a0 a1 a2 a3 a4 a5) (fun r => r.2)) (x0 : SS) (x1 : Int32) (x2 : Int32) (x3 : Int32) (x4 : Int32) (x5 : Int32) (x6 : Int32) (h : Fr wQ vQ q0 x0) : KC q0 (b_X6_best_47 r rec_38 x0 x1 x2 x3 x4 x5 x6) (fun r => r.2) := by
  unfold b_X6_best_47
  refine KC_fx7 (fun rec_47 h_rec_47 q l1 l2 l3 l4 l5 l6 h => ?_) FU x0 x1 x2 x3 x4 x5 x6 h
  exact (KC_bp (fun r3 => (KC_i (h_rec_38 q l1 l2 l3 l4 (l5 + (1 : Int32)) h) (KC_b (hr.2 q l1 l2 l5 l6 l3 h) (fun r4 h_r4 => (KC_nv (fun v5 => (h_rec_47 r4.2 l1 l2 l3 v5 l5 (l6 + (1 : Int32)) h_r4))))))))
theorem kc_b_X6_best_38 (q0 : SS) (r : GT_X6_best) (hr : KGc_X6_best q0 r) (x0 : SS) (x1 : Int32) (x2 : Int32) (x3 : Int32) (x4 : Int32) (x5 : Int32) (h : Fr wQ vQ q0 x0) : KC q0 (b_X6_best_38 r x0 x1 x2 x3 x4 x5) (fun r => r.2) := by
  unfold b_X6_best_38
  refine KC_fx6 (fun rec_38 h_rec_38 q l1 l2 l3 l4 l5 h => ?_) FU x0 x1 x2 x3 x4 x5 h
  exact (KC_i (KC_some h) (kc_b_X6_best_47 q0 r hr rec_38 h_rec_38 q l1 l2 l3 l4 l5 (0 : Int32) h))
theorem kc_fb_X6_best (q0 : SS) (r : GT_X6_best) (hr : KGc_X6_best q0 r) (q : SS) (a1 : Int32) (a2 : Int32) (h : Fr wQ vQ q0 q) : KC q0 (fb_X6_best r q a1 a2) (fun r => r.2) := by
  unfold fb_X6_best
  exact (KC_i (kc_b_X6_best_13 q0 r hr q a2 h) (KC_i (KC_b (hr.1 q (a1 + (1 : Int32)) a2 h) (fun r1 h_r1 => (KC_nv (fun v2 => (kc_b_X6_best_38 q0 r hr r1.2 a1 a2 r1.1 v2 (0 : Int32) h_r1))))) (kc_b_X6_best_13 q0 r hr q a2 h)))
theorem kc_fb_X6_tried (q0 : SS) (r : GT_X6_best) (hr : KGc_X6_best q0 r) (q : SS) (a1 : Int32) (a2 : Int32) (a3 : Int32) (a4 : Int32) (a5 : Int32) (h : Fr wQ vQ q0 q) : KC q0 (fb_X6_tried r q a1 a2 a3 a4 a5) (fun r => r.2) := by
  unfold fb_X6_tried
  exact (KC_bp (fun r1 => (KC_i (KC_some h) (KC_ic (fun c0 => (KC_ic (fun c1 => (KC_ns (Fr_sI h rfl) (fun q2 h_q2 => (KC_ic (fun c2 => (KC_ic (fun c3 => (KC_ns (Fr_sI h_q2 rfl) (fun q3 h_q3 => (KC_b (hr.1 q3 (a1 + (1 : Int32)) (a2 + (1 : Int32)) h_q3) (fun r4 h_r4 => (KC_ic (fun c4 => (KC_ic (fun c5 => (KC_ns (Fr_sI h_r4 rfl) (fun q5 h_q5 => (KC_ic (fun c6 => (KC_ic (fun c7 => (KC_ns (Fr_sI h_q5 rfl) (fun q6 h_q6 => (KC_some h_q6)))) KC_none)) KC_none)))) KC_none)) KC_none)))))) KC_none)) KC_none)))) KC_none)) KC_none))))
theorem kgc_X6_best (q0 : SS) : ∀ n, KGc_X6_best q0 (g_X6_best n)
  | 0 => ⟨(fun _ _ _ _ => KC_none), (fun _ _ _ _ _ _ _ => KC_none)⟩
  | n + 1 => ⟨(fun a0 a1 a2 h => kc_fb_X6_best q0 (g_X6_best n) (kgc_X6_best q0 n) a0 a1 a2 h), (fun a0 a1 a2 a3 a4 a5 h => kc_fb_X6_tried q0 (g_X6_best n) (kgc_X6_best q0 n) a0 a1 a2 a3 a4 a5 h)⟩
theorem kc_f_X6_best (q0 : SS) (x0 : SS) (x1 : Int32) (x2 : Int32) (h : Fr wQ vQ q0 x0) : KC q0 (f_X6_best x0 x1 x2) (fun r => r.2) := (kgc_X6_best q0 60).1 x0 x1 x2 h
theorem kc_f_X6_tried (q0 : SS) (x0 : SS) (x1 : Int32) (x2 : Int32) (x3 : Int32) (x4 : Int32) (x5 : Int32) (h : Fr wQ vQ q0 x0) : KC q0 (f_X6_tried x0 x1 x2 x3 x4 x5) (fun r => r.2) := (kgc_X6_best q0 60).2 x0 x1 x2 x3 x4 x5 h
theorem kc_b_X6_firstSlipping_105 (q0 : SS) (rec_28 : SS → Int32 → Int32 → Int32 → Int32 → Option (Int32 × SS)) (h_rec_28 : ∀ (a0 : SS) (a1 : Int32) (a2 : Int32) (a3 : Int32) (a4 : Int32), Fr wQ vQ q0 a0 → KC q0 (rec_28 a0 a1 a2 a3 a4) (fun r => r.2)) (rec_37 : SS → Int32 → Int32 → Int32 → Int32 → Int32 → Option (Int32 × SS)) (h_rec_37 : ∀ (a0 : SS) (a1 : Int32) (a2 : Int32) (a3 : Int32) (a4 : Int32) (a5 : Int32), Fr wQ vQ q0 a0 → KC q0 (rec_37 a0 a1 a2 a3 a4 a5) (fun r => r.2)) (q : SS) (l1 : Int32) (l2 : Int32) (l3 : Int32) (l4 : Int32) (l5 : Int32) (h : Fr wQ vQ q0 q) : KC q0 (b_X6_firstSlipping_105 rec_28 rec_37 q l1 l2 l3 l4 l5) (fun r => r.2) := by
  unfold b_X6_firstSlipping_105
  exact (h_rec_37 q l1 l2 l3 l4 (l5 + (1 : Int32)) h)
theorem kc_b_X6_firstSlipping_99 (q0 : SS) (rec_28 : SS → Int32 → Int32 → Int32 → Int32 → Option (Int32 × SS)) (h_rec_28 : ∀ (a0 : SS) (a1 : Int32) (a2 : Int32) (a3 : Int32) (a4 : Int32), Fr wQ vQ q0 a0 → KC q0 (rec_28 a0 a1 a2 a3 a4) (fun r => r.2)) (rec_37 : SS → Int32 → Int32 → Int32 → Int32 → Int32 → Option (Int32 × SS)) (h_rec_37 : ∀ (a0 : SS) (a1 : Int32) (a2 : Int32) (a3 : Int32) (a4 : Int32) (a5 : Int32), Fr wQ vQ q0 a0 → KC q0 (rec_37 a0 a1 a2 a3 a4 a5) (fun r => r.2)) (q : SS) (l1 : Int32) (l4 : Int32) (l5 : Int32) (l6 : Int32) (l7 : Int32) (h : Fr wQ vQ q0 q) : KC q0 (b_X6_firstSlipping_99 rec_28 rec_37 q l1 l4 l5 l6 l7) (fun r => r.2) := by
  unfold b_X6_firstSlipping_99
  exact (kc_b_X6_firstSlipping_105 q0 rec_28 h_rec_28 rec_37 h_rec_37 q l1 l6 l7 l4 l5 h)
theorem kc_b_X6_firstSlipping_37 (q0 : SS) (rec_28 : SS → Int32 → Int32 → Int32 → Int32 → Option (Int32 × SS)) (h_rec_28 : ∀ (a0 : SS) (a1 : Int32) (a2 : Int32) (a3 : Int32) (a4 : Int32), Fr wQ vQ q0 a0 → KC q0 (rec_28 a0 a1 a2 a3 a4) (fun r => r.2)) (x0 : SS) (x1 : Int32) (x2 : Int32) (x3 : Int32) (x4 : Int32) (x5 : Int32) (h : Fr wQ vQ q0 x0) : KC q0 (b_X6_firstSlipping_37 rec_28 x0 x1 x2 x3 x4 x5) (fun r => r.2) := by
  unfold b_X6_firstSlipping_37
  refine KC_fx6 (fun rec_37 h_rec_37 q l1 l2 l3 l4 l5 h => ?_) FU x0 x1 x2 x3 x4 x5 h
  exact (KC_bp (fun r3 => (KC_i (h_rec_28 q l1 l2 l3 (l4 + (1 : Int32)) h) (KC_b (kc_f_X6_tried q0 q (0 : Int32) (0 : Int32) l4 l5 l1 h) (fun r4 h_r4 => (KC_ic (fun c0 => (KC_nv (fun v5 => (KC_i (kc_b_X6_firstSlipping_99 q0 rec_28 h_rec_28 rec_37 h_rec_37 r4.2 l1 l4 l5 r4.1 v5 h_r4) (KC_i (KC_i (kc_b_X6_firstSlipping_105 q0 rec_28 h_rec_28 rec_37 h_rec_37 r4.2 l1 l2 l3 l4 l5 h_r4) (KC_i (kc_b_X6_firstSlipping_105 q0 rec_28 h_rec_28 rec_37 h_rec_37 r4.2 l1 l2 l3 l4 l5 h_r4) (kc_b_X6_firstSlipping_99 q0 rec_28 h_rec_28 rec_37 h_rec_37 r4.2 l1 l4 l5 r4.1 v5 h_r4))) (kc_b_X6_firstSlipping_105 q0 rec_28 h_rec_28 rec_37 h_rec_37 r4.2 l1 l2 l3 l4 l5 h_r4)))))) KC_none))))))
theorem kc_b_X6_firstSlipping_28 (q0 : SS)  (x0 : SS) (x1 : Int32) (x2 : Int32) (x3 : Int32) (x4 : Int32) (h : Fr wQ vQ q0 x0) : KC q0 (b_X6_firstSlipping_28 x0 x1 x2 x3 x4) (fun r => r.2) := by
  unfold b_X6_firstSlipping_28
  refine KC_fx5 (fun rec_28 h_rec_28 q l1 l2 l3 l4 h => ?_) FU x0 x1 x2 x3 x4 h
  exact (KC_i (KC_some h) (kc_b_X6_firstSlipping_37 q0 rec_28 h_rec_28 q l1 l2 l3 l4 (0 : Int32) h))
theorem kc_f_X6_firstSlipping (q0 : SS) (q : SS) (h : Fr wQ vQ q0 q) : KC q0 (f_X6_firstSlipping q) (fun r => r.2) := by
  unfold f_X6_firstSlipping
  exact (KC_i (KC_some h) (KC_b (kc_f_X6_best q0 q (1 : Int32) (0 : Int32) h) (fun r1 h_r1 => (KC_nv (fun v2 => (kc_b_X6_firstSlipping_28 q0 r1.2 r1.1 v2 (-2 : Int32) (0 : Int32) h_r1))))))
theorem kc_f_X11_first (q0 : SS) (q : SS) (a1 : Int32) (a2 : Int32) (h : Fr wQ vQ q0 q) : KC q0 (f_X11_first q a1 a2) (fun r => r.2) := by
  unfold f_X11_first
  exact (KC_bp (fun r1 => (KC_i (KC_some h) (KC_i (KC_some h) (KC_i (KC_b (kc_f_X6_begin q0 q a1 a2 h) (fun r2 h_r2 => (KC_b (kc_f_X6_firstSlipping q0 r2 h_r2) (fun r3 h_r3 => (KC_some h_r3))))) (KC_some h))))))
theorem kc_f_X6_freeAtBest (q0 : SS) (q : SS) (h : Fr wQ vQ q0 q) : KC q0 (f_X6_freeAtBest q) (fun r => r.2) := by
  unfold f_X6_freeAtBest
  exact (KC_i (KC_some h) (KC_b (kc_f_X6_best q0 q (0 : Int32) (0 : Int32) h) (fun r1 h_r1 => (KC_some h_r1))))
theorem kc_f_X11_rid (q0 : SS) (q : SS) (a1 : Int32) (a2 : Int32) (a3 : Int32) (h : Fr wQ vQ q0 q) : KC q0 (f_X11_rid q a1 a2 a3) (fun r => r.2) := by
  unfold f_X11_rid
  exact (KC_bp (fun r1 => (KC_i (KC_some h) (KC_i (KC_some h) (KC_i (KC_some h) (KC_bp (fun r2 => (KC_i (KC_some h) (KC_b (kc_f_X6_begin q0 q a1 a2 h) (fun r3 h_r3 => (KC_b (kc_f_X6_freeAtBest q0 r3 h_r3) (fun r4 h_r4 => (KC_bp (fun r5 => (KC_bp (fun r6 => (KC_some h_r4)))))))))))))))))
theorem kc_b_X11_watch_92 (q0 : SS) (rec_27 : SS → Int32 → Int32 → Int32 → Int32 → Option (Int32 × SS)) (h_rec_27 : ∀ (a0 : SS) (a1 : Int32) (a2 : Int32) (a3 : Int32) (a4 : Int32), Fr wQ vQ q0 a0 → KC q0 (rec_27 a0 a1 a2 a3 a4) (fun r => r.2)) (q : SS) (l1 : Int32) (l3 : Int32) (l4 : Int32) (l5 : Int32) (h : Fr wQ vQ q0 q) : KC q0 (b_X11_watch_92 rec_27 q l1 l3 l4 l5) (fun r => r.2) := by
  unfold b_X11_watch_92
  exact (h_rec_27 q l1 l3 l4 (l5 + (1 : Int32)) h)
theorem kc_b_X11_watch_85 (q0 : SS) (rec_27 : SS → Int32 → Int32 → Int32 → Int32 → Option (Int32 × SS)) (h_rec_27 : ∀ (a0 : SS) (a1 : Int32) (a2 : Int32) (a3 : Int32) (a4 : Int32), Fr wQ vQ q0 a0 → KC q0 (rec_27 a0 a1 a2 a3 a4) (fun r => r.2)) (q : SS) (l1 : Int32) (l5 : Int32) (l6 : Int32) (l7 : Int32) (h : Fr wQ vQ q0 q) : KC q0 (b_X11_watch_85 rec_27 q l1 l5 l6 l7) (fun r => r.2) := by
  unfold b_X11_watch_85
  exact (kc_b_X11_watch_92 q0 rec_27 h_rec_27 q l1 l6 l7 l5 h)
theorem kc_b_X11_watch_27 (q0 : SS)  (x0 : SS) (x1 : Int32) (x2 : Int32) (x3 : Int32) (x4 : Int32) (h : Fr wQ vQ q0 x0) : KC q0 (b_X11_watch_27 x0 x1 x2 x3 x4) (fun r => r.2) := by
  unfold b_X11_watch_27
  refine KC_fx5 (fun rec_27 h_rec_27 q l1 l3 l4 l5 h => ?_) FU x0 x1 x2 x3 x4 h
  exact (KC_bp (fun r3 => (KC_i (KC_i (KC_some h) (KC_some h)) (KC_bp (fun r5 => (KC_i (kc_b_X11_watch_92 q0 rec_27 h_rec_27 q l1 l3 l4 l5 h) (KC_b (kc_f_X8_oddsOf q0 q l5 l1 h) (fun r6 h_r6 => (KC_bp (fun r7 => (KC_i (kc_b_X11_watch_85 q0 rec_27 h_rec_27 r6.2 l1 l5 r6.1 r7 h_r6) (KC_i (KC_i (kc_b_X11_watch_92 q0 rec_27 h_rec_27 r6.2 l1 l3 l4 l5 h_r6) (kc_b_X11_watch_85 q0 rec_27 h_rec_27 r6.2 l1 l5 r6.1 r7 h_r6)) (kc_b_X11_watch_92 q0 rec_27 h_rec_27 r6.2 l1 l3 l4 l5 h_r6)))))))))))))
theorem kc_f_X11_watch (q0 : SS) (q : SS) (a1 : Int32) (h : Fr wQ vQ q0 q) : KC q0 (f_X11_watch q a1) (fun r => r.2) := by
  unfold f_X11_watch
  exact (KC_bp (fun r1 => (KC_i (KC_some h) (KC_b (kc_f_X11_now q0 q h) (fun r2 h_r2 => (kc_b_X11_watch_27 q0 r2 a1 (-1 : Int32) (-2 : Int32) (0 : Int32) h_r2))))))
theorem kc_b_X2_weighStep_37 (q0 : SS) (q : SS) (l1 : Int32) (l2 : Int32) (s0 : Int64) (s1 : Int64) (h : Fr wQ vQ q0 q) : KC q0 (b_X2_weighStep_37 q l1 l2 s0 s1) (fun r => r) := by
  unfold b_X2_weighStep_37
  exact (KC_ns (Fr_sL h rfl) (fun q4 h_q4 => (KC_ns (Fr_sL h_q4 rfl) (fun q5 h_q5 => (KC_i (KC_some h_q5) (KC_bp (fun r6 => (KC_bp (fun r7 => (KC_b (kc_f_X8_give q0 q5 r6 r7 h_q5) (fun r8 h_r8 => (KC_some h_r8))))))))))))
theorem kc_f_X2_weighStep (q0 : SS) (q : SS) (a1 : Int32) (a2 : Int32) (h : Fr wQ vQ q0 q) : KC q0 (f_X2_weighStep q a1 a2) (fun r => r) := by
  unfold f_X2_weighStep
  exact (KC_bp (fun r1 => (KC_bp (fun r2 => (KC_b (kc_f_X8_oddsOf q0 q r1 r2 h) (fun r3 h_r3 => (KC_i (kc_b_X2_weighStep_37 q0 r3.2 a1 a2 (((12 : Int32) - r3.1).toInt64) (r3.2.2 37 6) h_r3) (kc_b_X2_weighStep_37 q0 r3.2 a1 a2 (r3.1.toInt64) (r3.2.2 37 6) h_r3))))))))
theorem kc_b_X2_weighAllThatCan_46 (q0 : SS) (rec_12 : SS → Int32 → Option SS) (h_rec_12 : ∀ (a0 : SS) (a1 : Int32), Fr wQ vQ q0 a0 → KC q0 (rec_12 a0 a1) (fun r => r)) (q : SS) (l1 : Int32) (h : Fr wQ vQ q0 q) : KC q0 (b_X2_weighAllThatCan_46 rec_12 q l1) (fun r => r) := by
  unfold b_X2_weighAllThatCan_46
  exact (h_rec_12 q (l1 + (1 : Int32)) h)
theorem kc_b_X2_weighAllThatCan_12 (q0 : SS)  (x0 : SS) (x1 : Int32) (h : Fr wQ vQ q0 x0) : KC q0 (b_X2_weighAllThatCan_12 x0 x1) (fun r => r) := by
  unfold b_X2_weighAllThatCan_12
  refine KC_fx2 (fun rec_12 h_rec_12 q l1 h => ?_) FU x0 x1 h
  exact (KC_i (KC_some h) (KC_bp (fun r3 => (KC_bp (fun r4 => (KC_bp (fun r5 => (KC_i (kc_b_X2_weighAllThatCan_46 q0 rec_12 h_rec_12 q l1 h) (KC_b (kc_f_X2_weighStep q0 q l1 (1 : Int32) h) (fun r6 h_r6 => (kc_b_X2_weighAllThatCan_46 q0 rec_12 h_rec_12 r6 l1 h_r6)))))))))))
theorem kc_f_X2_weighAllThatCan (q0 : SS) (q : SS) (h : Fr wQ vQ q0 q) : KC q0 (f_X2_weighAllThatCan q) (fun r => r) := by
  unfold f_X2_weighAllThatCan
  exact (KC_ns (Fr_sL h rfl) (fun q1 h_q1 => (KC_ns (Fr_sL h_q1 rfl) (fun q2 h_q2 => (kc_b_X2_weighAllThatCan_12 q0 q2 (0 : Int32) h_q2)))))
theorem kc_f_X11_all (q0 : SS) (q : SS) (a1 : Int32) (a2 : Int32) (h : Fr wQ vQ q0 q) : KC q0 (f_X11_all q a1 a2) (fun r => r.2) := by
  unfold f_X11_all
  exact (KC_bp (fun r1 => (KC_i (KC_bp (fun r2 => (KC_i (KC_some h) (KC_b (kc_f_X2_begin q0 q a1 h) (fun r3 h_r3 => (KC_b (kc_f_X2_weighAllThatCan q0 r3 h_r3) (fun r4 h_r4 => (KC_bp (fun r5 => (KC_bp (fun r6 => (KC_bp (fun r7 => (KC_some h_r4)))))))))))))) (KC_some h))))
theorem kc_b_X2_weighSet_88 (q0 : SS) (rec_27 : SS → Int32 → Int32 → Int32 → Option SS) (h_rec_27 : ∀ (a0 : SS) (a1 : Int32) (a2 : Int32) (a3 : Int32), Fr wQ vQ q0 a0 → KC q0 (rec_27 a0 a1 a2 a3) (fun r => r)) (q : SS) (l1 : Int32) (l2 : Int32) (l3 : Int32) (h : Fr wQ vQ q0 q) : KC q0 (b_X2_weighSet_88 rec_27 q l1 l2 l3) (fun r => r) := by
  unfold b_X2_weighSet_88
  exact (h_rec_27 q l1 l2 (l3 + (1 : Int32)) h)
theorem kc_b_X2_weighSet_49 (q0 : SS) (rec_27 : SS → Int32 → Int32 → Int32 → Option SS) (h_rec_27 : ∀ (a0 : SS) (a1 : Int32) (a2 : Int32) (a3 : Int32), Fr wQ vQ q0 a0 → KC q0 (rec_27 a0 a1 a2 a3) (fun r => r)) (q : SS) (l1 : Int32) (l2 : Int32) (l3 : Int32) (s0 : Int32) (h : Fr wQ vQ q0 q) : KC q0 (b_X2_weighSet_49 rec_27 q l1 l2 l3 s0) (fun r => r) := by
  unfold b_X2_weighSet_49
  exact (KC_bp (fun r5 => (KC_bp (fun r6 => (KC_bp (fun r7 => (KC_i (KC_i (kc_b_X2_weighSet_88 q0 rec_27 h_rec_27 q l1 l2 l3 h) (kc_b_X2_weighSet_88 q0 rec_27 h_rec_27 q l1 (0 : Int32) l3 h)) (KC_b (kc_f_X2_weighStep q0 q l3 s0 h) (fun r9 h_r9 => (kc_b_X2_weighSet_88 q0 rec_27 h_rec_27 r9 l1 l2 l3 h_r9))))))))))
theorem kc_b_X2_weighSet_27 (q0 : SS)  (x0 : SS) (x1 : Int32) (x2 : Int32) (x3 : Int32) (h : Fr wQ vQ q0 x0) : KC q0 (b_X2_weighSet_27 x0 x1 x2 x3) (fun r => r) := by
  unfold b_X2_weighSet_27
  refine KC_fx4 (fun rec_27 h_rec_27 q l1 l2 l3 h => ?_) FU x0 x1 x2 x3 h
  exact (KC_i (KC_i (KC_ns (Fr_sL h rfl) (fun q3 h_q3 => (KC_some h_q3))) (KC_some h)) (KC_i (kc_b_X2_weighSet_49 q0 rec_27 h_rec_27 q l1 l2 l3 (1 : Int32) h) (kc_b_X2_weighSet_49 q0 rec_27 h_rec_27 q l1 l2 l3 (0 : Int32) h)))
theorem kc_b_X2_weighSet_14 (q0 : SS) (q : SS) (l1 : Int32) (s0 : Int32) (h : Fr wQ vQ q0 q) : KC q0 (b_X2_weighSet_14 q l1 s0) (fun r => r) := by
  unfold b_X2_weighSet_14
  exact (KC_ns (Fr_sL h rfl) (fun q1 h_q1 => (KC_ns (Fr_sL h_q1 rfl) (fun q2 h_q2 => (kc_b_X2_weighSet_27 q0 q2 l1 s0 (0 : Int32) h_q2)))))
theorem kc_f_X2_weighSet (q0 : SS) (q : SS) (a1 : Int32) (h : Fr wQ vQ q0 q) : KC q0 (f_X2_weighSet q a1) (fun r => r) := by
  unfold f_X2_weighSet
  exact (KC_i (kc_b_X2_weighSet_14 q0 q a1 (1 : Int32) h) (kc_b_X2_weighSet_14 q0 q a1 (0 : Int32) h))
theorem kc_f_X11_likely (q0 : SS) (q : SS) (a1 : Int32) (a2 : Int32) (a3 : Int32) (h : Fr wQ vQ q0 q) : KC q0 (f_X11_likely q a1 a2 a3) (fun r => r.2) := by
  unfold f_X11_likely
  exact (KC_bp (fun r1 => (KC_i (KC_i (KC_some h) (KC_i (KC_some h) (KC_bp (fun r2 => (KC_i (KC_some h) (KC_b (kc_f_X2_begin q0 q a1 h) (fun r3 h_r3 => (KC_b (kc_f_X2_weighSet q0 r3 a2 h_r3) (fun r4 h_r4 => (KC_bp (fun r5 => (KC_bp (fun r6 => (KC_bp (fun r7 => (KC_some h_r4)))))))))))))))) (KC_some h))))
theorem kc_b_X2_goByWell_109 (q0 : SS) (rec_12 : SS → Int32 → Int32 → Option SS) (h_rec_12 : ∀ (a0 : SS) (a1 : Int32) (a2 : Int32), Fr wQ vQ q0 a0 → KC q0 (rec_12 a0 a1 a2) (fun r => r)) (q : SS) (l1 : Int32) (l2 : Int32) (h : Fr wQ vQ q0 q) : KC q0 (b_X2_goByWell_109 rec_12 q l1 l2) (fun r => r) := by
  unfold b_X2_goByWell_109
  exact (h_rec_12 q l1 (l2 + (1 : Int32)) h)
theorem kc_b_X2_goByWell_12 (q0 : SS)  (x0 : SS) (x1 : Int32) (x2 : Int32) (h : Fr wQ vQ q0 x0) : KC q0 (b_X2_goByWell_12 x0 x1 x2) (fun r => r) := by
  unfold b_X2_goByWell_12
  refine KC_fx3 (fun rec_12 h_rec_12 q l1 l2 h => ?_) FU x0 x1 x2 h
  exact (KC_i (KC_some h) (KC_i (KC_some h) (KC_bp (fun r3 => (KC_bp (fun r4 => (KC_bp (fun r5 => (KC_i (KC_ns (Fr_sI h rfl) (fun q6 h_q6 => (kc_b_X2_goByWell_109 q0 rec_12 h_rec_12 q6 l1 l2 h_q6))) (KC_bp (fun r7 => (KC_bp (fun r8 => (KC_b (kc_f_X8_oddsOf q0 q r7 r8 h) (fun r9 h_r9 => (KC_i (kc_b_X2_goByWell_109 q0 rec_12 h_rec_12 r9.2 l1 l2 h_r9) (KC_ns (Fr_sI h_r9 rfl) (fun q10 h_q10 => (KC_bp (fun r11 => (KC_bp (fun r12 => (KC_b (kc_f_X8_give q0 q10 r11 r12 h_q10) (fun r13 h_r13 => (kc_b_X2_goByWell_109 q0 rec_12 h_rec_12 r13 l1 l2 h_r13)))))))))))))))))))))))))
theorem kc_f_X2_goByWell (q0 : SS) (q : SS) (a1 : Int32) (h : Fr wQ vQ q0 q) : KC q0 (f_X2_goByWell q a1) (fun r => r) := by
  unfold f_X2_goByWell
  exact (KC_ns (Fr_sI h rfl) (fun q1 h_q1 => (KC_ns (Fr_sI h_q1 rfl) (fun q2 h_q2 => (kc_b_X2_goByWell_12 q0 q2 a1 (0 : Int32) h_q2)))))
theorem kc_b_X11_eve_45 (q0 : SS) (q : SS) (l1 : Int32) (l2 : Int32) (l3 : Int32) (h : Fr wQ vQ q0 q) : KC q0 (b_X11_eve_45 q l1 l2 l3) (fun r => r.2) := by
  unfold b_X11_eve_45
  exact (KC_bp (fun r2 => (KC_i (KC_b (kc_f_X2_begin q0 q l1 h) (fun r3 h_r3 => (KC_b (kc_f_X2_goByWell q0 r3 l2 h_r3) (fun r4 h_r4 => (KC_i (KC_bp (fun r5 => (KC_some h_r4))) (KC_i (KC_bp (fun r6 => (KC_some h_r4))) (KC_bp (fun r7 => (KC_some h_r4))))))))) (KC_some h))))
theorem kc_f_X11_eve (q0 : SS) (q : SS) (a1 : Int32) (a2 : Int32) (a3 : Int32) (h : Fr wQ vQ q0 q) : KC q0 (f_X11_eve q a1 a2 a3) (fun r => r.2) := by
  unfold f_X11_eve
  exact (KC_bp (fun r1 => (KC_i (KC_some h) (KC_i (KC_some h) (KC_i (KC_some h) (KC_i (kc_b_X11_eve_45 q0 q a1 a2 a3 h) (KC_i (kc_b_X11_eve_45 q0 q a1 a2 a3 h) (KC_bp (fun r11 => (KC_i (KC_some h) (kc_b_X11_eve_45 q0 q a1 a2 a3 h)))))))))))
theorem kc_f_X11_later (q0 : SS) (q : SS) (a1 : Int32) (a2 : Int32) (a3 : Int32) (h : Fr wQ vQ q0 q) : KC q0 (f_X11_later q a1 a2 a3) (fun r => r.2) := by
  unfold f_X11_later
  exact (KC_bp (fun r1 => (KC_i (KC_some h) (KC_i (KC_some h) (KC_i (KC_some h) (KC_bp (fun r2 => (KC_i (KC_some h) (KC_bp (fun r3 => (KC_i (KC_b (kc_f_X2_begin q0 q a1 h) (fun r4 h_r4 => (KC_b (kc_f_X2_goByWell q0 r4 a2 h_r4) (fun r5 h_r5 => (KC_bp (fun r6 => (KC_some h_r5))))))) (KC_some h))))))))))))
theorem kc_f_X11_odds (q0 : SS) (q : SS) (a1 : Int32) (h : Fr wQ vQ q0 q) : KC q0 (f_X11_odds q a1) (fun r => r.2) := by
  unfold f_X11_odds
  exact (KC_bp (fun r1 => (KC_i (KC_some h) (KC_b (kc_f_X11_now q0 q h) (fun r2 h_r2 => (KC_b (kc_f_X8_oddsOf q0 r2 (jshr a1 (3 : Int32)) (a1 &&& (7 : Int32)) h_r2) (fun r3 h_r3 => (KC_some h_r3))))))))

def sI (q : SS) (k i : Nat) (x : Int32) : SS := (up2 q.1 k i x, q.2)
def sL (q : SS) (k i : Nat) (x : Int64) : SS := (q.1, up2 q.2 k i x)
def sR (q : SS) (k : Nat) (f : Nat → Int32) : SS := (up1 q.1 k f, q.2)
def sRL (q : SS) (k : Nat) (f : Nat → Int64) : SS := (q.1, up1 q.2 k f)
def nm {α β : Type} (e : α) (k : α → β) : β := k e
abbrev jrem (x y : Int32) : Int32 := x - x / y * y
abbrev jlrem (x y : Int64) : Int64 := x - x / y * y
abbrev jushr (x y : Int32) : Int32 := (x.toUInt32 >>> (y.toUInt32 &&& Int32.toUInt32 31)).toInt32
abbrev jshl (x y : Int32) : Int32 := x <<< (y &&& 31)
abbrev jshr (x y : Int32) : Int32 := x >>> (y &&& 31)
abbrev jlshl (x : Int64) (y : Int32) : Int64 := x <<< (y.toInt64 &&& 63)
abbrev jmax (x y : Int32) : Int32 := if x < y then y else x
abbrev jmin (x y : Int32) : Int32 := if y < x then y else x
def fx1 {A ρ : Type} (F : (A → Option ρ) → A → Option ρ) : Nat → A → Option ρ
  | 0, _ => none
  | n + 1, a => F (fx1 F n) a
def fx2 {A0 A1 ρ : Type} (F : (A0 → A1 → Option ρ) → A0 → A1 → Option ρ) : Nat → A0 → A1 → Option ρ
  | 0, _, _ => none
  | n + 1, a0, a1 => F (fx2 F n) a0 a1
def fx3 {A0 A1 A2 ρ : Type} (F : (A0 → A1 → A2 → Option ρ) → A0 → A1 → A2 → Option ρ) : Nat → A0 → A1 → A2 → Option ρ
  | 0, _, _, _ => none
  | n + 1, a0, a1, a2 => F (fx3 F n) a0 a1 a2
def fx4 {A0 A1 A2 A3 ρ : Type} (F : (A0 → A1 → A2 → A3 → Option ρ) → A0 → A1 → A2 → A3 → Option ρ) : Nat → A0 → A1 → A2 → A3 → Option ρ
  | 0, _, _, _, _ => none
  | n + 1, a0, a1, a2, a3 => F (fx4 F n) a0 a1 a2 a3
def fx5 {A0 A1 A2 A3 A4 ρ : Type} (F : (A0 → A1 → A2 → A3 → A4 → Option ρ) → A0 → A1 → A2 → A3 → A4 → Option ρ) : Nat → A0 → A1 → A2 → A3 → A4 → Option ρ
  | 0, _, _, _, _, _ => none
  | n + 1, a0, a1, a2, a3, a4 => F (fx5 F n) a0 a1 a2 a3 a4
def fx6 {A0 A1 A2 A3 A4 A5 ρ : Type} (F : (A0 → A1 → A2 → A3 → A4 → A5 → Option ρ) → A0 → A1 → A2 → A3 → A4 → A5 → Option ρ) : Nat → A0 → A1 → A2 → A3 → A4 → A5 → Option ρ
  | 0, _, _, _, _, _, _ => none
  | n + 1, a0, a1, a2, a3, a4, a5 => F (fx6 F n) a0 a1 a2 a3 a4 a5
def fx7 {A0 A1 A2 A3 A4 A5 A6 ρ : Type} (F : (A0 → A1 → A2 → A3 → A4 → A5 → A6 → Option ρ) → A0 → A1 → A2 → A3 → A4 → A5 → A6 → Option ρ) : Nat → A0 → A1 → A2 → A3 → A4 → A5 → A6 → Option ρ
  | 0, _, _, _, _, _, _, _ => none
  | n + 1, a0, a1, a2, a3, a4, a5, a6 => F (fx7 F n) a0 a1 a2 a3 a4 a5 a6
def fx8 {A0 A1 A2 A3 A4 A5 A6 A7 ρ : Type} (F : (A0 → A1 → A2 → A3 → A4 → A5 → A6 → A7 → Option ρ) → A0 → A1 → A2 → A3 → A4 → A5 → A6 → A7 → Option ρ) : Nat → A0 → A1 → A2 → A3 → A4 → A5 → A6 → A7 → Option ρ
  | 0, _, _, _, _, _, _, _, _ => none
  | n + 1, a0, a1, a2, a3, a4, a5, a6, a7 => F (fx8 F n) a0 a1 a2 a3 a4 a5 a6 a7
def fx9 {A0 A1 A2 A3 A4 A5 A6 A7 A8 ρ : Type} (F : (A0 → A1 → A2 → A3 → A4 → A5 → A6 → A7 → A8 → Option ρ) → A0 → A1 → A2 → A3 → A4 → A5 → A6 → A7 → A8 → Option ρ) : Nat → A0 → A1 → A2 → A3 → A4 → A5 → A6 → A7 → A8 → Option ρ
  | 0, _, _, _, _, _, _, _, _, _ => none
  | n + 1, a0, a1, a2, a3, a4, a5, a6, a7, a8 => F (fx9 F n) a0 a1 a2 a3 a4 a5 a6 a7 a8
def fx10 {A0 A1 A2 A3 A4 A5 A6 A7 A8 A9 ρ : Type} (F : (A0 → A1 → A2 → A3 → A4 → A5 → A6 → A7 → A8 → A9 → Option ρ) → A0 → A1 → A2 → A3 → A4 → A5 → A6 → A7 → A8 → A9 → Option ρ) : Nat → A0 → A1 → A2 → A3 → A4 → A5 → A6 → A7 → A8 → A9 → Option ρ
  | 0, _, _, _, _, _, _, _, _, _, _ => none
  | n + 1, a0, a1, a2, a3, a4, a5, a6, a7, a8, a9 => F (fx10 F n) a0 a1 a2 a3 a4 a5 a6 a7 a8 a9
def fx11 {A0 A1 A2 A3 A4 A5 A6 A7 A8 A9 A10 ρ : Type} (F : (A0 → A1 → A2 → A3 → A4 → A5 → A6 → A7 → A8 → A9 → A10 → Option ρ) → A0 → A1 → A2 → A3 → A4 → A5 → A6 → A7 → A8 → A9 → A10 → Option ρ) : Nat → A0 → A1 → A2 → A3 → A4 → A5 → A6 → A7 → A8 → A9 → A10 → Option ρ
  | 0, _, _, _, _, _, _, _, _, _, _, _ => none
  | n + 1, a0, a1, a2, a3, a4, a5, a6, a7, a8, a9, a10 => F (fx11 F n) a0 a1 a2 a3 a4 a5 a6 a7 a8 a9 a10
def fx12 {A0 A1 A2 A3 A4 A5 A6 A7 A8 A9 A10 A11 ρ : Type} (F : (A0 → A1 → A2 → A3 → A4 → A5 → A6 → A7 → A8 → A9 → A10 → A11 → Option ρ) → A0 → A1 → A2 → A3 → A4 → A5 → A6 → A7 → A8 → A9 → A10 → A11 → Option ρ) : Nat → A0 → A1 → A2 → A3 → A4 → A5 → A6 → A7 → A8 → A9 → A10 → A11 → Option ρ
  | 0, _, _, _, _, _, _, _, _, _, _, _, _ => none
  | n + 1, a0, a1, a2, a3, a4, a5, a6, a7, a8, a9, a10, a11 => F (fx12 F n) a0 a1 a2 a3 a4 a5 a6 a7 a8 a9 a10 a11
def sw {ρ : Type} (x : Int32) : List (Int × Option ρ) → Option ρ → Option ρ
  | [], d => d
  | (k, o) :: t, d => if x.toInt = k then o else sw x t d
def R (E : EE) {ρ : Type} (κ : ρ → Option Value × PSt) (d m pc : Nat) (L : PL) (st : List Value) (q : SS) (o : Option ρ) : Prop := ∀ r, o = some r → ∃ n, prun (lam E) n d m pc L st (mk E q) = some (κ r)
abbrev κI (E : EE) (r : Int32 × SS) : Option Value × PSt := (some (.int r.1), mk E r.2)
abbrev κL (E : EE) (r : Int64 × SS) : Option Value × PSt := (some (.long r.1), mk E r.2)
abbrev κV (E : EE) (r : SS) : Option Value × PSt := (none, mk E r)
abbrev κA (E : EE) (j : Nat) (r : SS) : Option Value × PSt := (some (.ref j), mk E r)
abbrev κi (E : EE) (q : SS) (r : Int32) : Option Value × PSt := (some (.int r), mk E q)
abbrev κl (E : EE) (q : SS) (r : Int64) : Option Value × PSt := (some (.long r), mk E q)
abbrev κv (E : EE) (q : SS) (_ : Unit) : Option Value × PSt := (none, mk E q)
abbrev κa (E : EE) (j : Nat) (q : SS) (_ : Unit) : Option Value × PSt := (some (.ref j), mk E q)
section ROWS
variable {E : EE} {ρ : Type} {κ : ρ → Option Value × PSt} {d m pc : Nat} {L L2 : PL} {st st2 : List Value} {q q2 : SS} {o o1 o2 : Option ρ}
theorem r_no : R E κ d m pc L st q (none : Option ρ) := fun r h => by cases h
theorem r_S {i : Instr} {len pc2 : Nat} (hd : decode (mB m) pc = .ok (i, len)) (hl : lenOk i len = true) (h : pS (lam E) (isIni m) (mC m) pc (pc + len) (mk E q) i st = some (pc2, st2, mk E q2)) (k : R E κ d m pc2 L st2 q2 o) : R E κ d m pc L st q o := fun r hr => by
  obtain ⟨n, hn⟩ := k r hr
  exact ⟨n + 1, (prun_S hd hl h).trans hn⟩
theorem r_L {i : Instr} {len : Nat} (hd : decode (mB m) pc = .ok (i, len)) (hl : lenOk i len = true) (h : pL i (mL m) L st = some (L2, st2)) (k : R E κ d m (pc + len) L2 st2 q o) : R E κ d m pc L st q o := fun r hr => by
  obtain ⟨n, hn⟩ := k r hr
  exact ⟨n + 1, (prun_L hd hl h).trans hn⟩
theorem r_ite {c : Prop} [Decidable c] (k1 : c → R E κ d m pc L st q o1) (k2 : ¬ c → R E κ d m pc L st q o2) : R E κ d m pc L st q (if c then o1 else o2) := by
  by_cases h : c
  · rw [if_pos h]; exact k1 h
  · rw [if_neg h]; exact k2 h
theorem r_chk {c : Prop} [Decidable c] (k1 : c → R E κ d m pc L st q o1) : R E κ d m pc L st q (if c then o1 else none) := r_ite k1 (fun _ => r_no)
theorem r_sub {L' : PL} (h : SubL L' L) (k : R E κ d m pc L' st q o) : R E κ d m pc L st q o := fun r hr => by
  obtain ⟨n, hn⟩ := k r hr
  exact ⟨n, prun_mono _ _ (Or.inr rfl) _ _ _ _ _ _ _ _ hn n d L (Nat.le_refl _) (Nat.le_refl _) h⟩
theorem sub_n : SubL [] L := fun k v h => by cases h
theorem sub_c {k0 : Nat} {v0 : Value} {t : PL} (h0 : lk L k0 = some v0) (h : SubL t L) : SubL ((k0, v0) :: t) L := fun k v hk => by
  rw [lk_cons] at hk
  cases e : Nat.beq k0 k with
  | true =>
    rw [show Nat.beq (k0, v0).1 k = true from e] at hk
    cases hk
    have : k0 = k := Nat.eq_of_beq_eq_true e
    subst this
    exact h0
  | false =>
    rw [show Nat.beq (k0, v0).1 k = false from e] at hk
    exact h k v hk
theorem r_nmI {x : Int32} {f : Int32 → Option ρ} (k : ∀ y, y = x → R E κ d m pc L (.int y :: st) q (f y)) : R E κ d m pc L (.int x :: st) q (nm x f) := k x rfl
theorem r_nmL {x : Int64} {f : Int64 → Option ρ} (k : ∀ y, y = x → R E κ d m pc L (.long y :: st) q (f y)) : R E κ d m pc L (.long x :: st) q (nm x f) := k x rfl
theorem r_nmS {f : SS → Option ρ} (k : ∀ y, y = q → R E κ d m pc L st y (f y)) : R E κ d m pc L st q (nm q f) := k q rfl
theorem r_iconst {n : Int} {v : Int32} (hd : decode (mB m) pc = .ok (.iconst n, 1)) (hv : Int32.ofInt n = v) (k : R E κ d m (pc + 1) L (.int v :: st) q o) : R E κ d m pc L st q o := r_S hd rfl rfl (by rw [hv]; exact k)
theorem r_bipush {n : Int} {v : Int32} (hd : decode (mB m) pc = .ok (.bipush n, 2)) (hv : (Int8.ofInt n).toInt32 = v) (k : R E κ d m (pc + 2) L (.int v :: st) q o) : R E κ d m pc L st q o := r_S hd rfl rfl (by rw [hv]; exact k)
theorem r_sipush {n : Int} {v : Int32} (hd : decode (mB m) pc = .ok (.sipush n, 3)) (hv : (Int16.ofInt n).toInt32 = v) (k : R E κ d m (pc + 3) L (.int v :: st) q o) : R E κ d m pc L st q o := r_S hd rfl rfl (by rw [hv]; exact k)
theorem r_lconst {n : Fin 2} {v : Int64} (hd : decode (mB m) pc = .ok (.lconst n, 1)) (hv : Int64.ofNat (n : Nat) = v) (k : R E κ d m (pc + 1) L (.long v :: st) q o) : R E κ d m pc L st q o := r_S hd rfl rfl (by rw [hv]; exact k)
theorem r_ldc {j : Nat} {v : Int32} (hd : decode (mB m) pc = .ok (.ldc_w j, 3)) (hv : ki (mC m) j = some v) (k : R E κ d m (pc + 3) L (.int v :: st) q o) : R E κ d m pc L st q o := r_S hd rfl (show Option.map _ (ki (mC m) j) = _ by rw [hv]; rfl) k
theorem r_ldc2 {j : Nat} {v : Int64} (hd : decode (mB m) pc = .ok (.ldc2_w j, 3)) (hv : kl (mC m) j = some v) (k : R E κ d m (pc + 3) L (.long v :: st) q o) : R E κ d m pc L st q o := r_S hd rfl (show Option.map _ (kl (mC m) j) = _ by rw [hv]; rfl) k
theorem r_iload_n {j : Fin 4} {x : Int32} (hd : decode (mB m) pc = .ok (.iload_n j, 1)) (h : lk L (j : Nat) = some (.int x)) (k : R E κ d m (pc + 1) L (.int x :: st) q o) : R E κ d m pc L st q o := r_L hd rfl (show pLd okI L (j : Nat) st = _ by unfold pLd; rw [h]; rfl) k
theorem r_iload {j : Nat} {x : Int32} (hd : decode (mB m) pc = .ok (.iload j, 2)) (h : lk L j = some (.int x)) (k : R E κ d m (pc + 2) L (.int x :: st) q o) : R E κ d m pc L st q o := r_L hd rfl (show pLd okI L j st = _ by unfold pLd; rw [h]; rfl) k
theorem r_lload_n {j : Fin 4} {x : Int64} (hd : decode (mB m) pc = .ok (.lload_n j, 1)) (h : lk L (j : Nat) = some (.long x)) (k : R E κ d m (pc + 1) L (.long x :: st) q o) : R E κ d m pc L st q o := r_L hd rfl (show pLd okL L (j : Nat) st = _ by unfold pLd; rw [h]; rfl) k
theorem r_lload {j : Nat} {x : Int64} (hd : decode (mB m) pc = .ok (.lload j, 2)) (h : lk L j = some (.long x)) (k : R E κ d m (pc + 2) L (.long x :: st) q o) : R E κ d m pc L st q o := r_L hd rfl (show pLd okL L j st = _ by unfold pLd; rw [h]; rfl) k
theorem r_aload_n {j : Fin 4} {x : Nat} (hd : decode (mB m) pc = .ok (.aload_n j, 1)) (h : lk L (j : Nat) = some (.ref x)) (k : R E κ d m (pc + 1) L (.ref x :: st) q o) : R E κ d m pc L st q o := r_L hd rfl (show pLd okA L (j : Nat) st = _ by unfold pLd; rw [h]; rfl) k
theorem r_aload {j : Nat} {x : Nat} (hd : decode (mB m) pc = .ok (.aload j, 2)) (h : lk L j = some (.ref x)) (k : R E κ d m (pc + 2) L (.ref x :: st) q o) : R E κ d m pc L st q o := r_L hd rfl (show pLd okA L j st = _ by unfold pLd; rw [h]; rfl) k
theorem r_roload_n {j : Fin 4} {x : Nat} (hd : decode (mB m) pc = .ok (.aload_n j, 1)) (h : lk L (j : Nat) = some (.retAddr x)) (k : R E κ d m (pc + 1) L (.retAddr x :: st) q o) : R E κ d m pc L st q o := r_L hd rfl (show pLd okA L (j : Nat) st = _ by unfold pLd; rw [h]; rfl) k
theorem r_roload {j : Nat} {x : Nat} (hd : decode (mB m) pc = .ok (.aload j, 2)) (h : lk L j = some (.retAddr x)) (k : R E κ d m (pc + 2) L (.retAddr x :: st) q o) : R E κ d m pc L st q o := r_L hd rfl (show pLd okA L j st = _ by unfold pLd; rw [h]; rfl) k
theorem r_istore_n {j : Fin 4} {x : Int32} (hd : decode (mB m) pc = .ok (.istore_n j, 1)) (hn : Nat.blt (j : Nat) (mL m) = true) (h : ins1 L (j : Nat) (.int x) = L2) (k : R E κ d m (pc + 1) L2 st q o) : R E κ d m pc L (.int x :: st) q o := r_L hd rfl (show pSt1 okI (mL m) L (j : Nat) (.int x :: st) = _ by unfold pSt1; dsimp only; rw [hn, h]; rfl) k
theorem r_istore {j : Nat} {x : Int32} (hd : decode (mB m) pc = .ok (.istore j, 2)) (hn : Nat.blt j (mL m) = true) (h : ins1 L j (.int x) = L2) (k : R E κ d m (pc + 2) L2 st q o) : R E κ d m pc L (.int x :: st) q o := r_L hd rfl (show pSt1 okI (mL m) L j (.int x :: st) = _ by unfold pSt1; dsimp only; rw [hn, h]; rfl) k
theorem r_astore_n {j : Fin 4} {x : Nat} (hd : decode (mB m) pc = .ok (.astore_n j, 1)) (hn : Nat.blt (j : Nat) (mL m) = true) (h : ins1 L (j : Nat) (.ref x) = L2) (k : R E κ d m (pc + 1) L2 st q o) : R E κ d m pc L (.ref x :: st) q o := r_L hd rfl (show pSt1 okA (mL m) L (j : Nat) (.ref x :: st) = _ by unfold pSt1; dsimp only; rw [hn, h]; rfl) k
theorem r_astore {j : Nat} {x : Nat} (hd : decode (mB m) pc = .ok (.astore j, 2)) (hn : Nat.blt j (mL m) = true) (h : ins1 L j (.ref x) = L2) (k : R E κ d m (pc + 2) L2 st q o) : R E κ d m pc L (.ref x :: st) q o := r_L hd rfl (show pSt1 okA (mL m) L j (.ref x :: st) = _ by unfold pSt1; dsimp only; rw [hn, h]; rfl) k
theorem r_lstore_n {j : Fin 4} {x : Int64} (hd : decode (mB m) pc = .ok (.lstore_n j, 1)) (hn : Nat.blt ((j : Nat) + 1) (mL m) = true) (h : ins2 L (j : Nat) (.long x) = L2) (k : R E κ d m (pc + 1) L2 st q o) : R E κ d m pc L (.long x :: st) q o := r_L hd rfl (show pSt2 (mL m) L (j : Nat) (.long x :: st) = _ by unfold pSt2; dsimp only; rw [hn, h]; rfl) k
theorem r_lstore {j : Nat} {x : Int64} (hd : decode (mB m) pc = .ok (.lstore j, 2)) (hn : Nat.blt (j + 1) (mL m) = true) (h : ins2 L j (.long x) = L2) (k : R E κ d m (pc + 2) L2 st q o) : R E κ d m pc L (.long x :: st) q o := r_L hd rfl (show pSt2 (mL m) L j (.long x :: st) = _ by unfold pSt2; dsimp only; rw [hn, h]; rfl) k
theorem r_iinc {j : Nat} {n : Int} {x v : Int32} (hd : decode (mB m) pc = .ok (.iinc j n, 3)) (hn : Nat.blt j (mL m) = true) (hx : lk L j = some (.int x)) (hv : x + Int32.ofInt n = v) (h : ins1 L j (.int v) = L2) (k : R E κ d m (pc + 3) L2 st q o) : R E κ d m pc L st q o := r_L hd rfl (by unfold pL; dsimp only; rw [hx]; dsimp only; rw [hn, hv, h]; rfl) k
theorem r_iadd {x y : Int32} (hd : decode (mB m) pc = .ok (.iadd, 1)) (k : R E κ d m (pc + 1) L (.int (x + y) :: st) q o) : R E κ d m pc L (.int y :: .int x :: st) q o := r_S hd rfl rfl k
theorem r_isub {x y : Int32} (hd : decode (mB m) pc = .ok (.isub, 1)) (k : R E κ d m (pc + 1) L (.int (x - y) :: st) q o) : R E κ d m pc L (.int y :: .int x :: st) q o := r_S hd rfl rfl k
theorem r_imul {x y : Int32} (hd : decode (mB m) pc = .ok (.imul, 1)) (k : R E κ d m (pc + 1) L (.int (x * y) :: st) q o) : R E κ d m pc L (.int y :: .int x :: st) q o := r_S hd rfl rfl k
theorem r_iand {x y : Int32} (hd : decode (mB m) pc = .ok (.iand, 1)) (k : R E κ d m (pc + 1) L (.int (x &&& y) :: st) q o) : R E κ d m pc L (.int y :: .int x :: st) q o := r_S hd rfl rfl k
theorem r_ior {x y : Int32} (hd : decode (mB m) pc = .ok (.ior, 1)) (k : R E κ d m (pc + 1) L (.int (x ||| y) :: st) q o) : R E κ d m pc L (.int y :: .int x :: st) q o := r_S hd rfl rfl k
theorem r_ixor {x y : Int32} (hd : decode (mB m) pc = .ok (.ixor, 1)) (k : R E κ d m (pc + 1) L (.int (x ^^^ y) :: st) q o) : R E κ d m pc L (.int y :: .int x :: st) q o := r_S hd rfl rfl k
theorem r_ishl {x y : Int32} (hd : decode (mB m) pc = .ok (.ishl, 1)) (k : R E κ d m (pc + 1) L (.int (jshl x y) :: st) q o) : R E κ d m pc L (.int y :: .int x :: st) q o := r_S hd rfl rfl k
theorem r_ishr {x y : Int32} (hd : decode (mB m) pc = .ok (.ishr, 1)) (k : R E κ d m (pc + 1) L (.int (jshr x y) :: st) q o) : R E κ d m pc L (.int y :: .int x :: st) q o := r_S hd rfl rfl k
theorem r_iushr {x y : Int32} (hd : decode (mB m) pc = .ok (.iushr, 1)) (k : R E κ d m (pc + 1) L (.int (jushr x y) :: st) q o) : R E κ d m pc L (.int y :: .int x :: st) q o := r_S hd rfl rfl k
theorem r_idiv {x y : Int32} (hd : decode (mB m) pc = .ok (.idiv, 1)) (k : R E κ d m (pc + 1) L (.int (x / y) :: st) q o) : R E κ d m pc L (.int y :: .int x :: st) q (if y = 0 then none else o) := r_ite (fun _ => r_no) (fun h => r_S hd rfl (show (if y = 0 then none else some (pc + 1, Value.int (x / y) :: st, mk E q)) = some (pc + 1, Value.int (x / y) :: st, mk E q) from if_neg h) k)
theorem r_idivC {x y : Int32} (hd : decode (mB m) pc = .ok (.idiv, 1)) (h : ¬ y = 0) (k : R E κ d m (pc + 1) L (.int (x / y) :: st) q o) : R E κ d m pc L (.int y :: .int x :: st) q o := r_S hd rfl (show (if y = 0 then none else some (pc + 1, Value.int (x / y) :: st, mk E q)) = some (pc + 1, Value.int (x / y) :: st, mk E q) from if_neg h) k
theorem r_irem {x y : Int32} (hd : decode (mB m) pc = .ok (.irem, 1)) (k : R E κ d m (pc + 1) L (.int (jrem x y) :: st) q o) : R E κ d m pc L (.int y :: .int x :: st) q (if y = 0 then none else o) := r_ite (fun _ => r_no) (fun h => r_S hd rfl (show (if y = 0 then none else some (pc + 1, Value.int (jrem x y) :: st, mk E q)) = some (pc + 1, Value.int (jrem x y) :: st, mk E q) from if_neg h) k)
theorem r_iremC {x y : Int32} (hd : decode (mB m) pc = .ok (.irem, 1)) (h : ¬ y = 0) (k : R E κ d m (pc + 1) L (.int (jrem x y) :: st) q o) : R E κ d m pc L (.int y :: .int x :: st) q o := r_S hd rfl (show (if y = 0 then none else some (pc + 1, Value.int (jrem x y) :: st, mk E q)) = some (pc + 1, Value.int (jrem x y) :: st, mk E q) from if_neg h) k
theorem r_ineg {x : Int32} (hd : decode (mB m) pc = .ok (.ineg, 1)) (k : R E κ d m (pc + 1) L (.int (-x) :: st) q o) : R E κ d m pc L (.int x :: st) q o := r_S hd rfl rfl k
theorem r_i2b {x : Int32} (hd : decode (mB m) pc = .ok (.i2b, 1)) (k : R E κ d m (pc + 1) L (.int (x.toInt8.toInt32) :: st) q o) : R E κ d m pc L (.int x :: st) q o := r_S hd rfl rfl k
theorem r_i2s {x : Int32} (hd : decode (mB m) pc = .ok (.i2s, 1)) (k : R E κ d m (pc + 1) L (.int (x.toInt16.toInt32) :: st) q o) : R E κ d m pc L (.int x :: st) q o := r_S hd rfl rfl k
theorem r_i2l {x : Int32} (hd : decode (mB m) pc = .ok (.i2l, 1)) (k : R E κ d m (pc + 1) L (.long x.toInt64 :: st) q o) : R E κ d m pc L (.int x :: st) q o := r_S hd rfl rfl k
theorem r_l2i {x : Int64} (hd : decode (mB m) pc = .ok (.l2i, 1)) (k : R E κ d m (pc + 1) L (.int x.toInt32 :: st) q o) : R E κ d m pc L (.long x :: st) q o := r_S hd rfl rfl k
theorem r_ladd {x y : Int64} (hd : decode (mB m) pc = .ok (.ladd, 1)) (k : R E κ d m (pc + 1) L (.long (x + y) :: st) q o) : R E κ d m pc L (.long y :: .long x :: st) q o := r_S hd rfl rfl k
theorem r_lsub {x y : Int64} (hd : decode (mB m) pc = .ok (.lsub, 1)) (k : R E κ d m (pc + 1) L (.long (x - y) :: st) q o) : R E κ d m pc L (.long y :: .long x :: st) q o := r_S hd rfl rfl k
theorem r_lmul {x y : Int64} (hd : decode (mB m) pc = .ok (.lmul, 1)) (k : R E κ d m (pc + 1) L (.long (x * y) :: st) q o) : R E κ d m pc L (.long y :: .long x :: st) q o := r_S hd rfl rfl k
theorem r_land {x y : Int64} (hd : decode (mB m) pc = .ok (.land, 1)) (k : R E κ d m (pc + 1) L (.long (x &&& y) :: st) q o) : R E κ d m pc L (.long y :: .long x :: st) q o := r_S hd rfl rfl k
theorem r_lor {x y : Int64} (hd : decode (mB m) pc = .ok (.lor, 1)) (k : R E κ d m (pc + 1) L (.long (x ||| y) :: st) q o) : R E κ d m pc L (.long y :: .long x :: st) q o := r_S hd rfl rfl k
theorem r_ldiv {x y : Int64} (hd : decode (mB m) pc = .ok (.ldiv, 1)) (k : R E κ d m (pc + 1) L (.long (x / y) :: st) q o) : R E κ d m pc L (.long y :: .long x :: st) q (if y = 0 then none else o) := r_ite (fun _ => r_no) (fun h => r_S hd rfl (show (if y = 0 then none else some (pc + 1, Value.long (x / y) :: st, mk E q)) = some (pc + 1, Value.long (x / y) :: st, mk E q) from if_neg h) k)
theorem r_lrem {x y : Int64} (hd : decode (mB m) pc = .ok (.lrem, 1)) (k : R E κ d m (pc + 1) L (.long (jlrem x y) :: st) q o) : R E κ d m pc L (.long y :: .long x :: st) q (if y = 0 then none else o) := r_ite (fun _ => r_no) (fun h => r_S hd rfl (show (if y = 0 then none else some (pc + 1, Value.long (jlrem x y) :: st, mk E q)) = some (pc + 1, Value.long (jlrem x y) :: st, mk E q) from if_neg h) k)
theorem r_lcmp {x y : Int64} (hd : decode (mB m) pc = .ok (.lcmp, 1)) (k : R E κ d m (pc + 1) L (.int (lg_cmp x y) :: st) q o) : R E κ d m pc L (.long y :: .long x :: st) q o := r_S hd rfl rfl k
theorem r_lshl {x : Int64} {y : Int32} (hd : decode (mB m) pc = .ok (.lshl, 1)) (k : R E κ d m (pc + 1) L (.long (jlshl x y) :: st) q o) : R E κ d m pc L (.int y :: .long x :: st) q o := r_S hd rfl rfl k
theorem r_dup {v : Value} (hd : decode (mB m) pc = .ok (.dup, 1)) (hv : v.category = 1) (k : R E κ d m (pc + 1) L (v :: v :: st) q o) : R E κ d m pc L (v :: st) q o := r_S hd rfl (by unfold pS; dsimp only; rw [if_pos hv]) k
theorem r_dup2 {v w : Value} (hd : decode (mB m) pc = .ok (.dup2, 1)) (hv : v.category = 1 ∧ w.category = 1) (k : R E κ d m (pc + 1) L (v :: w :: v :: w :: st) q o) : R E κ d m pc L (v :: w :: st) q o := r_S hd rfl (by unfold pS; dsimp only; rw [if_pos hv]) k
theorem r_pop {v : Value} (hd : decode (mB m) pc = .ok (.pop, 1)) (hv : v.category = 1) (k : R E κ d m (pc + 1) L st q o) : R E κ d m pc L (v :: st) q o := r_S hd rfl (by unfold pS; dsimp only; rw [if_pos hv]) k
theorem r_pop2 {x : Int64} (hd : decode (mB m) pc = .ok (.pop2, 1)) (k : R E κ d m (pc + 1) L st q o) : R E κ d m pc L (.long x :: st) q o := r_S hd rfl (by unfold pS; dsimp only; rw [if_pos (show (Value.long x).category = 2 from rfl)]) k
theorem r_goto {off : Int} {t : Nat} (hd : decode (mB m) pc = .ok (.goto off, 3)) (ht : tgt pc off = some t) (k : R E κ d m t L st q o) : R E κ d m pc L st q o := r_S hd rfl (by unfold pS; dsimp only; rw [ht]; rfl) k
theorem r_if_eq {x : Int32} {off : Int} {t : Nat} (hd : decode (mB m) pc = .ok (.ifCond .eq off, 3)) (ht : tgt pc off = some t) (k1 : x = 0 → R E κ d m t L st q o1) (k2 : ¬ x = 0 → R E κ d m (pc + 3) L st q o2) : R E κ d m pc L (.int x :: st) q (if x = 0 then o1 else o2) := r_ite (fun h => r_S hd rfl (by unfold pS; dsimp only; rw [ht]; show some (pbr .eq _ _ _ _, _, _) = _; unfold pbr; dsimp only; rw [if_pos h]) (k1 h)) (fun h => r_S hd rfl (by unfold pS; dsimp only; rw [ht]; show some (pbr .eq _ _ _ _, _, _) = _; unfold pbr; dsimp only; rw [if_neg h]) (k2 h))
theorem r_icmp_eq {x y : Int32} {off : Int} {t : Nat} (hd : decode (mB m) pc = .ok (.if_icmp .eq off, 3)) (ht : tgt pc off = some t) (k1 : x = y → R E κ d m t L st q o1) (k2 : ¬ x = y → R E κ d m (pc + 3) L st q o2) : R E κ d m pc L (.int y :: .int x :: st) q (if x = y then o1 else o2) := r_ite (fun h => r_S hd rfl (by unfold pS; dsimp only; rw [ht]; show some (pbr .eq _ _ _ _, _, _) = _; unfold pbr; dsimp only; rw [if_pos h]) (k1 h)) (fun h => r_S hd rfl (by unfold pS; dsimp only; rw [ht]; show some (pbr .eq _ _ _ _, _, _) = _; unfold pbr; dsimp only; rw [if_neg h]) (k2 h))
theorem r_if_ne {x : Int32} {off : Int} {t : Nat} (hd : decode (mB m) pc = .ok (.ifCond .ne off, 3)) (ht : tgt pc off = some t) (k2 : x = 0 → R E κ d m (pc + 3) L st q o2) (k1 : ¬ x = 0 → R E κ d m t L st q o1) : R E κ d m pc L (.int x :: st) q (if x = 0 then o2 else o1) := r_ite (fun h => r_S hd rfl (by unfold pS; dsimp only; rw [ht]; show some (pbr .ne _ _ _ _, _, _) = _; unfold pbr; dsimp only; rw [if_pos h]) (k2 h)) (fun h => r_S hd rfl (by unfold pS; dsimp only; rw [ht]; show some (pbr .ne _ _ _ _, _, _) = _; unfold pbr; dsimp only; rw [if_neg h]) (k1 h))
theorem r_icmp_ne {x y : Int32} {off : Int} {t : Nat} (hd : decode (mB m) pc = .ok (.if_icmp .ne off, 3)) (ht : tgt pc off = some t) (k2 : x = y → R E κ d m (pc + 3) L st q o2) (k1 : ¬ x = y → R E κ d m t L st q o1) : R E κ d m pc L (.int y :: .int x :: st) q (if x = y then o2 else o1) := r_ite (fun h => r_S hd rfl (by unfold pS; dsimp only; rw [ht]; show some (pbr .ne _ _ _ _, _, _) = _; unfold pbr; dsimp only; rw [if_pos h]) (k2 h)) (fun h => r_S hd rfl (by unfold pS; dsimp only; rw [ht]; show some (pbr .ne _ _ _ _, _, _) = _; unfold pbr; dsimp only; rw [if_neg h]) (k1 h))
theorem r_if_lt {x : Int32} {off : Int} {t : Nat} (hd : decode (mB m) pc = .ok (.ifCond .lt off, 3)) (ht : tgt pc off = some t) (k1 : x < 0 → R E κ d m t L st q o1) (k2 : ¬ x < 0 → R E κ d m (pc + 3) L st q o2) : R E κ d m pc L (.int x :: st) q (if x < 0 then o1 else o2) := r_ite (fun h => r_S hd rfl (by unfold pS; dsimp only; rw [ht]; show some (pbr .lt _ _ _ _, _, _) = _; unfold pbr; dsimp only; rw [if_pos h]) (k1 h)) (fun h => r_S hd rfl (by unfold pS; dsimp only; rw [ht]; show some (pbr .lt _ _ _ _, _, _) = _; unfold pbr; dsimp only; rw [if_neg h]) (k2 h))
theorem r_icmp_lt {x y : Int32} {off : Int} {t : Nat} (hd : decode (mB m) pc = .ok (.if_icmp .lt off, 3)) (ht : tgt pc off = some t) (k1 : x < y → R E κ d m t L st q o1) (k2 : ¬ x < y → R E κ d m (pc + 3) L st q o2) : R E κ d m pc L (.int y :: .int x :: st) q (if x < y then o1 else o2) := r_ite (fun h => r_S hd rfl (by unfold pS; dsimp only; rw [ht]; show some (pbr .lt _ _ _ _, _, _) = _; unfold pbr; dsimp only; rw [if_pos h]) (k1 h)) (fun h => r_S hd rfl (by unfold pS; dsimp only; rw [ht]; show some (pbr .lt _ _ _ _, _, _) = _; unfold pbr; dsimp only; rw [if_neg h]) (k2 h))
theorem r_if_ge {x : Int32} {off : Int} {t : Nat} (hd : decode (mB m) pc = .ok (.ifCond .ge off, 3)) (ht : tgt pc off = some t) (k1 : 0 ≤ x → R E κ d m t L st q o1) (k2 : ¬ 0 ≤ x → R E κ d m (pc + 3) L st q o2) : R E κ d m pc L (.int x :: st) q (if 0 ≤ x then o1 else o2) := r_ite (fun h => r_S hd rfl (by unfold pS; dsimp only; rw [ht]; show some (pbr .ge _ _ _ _, _, _) = _; unfold pbr; dsimp only; rw [if_pos h]) (k1 h)) (fun h => r_S hd rfl (by unfold pS; dsimp only; rw [ht]; show some (pbr .ge _ _ _ _, _, _) = _; unfold pbr; dsimp only; rw [if_neg h]) (k2 h))
theorem r_icmp_ge {x y : Int32} {off : Int} {t : Nat} (hd : decode (mB m) pc = .ok (.if_icmp .ge off, 3)) (ht : tgt pc off = some t) (k1 : y ≤ x → R E κ d m t L st q o1) (k2 : ¬ y ≤ x → R E κ d m (pc + 3) L st q o2) : R E κ d m pc L (.int y :: .int x :: st) q (if y ≤ x then o1 else o2) := r_ite (fun h => r_S hd rfl (by unfold pS; dsimp only; rw [ht]; show some (pbr .ge _ _ _ _, _, _) = _; unfold pbr; dsimp only; rw [if_pos h]) (k1 h)) (fun h => r_S hd rfl (by unfold pS; dsimp only; rw [ht]; show some (pbr .ge _ _ _ _, _, _) = _; unfold pbr; dsimp only; rw [if_neg h]) (k2 h))
theorem r_if_gt {x : Int32} {off : Int} {t : Nat} (hd : decode (mB m) pc = .ok (.ifCond .gt off, 3)) (ht : tgt pc off = some t) (k1 : 0 < x → R E κ d m t L st q o1) (k2 : ¬ 0 < x → R E κ d m (pc + 3) L st q o2) : R E κ d m pc L (.int x :: st) q (if 0 < x then o1 else o2) := r_ite (fun h => r_S hd rfl (by unfold pS; dsimp only; rw [ht]; show some (pbr .gt _ _ _ _, _, _) = _; unfold pbr; dsimp only; rw [if_pos h]) (k1 h)) (fun h => r_S hd rfl (by unfold pS; dsimp only; rw [ht]; show some (pbr .gt _ _ _ _, _, _) = _; unfold pbr; dsimp only; rw [if_neg h]) (k2 h))
theorem r_icmp_gt {x y : Int32} {off : Int} {t : Nat} (hd : decode (mB m) pc = .ok (.if_icmp .gt off, 3)) (ht : tgt pc off = some t) (k1 : y < x → R E κ d m t L st q o1) (k2 : ¬ y < x → R E κ d m (pc + 3) L st q o2) : R E κ d m pc L (.int y :: .int x :: st) q (if y < x then o1 else o2) := r_ite (fun h => r_S hd rfl (by unfold pS; dsimp only; rw [ht]; show some (pbr .gt _ _ _ _, _, _) = _; unfold pbr; dsimp only; rw [if_pos h]) (k1 h)) (fun h => r_S hd rfl (by unfold pS; dsimp only; rw [ht]; show some (pbr .gt _ _ _ _, _, _) = _; unfold pbr; dsimp only; rw [if_neg h]) (k2 h))
theorem r_if_le {x : Int32} {off : Int} {t : Nat} (hd : decode (mB m) pc = .ok (.ifCond .le off, 3)) (ht : tgt pc off = some t) (k1 : x ≤ 0 → R E κ d m t L st q o1) (k2 : ¬ x ≤ 0 → R E κ d m (pc + 3) L st q o2) : R E κ d m pc L (.int x :: st) q (if x ≤ 0 then o1 else o2) := r_ite (fun h => r_S hd rfl (by unfold pS; dsimp only; rw [ht]; show some (pbr .le _ _ _ _, _, _) = _; unfold pbr; dsimp only; rw [if_pos h]) (k1 h)) (fun h => r_S hd rfl (by unfold pS; dsimp only; rw [ht]; show some (pbr .le _ _ _ _, _, _) = _; unfold pbr; dsimp only; rw [if_neg h]) (k2 h))
theorem r_icmp_le {x y : Int32} {off : Int} {t : Nat} (hd : decode (mB m) pc = .ok (.if_icmp .le off, 3)) (ht : tgt pc off = some t) (k1 : x ≤ y → R E κ d m t L st q o1) (k2 : ¬ x ≤ y → R E κ d m (pc + 3) L st q o2) : R E κ d m pc L (.int y :: .int x :: st) q (if x ≤ y then o1 else o2) := r_ite (fun h => r_S hd rfl (by unfold pS; dsimp only; rw [ht]; show some (pbr .le _ _ _ _, _, _) = _; unfold pbr; dsimp only; rw [if_pos h]) (k1 h)) (fun h => r_S hd rfl (by unfold pS; dsimp only; rw [ht]; show some (pbr .le _ _ _ _, _, _) = _; unfold pbr; dsimp only; rw [if_neg h]) (k2 h))
def swj (i : Instr) (pc : Nat) (v : Int) : Option Nat := match i with
  | .tableswitch d lo hi offs => if v < lo ∨ hi < v then tgt pc d else (offs[(v - lo).toNat]?).bind (tgt pc)
  | .lookupswitch d ps => if (ps.toList.zip (ps.toList.drop 1)).all (fun (a, next) => a.1 < next.1) = true then tgt pc (Op.lookupswitch.offset ps.toList d v) else none
  | _ => none
theorem r_jmp {i : Instr} {len t : Nat} {x : Int32} (hd : decode (mB m) pc = .ok (i, len)) (hl : lenOk i len = true) (hj : swj i pc x.toInt = some t) (k : R E κ d m t L st q o) : R E κ d m pc L (.int x :: st) q o := by
  cases i
  case tableswitch dd lo hi offs =>
    refine r_S hd hl ?_ k
    unfold swj at hj
    unfold pS
    dsimp only at hj ⊢
    split at hj
    next h =>
      rw [if_pos h, hj]
      rfl
    next h =>
      rw [if_neg h]
      obtain ⟨off, h1, h2⟩ := Option.bind_eq_some_iff.mp hj
      rw [h1, Option.bind_some, h2]
      rfl
  case lookupswitch dd ps =>
    refine r_S hd hl ?_ k
    unfold swj at hj
    unfold pS
    dsimp only at hj ⊢
    split at hj
    next h =>
      rw [if_pos h, hj]
      rfl
    next h => cases hj
  all_goals (have h2 : (none : Option Nat) = some t := hj; cases h2)
theorem r_sw1 {x : Int32} {j : Int} {t : List (Int × Option ρ)} {od : Option ρ} (k1 : x.toInt = j → R E κ d m pc L st q o1) (k2 : ¬ x.toInt = j → R E κ d m pc L st q (sw x t od)) : R E κ d m pc L st q (sw x ((j, o1) :: t) od) := r_ite k1 k2
/-! fields and rows of the fixed cells -/
def FF (E : EE) (c k o f kd : Nat) : Prop := ∃ ci, fl c k = some (ci, f) ∧ o < pnc E.2.2 ∧ ply E.2.2 o = (0, ci) ∧ f < nF ci ∧ fk ci f = kd ∧ ffin ci f = false
def FA (E : EE) (c k o j : Nat) : Prop := ∃ ci f, fl c k = some (ci, f) ∧ o < pnc E.2.2 ∧ ply E.2.2 o = (0, ci) ∧ f < nF ci ∧ fk ci f = 0 ∧ prv E.2.2 o f = some j
def AR (E : EE) (o t n : Nat) : Prop := o < pnc E.2.2 ∧ ply E.2.2 o = (t, n)
def OB (E : EE) (o ci : Nat) : Prop := o < pnc E.2.2 ∧ ply E.2.2 o = (0, ci)
theorem r_getI {k ob f kd : Nat} (hd : decode (mB m) pc = .ok (.getfield k, 3)) (h : FF E (mC m) k ob f kd) (hk : kd = 1 ∨ kd = 3) (kk : R E κ d m (pc + 3) L (.int (q.1 ob f) :: st) q o) : R E κ d m pc L (.ref ob :: st) q o := by
  obtain ⟨ci, h1, h2, h3, h4, h5, h6⟩ := h
  refine r_S hd rfl (q2 := q) (show oGet (mC m) k (.ref ob :: st) (pc + 3) (mk E q) = _ from ?_) kk
  unfold oGet
  dsimp only
  rw [h1]
  dsimp only
  rw [if_pos ⟨h2, h3, h4⟩]
  have e : fval (mk E q) ci ob f = .int (q.1 ob f) := by
    unfold fval
    rw [h5]
    rcases hk with rfl | rfl <;> rfl
  rw [e]
theorem r_getL {k ob f : Nat} (hd : decode (mB m) pc = .ok (.getfield k, 3)) (h : FF E (mC m) k ob f 2) (kk : R E κ d m (pc + 3) L (.long (q.2 ob f) :: st) q o) : R E κ d m pc L (.ref ob :: st) q o := by
  obtain ⟨ci, h1, h2, h3, h4, h5, h6⟩ := h
  refine r_S hd rfl (q2 := q) (show oGet (mC m) k (.ref ob :: st) (pc + 3) (mk E q) = _ from ?_) kk
  unfold oGet
  dsimp only
  rw [h1]
  dsimp only
  rw [if_pos ⟨h2, h3, h4⟩]
  have e : fval (mk E q) ci ob f = .long (q.2 ob f) := by
    unfold fval
    rw [h5]
    rfl
  rw [e]
theorem r_getA {k ob j : Nat} (hd : decode (mB m) pc = .ok (.getfield k, 3)) (h : FA E (mC m) k ob j) (kk : R E κ d m (pc + 3) L (.ref j :: st) q o) : R E κ d m pc L (.ref ob :: st) q o := by
  obtain ⟨ci, f, h1, h2, h3, h4, h5, h6⟩ := h
  refine r_S hd rfl (q2 := q) (show oGet (mC m) k (.ref ob :: st) (pc + 3) (mk E q) = _ from ?_) kk
  unfold oGet
  dsimp only
  rw [h1]
  dsimp only
  rw [if_pos ⟨h2, h3, h4⟩]
  have e : fval (mk E q) ci ob f = .ref j := by
    unfold fval
    rw [h5]
    show (match prv E.2.2 ob f with | some j => Value.ref j | none => Value.null) = _
    rw [h6]
  rw [e]
theorem r_putI {k ob f : Nat} {x : Int32} (hd : decode (mB m) pc = .ok (.putfield k, 3)) (h : FF E (mC m) k ob f 1) (kk : R E κ d m (pc + 3) L st (sI q ob f x) o) : R E κ d m pc L (.int x :: .ref ob :: st) q o := by
  obtain ⟨ci, h1, h2, h3, h4, h5, h6⟩ := h
  refine r_S hd rfl (q2 := sI q ob f x) (show oPut (isIni m) (mC m) k (.int x :: .ref ob :: st) (pc + 3) (mk E q) = _ from ?_) kk
  unfold oPut
  dsimp only
  rw [h1]
  dsimp only
  rw [if_pos ⟨h2, h3, h4, fun h9 => by rw [h6] at h9; cases h9⟩, h5]
  rfl
theorem r_putZ {k ob f : Nat} {x : Int32} (hd : decode (mB m) pc = .ok (.putfield k, 3)) (h : FF E (mC m) k ob f 3) (kk : R E κ d m (pc + 3) L st (sI q ob f x) o) : R E κ d m pc L (.int x :: .ref ob :: st) q (if x = 0 ∨ x = 1 then o else none) := r_chk fun hx => by
  obtain ⟨ci, h1, h2, h3, h4, h5, h6⟩ := h
  refine r_S hd rfl (q2 := sI q ob f x) (show oPut (isIni m) (mC m) k (.int x :: .ref ob :: st) (pc + 3) (mk E q) = _ from ?_) kk
  unfold oPut
  dsimp only
  rw [h1]
  dsimp only
  rw [if_pos ⟨h2, h3, h4, fun h9 => by rw [h6] at h9; cases h9⟩, h5]
  unfold pval
  dsimp only
  rw [if_pos (Or.inr ⟨rfl, hx⟩)]
  rfl
theorem r_putL {k ob f : Nat} {x : Int64} (hd : decode (mB m) pc = .ok (.putfield k, 3)) (h : FF E (mC m) k ob f 2) (kk : R E κ d m (pc + 3) L st (sL q ob f x) o) : R E κ d m pc L (.long x :: .ref ob :: st) q o := by
  obtain ⟨ci, h1, h2, h3, h4, h5, h6⟩ := h
  refine r_S hd rfl (q2 := sL q ob f x) (show oPut (isIni m) (mC m) k (.long x :: .ref ob :: st) (pc + 3) (mk E q) = _ from ?_) kk
  unfold oPut
  dsimp only
  rw [h1]
  dsimp only
  rw [if_pos ⟨h2, h3, h4, fun h9 => by rw [h6] at h9; cases h9⟩, h5]
  rfl
theorem r_gets {k j : Nat} (hd : decode (mB m) pc = .ok (.getstatic k, 3)) (h : sk (mC m) k = some j) (kk : R E κ d m (pc + 3) L (.retAddr j :: st) q o) : R E κ d m pc L st q o := r_S hd rfl (show Option.map _ (sk (mC m) k) = _ by rw [h]; rfl) kk
theorem r_iaload {ob n : Nat} {i : Int32} (hd : decode (mB m) pc = .ok (.iaload, 1)) (h : AR E ob 1 n) (kk : R E κ d m (pc + 1) L (.int (q.1 ob i.toNatClampNeg) :: st) q o) : R E κ d m pc L (.int i :: .ref ob :: st) q (if vin i n then o else none) := r_chk fun hi => by
  refine r_S hd rfl (q2 := q) (show oLdI (lam E) 1 (.int i :: .ref ob :: st) (pc + 1) (mk E q) = _ from ?_) kk
  unfold oLdI
  dsimp only
  have e : ply (mk E q) ob = (1, n) := h.2
  rw [if_pos ⟨h.1, by rw [e], by rw [e]; exact hi⟩]
  rfl
theorem r_baload {ob n : Nat} {i : Int32} (hd : decode (mB m) pc = .ok (.baload, 1)) (h : AR E ob 2 n) (kk : R E κ d m (pc + 1) L (.int (q.1 ob i.toNatClampNeg) :: st) q o) : R E κ d m pc L (.int i :: .ref ob :: st) q (if vin i n then o else none) := r_chk fun hi => by
  refine r_S hd rfl (q2 := q) (show oLdI (lam E) 2 (.int i :: .ref ob :: st) (pc + 1) (mk E q) = _ from ?_) kk
  unfold oLdI
  dsimp only
  have e : ply (mk E q) ob = (2, n) := h.2
  rw [if_pos ⟨h.1, by rw [e], by rw [e]; exact hi⟩]
  rfl
theorem r_saload {ob n : Nat} {i : Int32} (hd : decode (mB m) pc = .ok (.saload, 1)) (h : AR E ob 3 n) (kk : R E κ d m (pc + 1) L (.int (q.1 ob i.toNatClampNeg) :: st) q o) : R E κ d m pc L (.int i :: .ref ob :: st) q (if vin i n then o else none) := r_chk fun hi => by
  refine r_S hd rfl (q2 := q) (show oLdI (lam E) 3 (.int i :: .ref ob :: st) (pc + 1) (mk E q) = _ from ?_) kk
  unfold oLdI
  dsimp only
  have e : ply (mk E q) ob = (3, n) := h.2
  rw [if_pos ⟨h.1, by rw [e], by rw [e]; exact hi⟩]
  rfl
theorem r_laload {ob n : Nat} {i : Int32} (hd : decode (mB m) pc = .ok (.laload, 1)) (h : AR E ob 4 n) (kk : R E κ d m (pc + 1) L (.long (q.2 ob i.toNatClampNeg) :: st) q o) : R E κ d m pc L (.int i :: .ref ob :: st) q (if vin i n then o else none) := r_chk fun hi => by
  refine r_S hd rfl (q2 := q) (show oLdL (.int i :: .ref ob :: st) (pc + 1) (mk E q) = _ from ?_) kk
  unfold oLdL
  dsimp only
  have e : ply (mk E q) ob = (4, n) := h.2
  rw [if_pos ⟨h.1, by rw [e], by rw [e]; exact hi⟩]
  rfl
theorem r_aaload {ob t n b0 : Nat} {i : Int32} (hd : decode (mB m) pc = .ok (.aaload, 1)) (h : AR E ob t n) (ht : t = 5 ∨ t = 6) (hr : ∀ j, j < n → prv E.2.2 ob j = some (b0 + j)) (kk : vin i n → R E κ d m (pc + 1) L (.ref (b0 + i.toNatClampNeg) :: st) q o) : R E κ d m pc L (.int i :: .ref ob :: st) q (if vin i n then o else none) := r_chk fun hi => by
  refine r_S hd rfl (q2 := q) (show oLdA (.int i :: .ref ob :: st) (pc + 1) (mk E q) = _ from ?_) (kk hi)
  unfold oLdA
  dsimp only
  have e : ply (mk E q) ob = (t, n) := h.2
  rw [if_pos ⟨h.1, by rw [e]; exact ht, by rw [e]; exact hi⟩, show prv (mk E q) ob i.toNatClampNeg = some (b0 + i.toNatClampNeg) from hr _ (vin_lt hi)]
  rfl
theorem r_roaload {j : Nat} {i : Int32} (hd : decode (mB m) pc = .ok (.iaload, 1)) (hj : j < 4) (kk : R E κ d m (pc + 1) L (.int ((lam E).2.2 j i.toNatClampNeg) :: st) q o) : R E κ d m pc L (.int i :: .retAddr j :: st) q (if vin i ((lam E).2.1 j) then o else none) := r_chk fun hi => by
  refine r_S hd rfl (q2 := q) (show oLdI (lam E) 1 (.int i :: .retAddr j :: st) (pc + 1) (mk E q) = _ from ?_) kk
  unfold oLdI
  dsimp only
  rw [if_pos ⟨rfl, hj, hi⟩]
theorem r_len {ob t n : Nat} {v : Int32} (hd : decode (mB m) pc = .ok (.arraylength, 1)) (h : AR E ob t n) (ht : 1 ≤ t ∧ t ≤ 6) (hv : Int32.ofNat n = v) (kk : R E κ d m (pc + 1) L (.int v :: st) q o) : R E κ d m pc L (.ref ob :: st) q o := by
  refine r_S hd rfl (q2 := q) (show oLen (lam E) (.ref ob :: st) (pc + 1) (mk E q) = _ from ?_) kk
  unfold oLen
  dsimp only
  have e : ply (mk E q) ob = (t, n) := h.2
  rw [if_pos ⟨h.1, by rw [e]; exact ht.1, by rw [e]; exact ht.2⟩, e]
  dsimp only
  rw [hv]
theorem r_rolen {j : Nat} (hd : decode (mB m) pc = .ok (.arraylength, 1)) (hj : j < 4) (kk : R E κ d m (pc + 1) L (.int (Int32.ofNat ((lam E).2.1 j)) :: st) q o) : R E κ d m pc L (.retAddr j :: st) q o := by
  refine r_S hd rfl (q2 := q) (show oLen (lam E) (.retAddr j :: st) (pc + 1) (mk E q) = _ from ?_) kk
  unfold oLen
  dsimp only
  rw [if_pos (show j < (lam E).1 from hj)]
theorem r_iastore {ob n : Nat} {i x : Int32} (hd : decode (mB m) pc = .ok (.iastore, 1)) (h : AR E ob 1 n) (kk : R E κ d m (pc + 1) L st (sI q ob i.toNatClampNeg (x)) o) : R E κ d m pc L (.int x :: .int i :: .ref ob :: st) q (if vin i n then o else none) := r_chk fun hi => by
  refine r_S hd rfl (q2 := sI q ob i.toNatClampNeg (x)) (show oStI 1 (fun x => x) (.int x :: .int i :: .ref ob :: st) (pc + 1) (mk E q) = _ from ?_) kk
  unfold oStI
  dsimp only
  have e : ply (mk E q) ob = (1, n) := h.2
  rw [if_pos ⟨h.1, by rw [e], by rw [e]; exact hi⟩]
  rfl
theorem r_bastore {ob n : Nat} {i x : Int32} (hd : decode (mB m) pc = .ok (.bastore, 1)) (h : AR E ob 2 n) (kk : R E κ d m (pc + 1) L st (sI q ob i.toNatClampNeg (x.toInt8.toInt32)) o) : R E κ d m pc L (.int x :: .int i :: .ref ob :: st) q (if vin i n then o else none) := r_chk fun hi => by
  refine r_S hd rfl (q2 := sI q ob i.toNatClampNeg (x.toInt8.toInt32)) (show oStI 2 (fun x => x.toInt8.toInt32) (.int x :: .int i :: .ref ob :: st) (pc + 1) (mk E q) = _ from ?_) kk
  unfold oStI
  dsimp only
  have e : ply (mk E q) ob = (2, n) := h.2
  rw [if_pos ⟨h.1, by rw [e], by rw [e]; exact hi⟩]
  rfl
theorem r_sastore {ob n : Nat} {i x : Int32} (hd : decode (mB m) pc = .ok (.sastore, 1)) (h : AR E ob 3 n) (kk : R E κ d m (pc + 1) L st (sI q ob i.toNatClampNeg (x.toInt16.toInt32)) o) : R E κ d m pc L (.int x :: .int i :: .ref ob :: st) q (if vin i n then o else none) := r_chk fun hi => by
  refine r_S hd rfl (q2 := sI q ob i.toNatClampNeg (x.toInt16.toInt32)) (show oStI 3 (fun x => x.toInt16.toInt32) (.int x :: .int i :: .ref ob :: st) (pc + 1) (mk E q) = _ from ?_) kk
  unfold oStI
  dsimp only
  have e : ply (mk E q) ob = (3, n) := h.2
  rw [if_pos ⟨h.1, by rw [e], by rw [e]; exact hi⟩]
  rfl
theorem r_lastore {ob n : Nat} {i : Int32} {x : Int64} (hd : decode (mB m) pc = .ok (.lastore, 1)) (h : AR E ob 4 n) (kk : R E κ d m (pc + 1) L st (sL q ob i.toNatClampNeg x) o) : R E κ d m pc L (.long x :: .int i :: .ref ob :: st) q (if vin i n then o else none) := r_chk fun hi => by
  refine r_S hd rfl (q2 := sL q ob i.toNatClampNeg x) (show oStL (.long x :: .int i :: .ref ob :: st) (pc + 1) (mk E q) = _ from ?_) kk
  unfold oStL
  dsimp only
  have e : ply (mk E q) ob = (4, n) := h.2
  rw [if_pos ⟨h.1, by rw [e], by rw [e]; exact hi⟩]
  rfl
/-! returns -/
theorem r_ireturn {x : Int32} {r : ρ} (hd : decode (mB m) pc = .ok (.ireturn, 1)) (hok : okRet (mR m) (some (.int x)) = true) (hκ : κ r = (some (.int x), mk E q)) : R E κ d m pc L [.int x] q (some r) := fun r' hr => by
  cases hr
  exact ⟨1, (prun_R hd rfl rfl hok).trans (by rw [hκ])⟩
theorem r_zreturn {x : Int32} {r : ρ} (hd : decode (mB m) pc = .ok (.ireturn, 1)) (hm : mR m = some .boolean) (hκ : κ r = (some (.int x), mk E q)) : R E κ d m pc L [.int x] q (if x = 0 ∨ x = 1 then some r else none) := r_chk fun hx => r_ireturn hd (by rw [hm]; rcases hx with rfl | rfl <;> rfl) hκ
theorem r_lreturn {x : Int64} {r : ρ} (hd : decode (mB m) pc = .ok (.lreturn, 1)) (hok : okRet (mR m) (some (.long x)) = true) (hκ : κ r = (some (.long x), mk E q)) : R E κ d m pc L [.long x] q (some r) := fun r' hr => by
  cases hr
  exact ⟨1, (prun_R hd rfl rfl hok).trans (by rw [hκ])⟩
theorem r_areturn {x : Nat} {r : ρ} (hd : decode (mB m) pc = .ok (.areturn, 1)) (hok : okRet (mR m) (some (.ref x)) = true) (hκ : κ r = (some (.ref x), mk E q)) : R E κ d m pc L [.ref x] q (some r) := fun r' hr => by
  cases hr
  exact ⟨1, (prun_R hd rfl rfl hok).trans (by rw [hκ])⟩
theorem r_return {r : ρ} (hd : decode (mB m) pc = .ok (.return_, 1)) (hok : okRet (mR m) none = true) (hκ : κ r = (none, mk E q)) : R E κ d m pc L [] q (some r) := fun r' hr => by
  cases hr
  exact ⟨1, (prun_R hd rfl rfl hok).trans (by rw [hκ])⟩
/-! calls -/
def okc (k y : Nat) (as rest : List Value) : Bool := kdOk k y && (Nat.ble (catS rest) 8 && Nat.ble (catS as) (mL y))
theorem vok_v {k y ob ci : Nat} {as : List Value} (h : OB E ob ci) (hc : mC y = ci) : vOk k y (.ref ob :: as) (mk E q) = true := by
  unfold vOk
  cases e : Nat.beq k 2 with
  | true => rfl
  | false =>
    show (Nat.blt ob (pnc E.2.2) && (Nat.beq (ply E.2.2 ob).1 0 && Nat.beq (ply E.2.2 ob).2 (mC y))) = true
    rw [h.2, hc]
    have : Nat.blt ob (pnc E.2.2) = true := Nat.ble_eq_true_of_le h.1
    rw [this]
    show (true && (true && Nat.beq ci ci)) = true
    rw [Nat.beq_refl]
    rfl
theorem vok_s {y : Nat} {as : List Value} : vOk 2 y as (mk E q) = true := rfl
theorem r_call {ρ1 : Type} {κ1 : ρ1 → Option Value × PSt} {i : Instr} {k idx y : Nat} {as rest : List Value} {L0 : PL} {oc : Option ρ1} {f : ρ1 → Option ρ} (hd : decode (mB m) pc = .ok (i, 3)) (hl : lenOk i 3 = true) (hc : callOf i = some (k, idx)) (hca : ca (mC m) idx = some y) (hp : popN (nA y) st [] = some (as, rest)) (hok : okc k y as rest = true) (hvo : vOk k y as (mk E q) = true) (hL : entL as = L0)
    (hcal : R E κ1 d y 0 L0 [] q oc) (kk : ∀ r, ∃ v qr, κ1 r = (v, mk E qr) ∧ R E κ (d + 1) m (pc + 3) L (v.toList ++ rest) qr (f r)) : R E κ (d + 1) m pc L st q (oc.bind f) := fun r hr => by
  obtain ⟨r1, h1, h2⟩ := Option.bind_eq_some_iff.mp hr
  obtain ⟨n1, hn1⟩ := hcal r1 h1
  obtain ⟨v, qr, e, hk⟩ := kk r1
  obtain ⟨n2, hn2⟩ := hk r h2
  unfold okc at hok
  simp only [Bool.and_eq_true] at hok
  rw [e] at hn1
  subst hL
  refine ⟨max n1 n2 + 1, ?_⟩
  rw [prun_C hd hl hc hca hok.1 hp ⟨Nat.le_of_ble_eq_true hok.2.1, Nat.le_of_ble_eq_true hok.2.2, hvo⟩ (prun_mono _ _ (Or.inr rfl) _ _ _ _ _ _ _ _ hn1 _ _ _ (Nat.le_max_left _ _) (Nat.le_refl _) (fun _ _ h => h))]
  exact prun_mono _ _ (Or.inr rfl) _ _ _ _ _ _ _ _ hn2 _ _ _ (Nat.le_max_right _ _) (Nat.le_refl _) (fun _ _ h => h)
theorem r_callI {i : Instr} {k idx y : Nat} {as rest : List Value} {L0 : PL} {oc : Option (Int32 × SS)} {f : Int32 × SS → Option ρ} (hd : decode (mB m) pc = .ok (i, 3)) (hl : lenOk i 3 = true) (hc : callOf i = some (k, idx)) (hca : ca (mC m) idx = some y) (hp : popN (nA y) st [] = some (as, rest)) (hok : okc k y as rest = true) (hvo : vOk k y as (mk E q) = true) (hL : entL as = L0)
    (hcal : R E (κI E) d y 0 L0 [] q oc) (kk : ∀ r, R E κ (d + 1) m (pc + 3) L (.int r.1 :: rest) r.2 (f r)) : R E κ (d + 1) m pc L st q (oc.bind f) := r_call hd hl hc hca hp hok hvo hL hcal (fun r => ⟨some (.int r.1), r.2, rfl, kk r⟩)
theorem r_callL {i : Instr} {k idx y : Nat} {as rest : List Value} {L0 : PL} {oc : Option (Int64 × SS)} {f : Int64 × SS → Option ρ} (hd : decode (mB m) pc = .ok (i, 3)) (hl : lenOk i 3 = true) (hc : callOf i = some (k, idx)) (hca : ca (mC m) idx = some y) (hp : popN (nA y) st [] = some (as, rest)) (hok : okc k y as rest = true) (hvo : vOk k y as (mk E q) = true) (hL : entL as = L0)
    (hcal : R E (κL E) d y 0 L0 [] q oc) (kk : ∀ r, R E κ (d + 1) m (pc + 3) L (.long r.1 :: rest) r.2 (f r)) : R E κ (d + 1) m pc L st q (oc.bind f) := r_call hd hl hc hca hp hok hvo hL hcal (fun r => ⟨some (.long r.1), r.2, rfl, kk r⟩)
theorem r_callV {i : Instr} {k idx y : Nat} {as rest : List Value} {L0 : PL} {oc : Option (SS)} {f : SS → Option ρ} (hd : decode (mB m) pc = .ok (i, 3)) (hl : lenOk i 3 = true) (hc : callOf i = some (k, idx)) (hca : ca (mC m) idx = some y) (hp : popN (nA y) st [] = some (as, rest)) (hok : okc k y as rest = true) (hvo : vOk k y as (mk E q) = true) (hL : entL as = L0)
    (hcal : R E (κV E) d y 0 L0 [] q oc) (kk : ∀ r, R E κ (d + 1) m (pc + 3) L (rest) r (f r)) : R E κ (d + 1) m pc L st q (oc.bind f) := r_call hd hl hc hca hp hok hvo hL hcal (fun r => ⟨none, r, rfl, kk r⟩)
theorem r_calli {i : Instr} {k idx y : Nat} {as rest : List Value} {L0 : PL} {oc : Option (Int32)} {f : Int32 → Option ρ} (hd : decode (mB m) pc = .ok (i, 3)) (hl : lenOk i 3 = true) (hc : callOf i = some (k, idx)) (hca : ca (mC m) idx = some y) (hp : popN (nA y) st [] = some (as, rest)) (hok : okc k y as rest = true) (hvo : vOk k y as (mk E q) = true) (hL : entL as = L0)
    (hcal : R E (κi E q) d y 0 L0 [] q oc) (kk : ∀ r, R E κ (d + 1) m (pc + 3) L (.int r :: rest) q (f r)) : R E κ (d + 1) m pc L st q (oc.bind f) := r_call hd hl hc hca hp hok hvo hL hcal (fun r => ⟨some (.int r), q, rfl, kk r⟩)
theorem r_calll {i : Instr} {k idx y : Nat} {as rest : List Value} {L0 : PL} {oc : Option (Int64)} {f : Int64 → Option ρ} (hd : decode (mB m) pc = .ok (i, 3)) (hl : lenOk i 3 = true) (hc : callOf i = some (k, idx)) (hca : ca (mC m) idx = some y) (hp : popN (nA y) st [] = some (as, rest)) (hok : okc k y as rest = true) (hvo : vOk k y as (mk E q) = true) (hL : entL as = L0)
    (hcal : R E (κl E q) d y 0 L0 [] q oc) (kk : ∀ r, R E κ (d + 1) m (pc + 3) L (.long r :: rest) q (f r)) : R E κ (d + 1) m pc L st q (oc.bind f) := r_call hd hl hc hca hp hok hvo hL hcal (fun r => ⟨some (.long r), q, rfl, kk r⟩)
theorem r_callv {i : Instr} {k idx y : Nat} {as rest : List Value} {L0 : PL} {oc : Option (Unit)} {f : Unit → Option ρ} (hd : decode (mB m) pc = .ok (i, 3)) (hl : lenOk i 3 = true) (hc : callOf i = some (k, idx)) (hca : ca (mC m) idx = some y) (hp : popN (nA y) st [] = some (as, rest)) (hok : okc k y as rest = true) (hvo : vOk k y as (mk E q) = true) (hL : entL as = L0)
    (hcal : R E (κv E q) d y 0 L0 [] q oc) (kk : ∀ r, R E κ (d + 1) m (pc + 3) L (rest) q (f r)) : R E κ (d + 1) m pc L st q (oc.bind f) := r_call hd hl hc hca hp hok hvo hL hcal (fun r => ⟨none, q, rfl, kk r⟩)
theorem r_callA {i : Instr} {j k idx y : Nat} {as rest : List Value} {L0 : PL} {oc : Option SS} {f : SS → Option ρ} (hd : decode (mB m) pc = .ok (i, 3)) (hl : lenOk i 3 = true) (hc : callOf i = some (k, idx)) (hca : ca (mC m) idx = some y) (hp : popN (nA y) st [] = some (as, rest)) (hok : okc k y as rest = true) (hvo : vOk k y as (mk E q) = true) (hL : entL as = L0)
    (hcal : R E (κA E j) d y 0 L0 [] q oc) (kk : ∀ r, R E κ (d + 1) m (pc + 3) L (.ref j :: rest) r (f r)) : R E κ (d + 1) m pc L st q (oc.bind f) := r_call hd hl hc hca hp hok hvo hL hcal (fun r => ⟨some (.ref j), r, rfl, kk r⟩)
theorem r_calla {i : Instr} {j k idx y : Nat} {as rest : List Value} {L0 : PL} {oc : Option Unit} {f : Unit → Option ρ} (hd : decode (mB m) pc = .ok (i, 3)) (hl : lenOk i 3 = true) (hc : callOf i = some (k, idx)) (hca : ca (mC m) idx = some y) (hp : popN (nA y) st [] = some (as, rest)) (hok : okc k y as rest = true) (hvo : vOk k y as (mk E q) = true) (hL : entL as = L0)
    (hcal : R E (κa E j q) d y 0 L0 [] q oc) (kk : ∀ r, R E κ (d + 1) m (pc + 3) L (.ref j :: rest) q (f r)) : R E κ (d + 1) m pc L st q (oc.bind f) := r_call hd hl hc hca hp hok hvo hL hcal (fun r => ⟨some (.ref j), q, rfl, kk r⟩)
theorem r_mm {j idx : Nat} {x y v : Int32} (hd : decode (mB m) pc = .ok (.invokestatic idx, 3)) (hca : ca (mC m) idx = none ∧ oi (mC m) idx = false ∧ ac (mC m) idx = false ∧ mm (mC m) idx = some j) (hcr : Nat.ble (catS st) 8 = true) (hv : (bif Nat.beq j 0 then jmax x y else jmin x y) = v) (kk : R E κ (d + 1) m (pc + 3) L (.int v :: st) q o) : R E κ (d + 1) m pc L (.int y :: .int x :: st) q o := fun r hr => by
  obtain ⟨n, hn⟩ := kk r hr
  refine ⟨n + 1, ?_⟩
  obtain ⟨h1, h2, h3, h4⟩ := hca
  rw [prun_M hd rfl rfl h1 (by rw [h2]; intro h; cases h.2) (by rw [h3]; intro h; cases h.2) rfl h4 (st1 := .int v :: st)]
  · exact hn
  · unfold oMM
    dsimp only
    rw [if_pos (Nat.le_of_ble_eq_true hcr), ← hv]
    cases Nat.beq j 0 <;> rfl
abbrev cpok (n0 n1 : Nat) (sp dp n : Int32) : Prop := ¬ sp < 0 ∧ ¬ dp < 0 ∧ ¬ n < 0 ∧ sp.toNatClampNeg + n.toNatClampNeg ≤ n0 ∧ dp.toNatClampNeg + n.toNatClampNeg ≤ n1
theorem r_cpyI {idx a b n0 n1 : Nat} {sp dp n : Int32} (hd : decode (mB m) pc = .ok (.invokestatic idx, 3)) (hca : ca (mC m) idx = none ∧ oi (mC m) idx = false ∧ ac (mC m) idx = true) (ha : AR E a 1 n0) (hb : AR E b 1 n1) (hcr : Nat.ble (catS st) 8 = true)
    (kk : R E κ (d + 1) m (pc + 3) L st (sR q b (va_cpy (q.1 a) (q.1 b) sp.toNatClampNeg dp.toNatClampNeg n.toNatClampNeg)) o) : R E κ (d + 1) m pc L (.int n :: .int dp :: .ref b :: .int sp :: .ref a :: st) q (if cpok n0 n1 sp dp n then o else none) := r_chk fun hh r hr => by
  obtain ⟨n9, hn⟩ := kk r hr
  refine ⟨n9 + 1, ?_⟩
  obtain ⟨h1, h2, h3⟩ := hca
  rw [prun_A hd rfl rfl h1 (by rw [h2]; intro h; cases h.2) ⟨rfl, h3⟩ (rest := st) (σ1 := mk E (sR q b (va_cpy (q.1 a) (q.1 b) sp.toNatClampNeg dp.toNatClampNeg n.toNatClampNeg)))]
  · exact hn
  · have e1 : ply (mk E q) a = (1, n0) := ha.2
    have e2 : ply (mk E q) b = (1, n1) := hb.2
    unfold oCpy
    dsimp only
    rw [if_pos ⟨ha.1, hb.1, by rw [e1, e2], hh.1, hh.2.1, hh.2.2.1, by rw [e1]; exact hh.2.2.2.1, by rw [e2]; exact hh.2.2.2.2, Nat.le_of_ble_eq_true hcr⟩, if_pos (by rw [e1])]
    rfl
theorem r_cpyL {idx a b n0 n1 : Nat} {sp dp n : Int32} (hd : decode (mB m) pc = .ok (.invokestatic idx, 3)) (hca : ca (mC m) idx = none ∧ oi (mC m) idx = false ∧ ac (mC m) idx = true) (ha : AR E a 4 n0) (hb : AR E b 4 n1) (hcr : Nat.ble (catS st) 8 = true)
    (kk : R E κ (d + 1) m (pc + 3) L st (sRL q b (va_cpy (q.2 a) (q.2 b) sp.toNatClampNeg dp.toNatClampNeg n.toNatClampNeg)) o) : R E κ (d + 1) m pc L (.int n :: .int dp :: .ref b :: .int sp :: .ref a :: st) q (if cpok n0 n1 sp dp n then o else none) := r_chk fun hh r hr => by
  obtain ⟨n9, hn⟩ := kk r hr
  refine ⟨n9 + 1, ?_⟩
  obtain ⟨h1, h2, h3⟩ := hca
  rw [prun_A hd rfl rfl h1 (by rw [h2]; intro h; cases h.2) ⟨rfl, h3⟩ (rest := st) (σ1 := mk E (sRL q b (va_cpy (q.2 a) (q.2 b) sp.toNatClampNeg dp.toNatClampNeg n.toNatClampNeg)))]
  · exact hn
  · have e1 : ply (mk E q) a = (4, n0) := ha.2
    have e2 : ply (mk E q) b = (4, n1) := hb.2
    unfold oCpy
    dsimp only
    rw [if_pos ⟨ha.1, hb.1, by rw [e1, e2], hh.1, hh.2.1, hh.2.2.1, by rw [e1]; exact hh.2.2.2.1, by rw [e2]; exact hh.2.2.2.2, Nat.le_of_ble_eq_true hcr⟩, if_neg (by rw [e1]; show ¬ (4 : Nat) = 1; decide), if_pos (by rw [e1])]
    rfl
end ROWS

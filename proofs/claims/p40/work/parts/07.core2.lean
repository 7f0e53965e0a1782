/-! ===== THE MACHINE DOES WHAT THE PURE MACHINE SAYS: worlds, contexts, one instruction ===== -/
def cv (b0 : Nat) (tt : Nat → Nat) : Value → Value
  | .ref k => .ref (b0 + k)
  | .retAddr k => .ref (tt k)
  | v => v
theorem cv_cat {b0 : Nat} {tt : Nat → Nat} (v : Value) : (cv b0 tt v).category = v.category := by cases v <;> rfl
def arc (b0 : Nat) (σ : PSt) (t k : Nat) : (Nat → Int32) ⊕ (Nat → Int64) ⊕ (Nat → UInt32) ⊕ (Nat → UInt64) ⊕ (Nat → Option Nat) :=
  if t = 4 then .inr (.inl (plv σ k)) else if 5 ≤ t then .inr (.inr (.inr (.inr (fun i => (prv σ k i).map (fun j => b0 + j))))) else .inl (piv σ k)
def fls (b0 : Nat) (tt : Nat → Nat) (σ : PSt) (ci k : Nat) : List Value := (List.range (nF ci)).map fun f => cv b0 tt (fval σ ci k f)
def ent (dA : Nat → ClassId) (b0 : Nat) (tt : Nat → Nat) (σ : PSt) (k : Nat) : va_E :=
  if (ply σ k).1 = 0 then .inr ((ply σ k).2, fls b0 tt σ (ply σ k).2 k) else .inl (dA (ply σ k).1, (ply σ k).2, arc b0 σ (ply σ k).1 k)
theorem ent_o {dA : Nat → ClassId} {b0 : Nat} {tt : Nat → Nat} {σ : PSt} {k ci : Nat} (h : ply σ k = (0, ci)) : ent dA b0 tt σ k = .inr (ci, fls b0 tt σ ci k) := by
  unfold ent
  rw [h]
  rfl
theorem ent_a {dA : Nat → ClassId} {b0 : Nat} {tt : Nat → Nat} {σ : PSt} {k t : Nat} (h : (ply σ k).1 = t) (h0 : t ≠ 0) : ent dA b0 tt σ k = .inl (dA t, (ply σ k).2, arc b0 σ t k) := by
  unfold ent
  rw [if_neg (by rw [h]; exact h0), h]
theorem ent_congr {dA : Nat → ClassId} {b0 : Nat} {tt : Nat → Nat} {σ τ : PSt} {k : Nat} (h1 : ply τ k = ply σ k) (h2 : prv τ k = prv σ k) (h3 : piv τ k = piv σ k) (h4 : plv τ k = plv σ k) : ent dA b0 tt τ k = ent dA b0 tt σ k := by
  unfold ent fls arc fval
  rw [h1, h2, h3, h4]
theorem fls_get {b0 : Nat} {tt : Nat → Nat} {σ : PSt} {ci k f : Nat} (hf : f < nF ci) : (fls b0 tt σ ci k)[f]? = some (cv b0 tt (fval σ ci k f)) := by
  unfold fls
  rw [List.getElem?_map, List.getElem?_range hf]
  rfl
/-- the heap holds a state, from b0 on -/
def Hd (D : va_G) (dA : Nat → ClassId) (b0 : Nat) (tt : Nat → Nat) (σ : PSt) (H : Heap) : Prop := H.size = b0 + pnc σ ∧ ∀ k, k < pnc σ → va_at D vwCl (b0 + k, ent dA b0 tt σ k) H
theorem Hd.upd {D : va_G} {dA : Nat → ClassId} {b0 : Nat} {tt : Nat → Nat} {σ τ : PSt} {H H1 : Heap} {k : Nat} (h : Hd D dA b0 tt σ H) (hn : pnc τ = pnc σ) (hz : H1.size = H.size) (oq : ∀ q : Nat, q ≠ b0 + k → H1[q]? = H[q]?) (he : ∀ j, j ≠ k → ent dA b0 tt τ j = ent dA b0 tt σ j)
    (h1 : va_at D vwCl (b0 + k, ent dA b0 tt τ k) H1) : Hd D dA b0 tt τ H1 := by
  refine ⟨by rw [hz, hn]; exact h.1, fun j hj => ?_⟩
  by_cases hjk : j = k
  · subst hjk; exact h1
  · rw [he j hjk]
    exact (h.2 j (by rw [← hn]; exact hj)).kept (oq (b0 + j) (by omega))
theorem Hd.push {D : va_G} {dA : Nat → ClassId} {b0 : Nat} {tt : Nat → Nat} {σ τ : PSt} {H H1 : Heap} (h : Hd D dA b0 tt σ H) (hn : pnc τ = pnc σ + 1) (hz : H1.size = H.size + 1) (oq : ∀ q : Nat, q < H.size → H1[q]? = H[q]?) (he : ∀ j, j < pnc σ → ent dA b0 tt τ j = ent dA b0 tt σ j)
    (h1 : va_at D vwCl (b0 + pnc σ, ent dA b0 tt τ (pnc σ)) H1) : Hd D dA b0 tt τ H1 := by
  have hs := h.1
  refine ⟨by rw [hz, hn, hs]; omega, fun j hj => ?_⟩
  by_cases hjk : j = pnc σ
  · subst hjk; exact h1
  · have hj2 : j < pnc σ := by omega
    rw [he j hj2]
    exact (h.2 j hj2).kept (oq (b0 + j) (by omega))
def tysL (dA : Nat → ClassId) : List (ClassId × FieldType) := [(dA 1, .int), (dA 2, .byte), (dA 3, .short), (dA 4, .long), (dA 5, .array .int), (dA 6, .array .long)]
theorem tysL_at {dA : Nat → ClassId} {t : Nat} (h0 : 1 ≤ t) (h6 : t ≤ 6) : (tysL dA)[t - 1]? = some (dA t, aty t) := by
  have : t = 1 ∨ t = 2 ∨ t = 3 ∨ t = 4 ∨ t = 5 ∨ t = 6 := by omega
  rcases this with rfl | rfl | rfl | rfl | rfl | rfl <;> rfl
theorem vwCl_at {ci : Nat} (h : ci < NX) : vwCl[ci]? = some (cnm ci, cT ci, nF ci) := by
  have h2 : ci < 13 := h
  have : ci = 0 ∨ ci = 1 ∨ ci = 2 ∨ ci = 3 ∨ ci = 4 ∨ ci = 5 ∨ ci = 6 ∨ ci = 7 ∨ ci = 8 ∨ ci = 9 ∨ ci = 10 ∨ ci = 11 ∨ ci = 12 := by omega
  rcases this with rfl | rfl | rfl | rfl | rfl | rfl | rfl | rfl | rfl | rfl | rfl | rfl | rfl <;> rfl
theorem vwCl_lt {ci : Nat} {r : vw_C} (h : vwCl[ci]? = some r) : ci < NX := (List.getElem?_eq_some_iff.mp h).1
/-- what the tables and the statics say of a state -/
def KN (Λ : PRo) (D : va_G) (dA : Nat → ClassId) (b0 : Nat) (tt : Nat → Nat) (U : State) (Hp : Heap) : Prop :=
  va_K D vwCl (tysL dA) U ∧ b0 ≤ Hp.size ∧ (∀ j, j < Λ.1 → va_T .int (tt j) (Λ.2.1 j) (fun i => .int (Λ.2.2 j i)) (fun a => b0 ≤ a) U Hp) ∧ (∀ j, 1 ≤ j → j < 4 → va_Z (stN j).1 (stN j).2.1 (stN j).2.2 (.ref (tt j)) (fun a => b0 ≤ a) U Hp) ∧ (Cond.arrayOver (.array .int)).before #[] U = true ∧ (Cond.arrayOver (.array .long)).before #[] U = true
theorem KN.moved {Λ : PRo} {D : va_G} {dA : Nat → ClassId} {b0 : Nat} {tt : Nat → Nat} {u U : State} {H H1 : Heap} (hvm : u.vm.Alike U.vm) (h : KN Λ D dA b0 tt u H) (hz : b0 ≤ H1.size) (hq : ∀ q : Nat, q < b0 → H1[q]? = H[q]?) : KN Λ D dA b0 tt U H1 := by
  obtain ⟨h1, h2, h3, h4, h5, h6⟩ := h
  refine ⟨h1.moved hvm, hz, fun j hj => ((h3 j hj).moved hvm).kept (fun a _ ha => hq a (by have ha : ¬ b0 ≤ a := ha; omega)), fun j h0 hj => ((h4 j h0 hj).moved hvm).kept (fun a _ ha => hq a (by have ha : ¬ b0 ≤ a := ha; omega)), Stand.arrayOver_alikeB hvm h5, Stand.arrayOver_alikeB hvm h6⟩
/-- the walk's fixed things -/
abbrev Ctx : Type := Program × Launch × Env × Room × State × MethodId × Array Value × List Frame × Method × Code × (State → Prop) × va_G × (Nat → ClassId) × Nat × (Nat → Nat) × Nat × Nat × Nat
abbrev xp (X : Ctx) : Program := X.1
abbrev xl (X : Ctx) : Launch := X.2.1
abbrev xe (X : Ctx) : Env := X.2.2.1
abbrev xR (X : Ctx) : Room := X.2.2.2.1
abbrev xs (X : Ctx) : State := X.2.2.2.2.1
abbrev xi (X : Ctx) : MethodId := X.2.2.2.2.2.1
abbrev xa (X : Ctx) : Array Value := X.2.2.2.2.2.2.1
abbrev xb (X : Ctx) : List Frame := X.2.2.2.2.2.2.2.1
abbrev xh (X : Ctx) : Method := X.2.2.2.2.2.2.2.2.1
abbrev xc (X : Ctx) : Code := X.2.2.2.2.2.2.2.2.2.1
abbrev xQ (X : Ctx) : State → Prop := X.2.2.2.2.2.2.2.2.2.2.1
abbrev xD (X : Ctx) : va_G := X.2.2.2.2.2.2.2.2.2.2.2.1
abbrev xA (X : Ctx) : Nat → ClassId := X.2.2.2.2.2.2.2.2.2.2.2.2.1
abbrev xo (X : Ctx) : Nat := X.2.2.2.2.2.2.2.2.2.2.2.2.2.1
abbrev xt (X : Ctx) : Nat → Nat := X.2.2.2.2.2.2.2.2.2.2.2.2.2.2.1
abbrev xk (X : Ctx) : Nat := X.2.2.2.2.2.2.2.2.2.2.2.2.2.2.2.1
abbrev xn (X : Ctx) : Nat := X.2.2.2.2.2.2.2.2.2.2.2.2.2.2.2.2.1
abbrev xm (X : Ctx) : Nat := X.2.2.2.2.2.2.2.2.2.2.2.2.2.2.2.2.2
/-- the good words of the tables -/
def WALL : List Cond := lw_tbl.filter goodWord
theorem wall_in {w : Cond} (h : w ∈ lw_tbl) (hg : goodWord w = true) : w ∈ WALL := List.mem_filter.mpr ⟨h, hg⟩
def CX (Λ : PRo) (X : Ctx) : Prop := (xp X).tables.exec = Jvm.exec ∧ (xc X).code = mB (xm X) ∧ (xh X).sig.returnType = mR (xm X) ∧ (xc X).maxLocals = mL (xm X) ∧ (xs X).vm.findClass (cnm (mC (xm X))) = some (xi X).cls ∧ (∀ w ∈ WALL, w.before (xa X) (xs X) = true) ∧ (xh X).locks = false ∧ (isIni (xm X) = true → (xh X).name = "<init>") ∧ KN Λ (xD X) (xA X) (xo X) (xt X) (xs X) (xs X).heap ∧ xm X ≤ NM
abbrev cvL (X : Ctx) (L : PL) : List (Nat × Value) := L.map fun q => (q.1, cv (xo X) (xt X) q.2)
/-- the walk goes on well from here -/
def WS (X : Ctx) (pc : Nat) (L : PL) (st : List Value) (σ : PSt) : Prop := ∀ (H : Heap) (locs : List Loc) (cells slots : Nat) (ls : Array Slot), Hd (xD X) (xA X) (xo X) (xt X) σ H → va_S (fun q => xo X ≤ q) (xs X).heap H locs → pnc σ = xk X + cells → pns σ = xn X + slots → lv_has ls (mL (xm X)) (cvL X L) →
  W (xp X) (xl X) (xe X) (xR X) (xs X) (xi X) (xa X) (xb X) (xh X) (xc X) H locs cells slots (xQ X) (F0 (xi X) pc ls (st.map (cv (xo X) (xt X))))
/-! inversions -/
theorem oI1_i {st : List Value} {f : Int32 → Int32} {pc : Nat} {σ : PSt} {q : Nat × List Value × PSt} (h : oI1 st f pc σ = some q) : ∃ x r, st = .int x :: r ∧ q = (pc, .int (f x) :: r, σ) := by
  unfold oI1 at h
  split at h
  · cases h; exact ⟨_, _, rfl, rfl⟩
  · cases h
theorem oI2_i {st : List Value} {f : Int32 → Int32 → Int32} {pc : Nat} {σ : PSt} {q : Nat × List Value × PSt} (h : oI2 st f pc σ = some q) : ∃ x y r, st = .int y :: .int x :: r ∧ q = (pc, .int (f x y) :: r, σ) := by
  unfold oI2 at h
  split at h
  · cases h; exact ⟨_, _, _, rfl, rfl⟩
  · cases h
theorem oD2_i {st : List Value} {f : Int32 → Int32 → Int32} {pc : Nat} {σ : PSt} {q : Nat × List Value × PSt} (h : oD2 st f pc σ = some q) : ∃ x y r, st = .int y :: .int x :: r ∧ ¬ y = 0 ∧ q = (pc, .int (f x y) :: r, σ) := by
  unfold oD2 at h
  split at h
  · split at h
    · cases h
    · cases h; exact ⟨_, _, _, rfl, by assumption, rfl⟩
  · cases h
theorem oL2_i {st : List Value} {f : Int64 → Int64 → Int64} {pc : Nat} {σ : PSt} {q : Nat × List Value × PSt} (h : oL2 st f pc σ = some q) : ∃ x y r, st = .long y :: .long x :: r ∧ q = (pc, .long (f x y) :: r, σ) := by
  unfold oL2 at h
  split at h
  · cases h; exact ⟨_, _, _, rfl, rfl⟩
  · cases h
theorem oE2_i {st : List Value} {f : Int64 → Int64 → Int64} {pc : Nat} {σ : PSt} {q : Nat × List Value × PSt} (h : oE2 st f pc σ = some q) : ∃ x y r, st = .long y :: .long x :: r ∧ ¬ y = 0 ∧ q = (pc, .long (f x y) :: r, σ) := by
  unfold oE2 at h
  split at h
  · split at h
    · cases h
    · cases h; exact ⟨_, _, _, rfl, by assumption, rfl⟩
  · cases h
theorem tgt_i {pc : Nat} {off : Int} {t : Nat} (h : tgt pc off = some t) : (pc : Int) + off = (t : Int) := by
  unfold tgt at h
  split at h
  · cases h; omega
  · cases h
theorem oGet_i {c k : Nat} {st : List Value} {pc : Nat} {σ : PSt} {q : Nat × List Value × PSt} (h : oGet c k st pc σ = some q) : ∃ o r ci f, st = .ref o :: r ∧ fl c k = some (ci, f) ∧ o < pnc σ ∧ ply σ o = (0, ci) ∧ f < nF ci ∧ q = (pc, fval σ ci o f :: r, σ) := by
  unfold oGet at h
  split at h
  · split at h
    · split at h
      next hh => cases h; exact ⟨_, _, _, _, rfl, by assumption, hh.1, hh.2.1, hh.2.2, rfl⟩
      next => cases h
    · cases h
  · cases h
theorem oPut_i {ini : Bool} {c k : Nat} {st : List Value} {pc : Nat} {σ : PSt} {q : Nat × List Value × PSt} (h : oPut ini c k st pc σ = some q) : ∃ v o r ci f τ, st = v :: .ref o :: r ∧ fl c k = some (ci, f) ∧ o < pnc σ ∧ ply σ o = (0, ci) ∧ f < nF ci ∧ (ffin ci f = true → ini = true ∧ c = ci) ∧ pval σ (fk ci f) o f v = some τ ∧ q = (pc, r, τ) := by
  unfold oPut at h
  split at h
  · split at h
    · split at h
      next hh =>
        rw [Option.map_eq_some_iff] at h
        obtain ⟨τ, h1, rfl⟩ := h
        exact ⟨_, _, _, _, _, _, rfl, by assumption, hh.1, hh.2.1, hh.2.2.1, hh.2.2.2, h1, rfl⟩
      next => cases h
    · cases h
  · cases h
theorem vin_in {i : Int32} {n : Nat} (h : vin i n) : vp_in i n := vp_in_iff.mpr h
theorem vin_lt {i : Int32} {n : Nat} (h : vin i n) : i.toNatClampNeg < n := Nat.not_le.mp fun q => vin_in h (Or.inr q)

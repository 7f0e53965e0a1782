/-! more rows -/
def FU : Nat := 1000000
section ROWS2
variable {E : EE} {ρ : Type} {κ : ρ → Option Value × PSt} {d m pc : Nat} {L L2 : PL} {st st2 : List Value} {q q2 : SS} {o o1 o2 : Option ρ}
theorem r_dep {d' : Nat} (h : d ≤ d') (k : R E κ d m pc L st q o) : R E κ d' m pc L st q o := fun r hr => by
  obtain ⟨n, hn⟩ := k r hr
  exact ⟨n, prun_mono _ _ (Or.inr rfl) _ _ _ _ _ _ _ _ hn n d' L (Nat.le_refl _) h (fun _ _ h => h)⟩
theorem r_putZC {k ob f : Nat} {x : Int32} (hd : decode (mB m) pc = .ok (.putfield k, 3)) (h : FF E (mC m) k ob f 3) (hx : x = 0 ∨ x = 1) (kk : R E κ d m (pc + 3) L st (sI q ob f x) o) : R E κ d m pc L (.int x :: .ref ob :: st) q o := by
  have := r_putZ hd h kk
  rw [if_pos hx] at this
  exact this
theorem r_scload {i : Int32} (hd : decode (mB m) pc = .ok (.iaload, 1)) (kk : R E κ d m (pc + 1) L (.int (E.2.1 i.toNatClampNeg) :: st) q o) : R E κ d m pc L (.int i :: .retAddr 0 :: st) q (if vin i E.1 then o else none) := r_roaload hd (by decide) kk
theorem r_stload {j n : Nat} {i : Int32} (hd : decode (mB m) pc = .ok (.iaload, 1)) (h0 : Nat.beq j 0 = false) (hn : stL j = n) (hj : j < 4) (kk : R E κ d m (pc + 1) L (.int (stV j i.toNatClampNeg) :: st) q o) : R E κ d m pc L (.int i :: .retAddr j :: st) q (if vin i n then o else none) := by
  have e1 : (lam E).2.1 j = n := by
    show (bif Nat.beq j 0 then E.1 else stL j) = n
    rw [h0]; exact hn
  have e2 : (lam E).2.2 j i.toNatClampNeg = stV j i.toNatClampNeg := by
    show (bif Nat.beq j 0 then E.2.1 i.toNatClampNeg else stV j i.toNatClampNeg) = _
    rw [h0]; rfl
  have := r_roaload (E := E) (κ := κ) (d := d) (m := m) (pc := pc) (L := L) (st := st) (q := q) (o := o) (i := i) (j := j) hd hj (by rw [e2]; exact kk)
  rw [e1] at this
  exact this
theorem r_sclen (hd : decode (mB m) pc = .ok (.arraylength, 1)) (kk : R E κ d m (pc + 1) L (.int (Int32.ofNat E.1) :: st) q o) : R E κ d m pc L (.retAddr 0 :: st) q o := r_rolen hd (by decide) kk
theorem r_stlen {j : Nat} {v : Int32} (hd : decode (mB m) pc = .ok (.arraylength, 1)) (hv : Int32.ofNat (bif Nat.beq j 0 then E.1 else stL j) = v) (hj : j < 4) (kk : R E κ d m (pc + 1) L (.int v :: st) q o) : R E κ d m pc L (.retAddr j :: st) q o := r_rolen hd hj (by
  have e1 : Int32.ofNat ((lam E).2.1 j) = v := hv
  rw [e1]
  exact kk)
theorem sw_lo {v : Int} (lo : Int) : v < lo ∨ lo ≤ v := by omega
theorem sw_st {v lo k : Int} (h : v < lo ∨ k ≤ v) (h2 : ¬ v = k) : v < lo ∨ k + 1 ≤ v := by omega
theorem sw_df {dd lo hi : Int} {offs : Array Int} {pc t : Nat} {v k : Int} (h : v < lo ∨ k ≤ v) (e : k = hi + 1) (ht : tgt pc dd = some t) : swj (.tableswitch dd lo hi offs) pc v = some t := by
  unfold swj
  dsimp only
  rw [if_pos (by omega)]
  exact ht
def NQ (v : Int) (l : List (Int × Int)) : Prop := Op.lookupswitch.offset l 0 v = 0 ∧ ∀ d, Op.lookupswitch.offset l d v = d
theorem nq_n {v : Int} : NQ v [] := ⟨rfl, fun _ => rfl⟩
theorem nq_c {v a o : Int} {l : List (Int × Int)} (h : ¬ v = a) (k : NQ v l) : NQ v ((a, o) :: l) := by
  have h2 : ¬ a = v := fun e => h e.symm
  exact ⟨(if_neg h2).trans k.1, fun d => (if_neg h2).trans (k.2 d)⟩
theorem sw_lk {dd : Int} {ps : Array (Int × Int)} {pc t : Nat} {v : Int} (hs : (ps.toList.zip (ps.toList.drop 1)).all (fun (a, next) => a.1 < next.1) = true) (h : NQ v ps.toList) (ht : tgt pc dd = some t) : swj (.lookupswitch dd ps) pc v = some t := by
  unfold swj
  dsimp only
  rw [if_pos hs, h.2 dd]
  exact ht
end ROWS2
theorem fx1_ok {A0 ρ : Type} {P : A0 → Option ρ → Prop} {F : (A0 → Option ρ) → A0 → Option ρ} (h0 : ∀ a0, P a0 none) (hs : ∀ rec, (∀ a0, P a0 (rec a0)) → ∀ a0, P a0 (F rec a0)) : ∀ n a0, P a0 (fx1 F n a0)
  | 0, _ => h0 _
  | n + 1, a0 => hs _ (fx1_ok h0 hs n) a0
theorem fx2_ok {A0 A1 ρ : Type} {P : A0 → A1 → Option ρ → Prop} {F : (A0 → A1 → Option ρ) → A0 → A1 → Option ρ} (h0 : ∀ a0 a1, P a0 a1 none) (hs : ∀ rec, (∀ a0 a1, P a0 a1 (rec a0 a1)) → ∀ a0 a1, P a0 a1 (F rec a0 a1)) : ∀ n a0 a1, P a0 a1 (fx2 F n a0 a1)
  | 0, _, _ => h0 _ _
  | n + 1, a0, a1 => hs _ (fx2_ok h0 hs n) a0 a1
theorem fx3_ok {A0 A1 A2 ρ : Type} {P : A0 → A1 → A2 → Option ρ → Prop} {F : (A0 → A1 → A2 → Option ρ) → A0 → A1 → A2 → Option ρ} (h0 : ∀ a0 a1 a2, P a0 a1 a2 none) (hs : ∀ rec, (∀ a0 a1 a2, P a0 a1 a2 (rec a0 a1 a2)) → ∀ a0 a1 a2, P a0 a1 a2 (F rec a0 a1 a2)) : ∀ n a0 a1 a2, P a0 a1 a2 (fx3 F n a0 a1 a2)
  | 0, _, _, _ => h0 _ _ _
  | n + 1, a0, a1, a2 => hs _ (fx3_ok h0 hs n) a0 a1 a2
theorem fx4_ok {A0 A1 A2 A3 ρ : Type} {P : A0 → A1 → A2 → A3 → Option ρ → Prop} {F : (A0 → A1 → A2 → A3 → Option ρ) → A0 → A1 → A2 → A3 → Option ρ} (h0 : ∀ a0 a1 a2 a3, P a0 a1 a2 a3 none) (hs : ∀ rec, (∀ a0 a1 a2 a3, P a0 a1 a2 a3 (rec a0 a1 a2 a3)) → ∀ a0 a1 a2 a3, P a0 a1 a2 a3 (F rec a0 a1 a2 a3)) : ∀ n a0 a1 a2 a3, P a0 a1 a2 a3 (fx4 F n a0 a1 a2 a3)
  | 0, _, _, _, _ => h0 _ _ _ _
  | n + 1, a0, a1, a2, a3 => hs _ (fx4_ok h0 hs n) a0 a1 a2 a3
theorem fx5_ok {A0 A1 A2 A3 A4 ρ : Type} {P : A0 → A1 → A2 → A3 → A4 → Option ρ → Prop} {F : (A0 → A1 → A2 → A3 → A4 → Option ρ) → A0 → A1 → A2 → A3 → A4 → Option ρ} (h0 : ∀ a0 a1 a2 a3 a4, P a0 a1 a2 a3 a4 none) (hs : ∀ rec, (∀ a0 a1 a2 a3 a4, P a0 a1 a2 a3 a4 (rec a0 a1 a2 a3 a4)) → ∀ a0 a1 a2 a3 a4, P a0 a1 a2 a3 a4 (F rec a0 a1 a2 a3 a4)) : ∀ n a0 a1 a2 a3 a4, P a0 a1 a2 a3 a4 (fx5 F n a0 a1 a2 a3 a4)
  | 0, _, _, _, _, _ => h0 _ _ _ _ _
  | n + 1, a0, a1, a2, a3, a4 => hs _ (fx5_ok h0 hs n) a0 a1 a2 a3 a4
theorem fx6_ok {A0 A1 A2 A3 A4 A5 ρ : Type} {P : A0 → A1 → A2 → A3 → A4 → A5 → Option ρ → Prop} {F : (A0 → A1 → A2 → A3 → A4 → A5 → Option ρ) → A0 → A1 → A2 → A3 → A4 → A5 → Option ρ} (h0 : ∀ a0 a1 a2 a3 a4 a5, P a0 a1 a2 a3 a4 a5 none) (hs : ∀ rec, (∀ a0 a1 a2 a3 a4 a5, P a0 a1 a2 a3 a4 a5 (rec a0 a1 a2 a3 a4 a5)) → ∀ a0 a1 a2 a3 a4 a5, P a0 a1 a2 a3 a4 a5 (F rec a0 a1 a2 a3 a4 a5)) : ∀ n a0 a1 a2 a3 a4 a5, P a0 a1 a2 a3 a4 a5 (fx6 F n a0 a1 a2 a3 a4 a5)
  | 0, _, _, _, _, _, _ => h0 _ _ _ _ _ _
  | n + 1, a0, a1, a2, a3, a4, a5 => hs _ (fx6_ok h0 hs n) a0 a1 a2 a3 a4 a5
theorem fx7_ok {A0 A1 A2 A3 A4 A5 A6 ρ : Type} {P : A0 → A1 → A2 → A3 → A4 → A5 → A6 → Option ρ → Prop} {F : (A0 → A1 → A2 → A3 → A4 → A5 → A6 → Option ρ) → A0 → A1 → A2 → A3 → A4 → A5 → A6 → Option ρ} (h0 : ∀ a0 a1 a2 a3 a4 a5 a6, P a0 a1 a2 a3 a4 a5 a6 none) (hs : ∀ rec, (∀ a0 a1 a2 a3 a4 a5 a6, P a0 a1 a2 a3 a4 a5 a6 (rec a0 a1 a2 a3 a4 a5 a6)) → ∀ a0 a1 a2 a3 a4 a5 a6, P a0 a1 a2 a3 a4 a5 a6 (F rec a0 a1 a2 a3 a4 a5 a6)) : ∀ n a0 a1 a2 a3 a4 a5 a6, P a0 a1 a2 a3 a4 a5 a6 (fx7 F n a0 a1 a2 a3 a4 a5 a6)
  | 0, _, _, _, _, _, _, _ => h0 _ _ _ _ _ _ _
  | n + 1, a0, a1, a2, a3, a4, a5, a6 => hs _ (fx7_ok h0 hs n) a0 a1 a2 a3 a4 a5 a6
theorem fx8_ok {A0 A1 A2 A3 A4 A5 A6 A7 ρ : Type} {P : A0 → A1 → A2 → A3 → A4 → A5 → A6 → A7 → Option ρ → Prop} {F : (A0 → A1 → A2 → A3 → A4 → A5 → A6 → A7 → Option ρ) → A0 → A1 → A2 → A3 → A4 → A5 → A6 → A7 → Option ρ} (h0 : ∀ a0 a1 a2 a3 a4 a5 a6 a7, P a0 a1 a2 a3 a4 a5 a6 a7 none) (hs : ∀ rec, (∀ a0 a1 a2 a3 a4 a5 a6 a7, P a0 a1 a2 a3 a4 a5 a6 a7 (rec a0 a1 a2 a3 a4 a5 a6 a7)) → ∀ a0 a1 a2 a3 a4 a5 a6 a7, P a0 a1 a2 a3 a4 a5 a6 a7 (F rec a0 a1 a2 a3 a4 a5 a6 a7)) : ∀ n a0 a1 a2 a3 a4 a5 a6 a7, P a0 a1 a2 a3 a4 a5 a6 a7 (fx8 F n a0 a1 a2 a3 a4 a5 a6 a7)
  | 0, _, _, _, _, _, _, _, _ => h0 _ _ _ _ _ _ _ _
  | n + 1, a0, a1, a2, a3, a4, a5, a6, a7 => hs _ (fx8_ok h0 hs n) a0 a1 a2 a3 a4 a5 a6 a7
theorem fx9_ok {A0 A1 A2 A3 A4 A5 A6 A7 A8 ρ : Type} {P : A0 → A1 → A2 → A3 → A4 → A5 → A6 → A7 → A8 → Option ρ → Prop} {F : (A0 → A1 → A2 → A3 → A4 → A5 → A6 → A7 → A8 → Option ρ) → A0 → A1 → A2 → A3 → A4 → A5 → A6 → A7 → A8 → Option ρ} (h0 : ∀ a0 a1 a2 a3 a4 a5 a6 a7 a8, P a0 a1 a2 a3 a4 a5 a6 a7 a8 none) (hs : ∀ rec, (∀ a0 a1 a2 a3 a4 a5 a6 a7 a8, P a0 a1 a2 a3 a4 a5 a6 a7 a8 (rec a0 a1 a2 a3 a4 a5 a6 a7 a8)) → ∀ a0 a1 a2 a3 a4 a5 a6 a7 a8, P a0 a1 a2 a3 a4 a5 a6 a7 a8 (F rec a0 a1 a2 a3 a4 a5 a6 a7 a8)) : ∀ n a0 a1 a2 a3 a4 a5 a6 a7 a8, P a0 a1 a2 a3 a4 a5 a6 a7 a8 (fx9 F n a0 a1 a2 a3 a4 a5 a6 a7 a8)
  | 0, _, _, _, _, _, _, _, _, _ => h0 _ _ _ _ _ _ _ _ _
  | n + 1, a0, a1, a2, a3, a4, a5, a6, a7, a8 => hs _ (fx9_ok h0 hs n) a0 a1 a2 a3 a4 a5 a6 a7 a8
theorem fx10_ok {A0 A1 A2 A3 A4 A5 A6 A7 A8 A9 ρ : Type} {P : A0 → A1 → A2 → A3 → A4 → A5 → A6 → A7 → A8 → A9 → Option ρ → Prop} {F : (A0 → A1 → A2 → A3 → A4 → A5 → A6 → A7 → A8 → A9 → Option ρ) → A0 → A1 → A2 → A3 → A4 → A5 → A6 → A7 → A8 → A9 → Option ρ} (h0 : ∀ a0 a1 a2 a3 a4 a5 a6 a7 a8 a9, P a0 a1 a2 a3 a4 a5 a6 a7 a8 a9 none) (hs : ∀ rec, (∀ a0 a1 a2 a3 a4 a5 a6 a7 a8 a9, P a0 a1 a2 a3 a4 a5 a6 a7 a8 a9 (rec a0 a1 a2 a3 a4 a5 a6 a7 a8 a9)) → ∀ a0 a1 a2 a3 a4 a5 a6 a7 a8 a9, P a0 a1 a2 a3 a4 a5 a6 a7 a8 a9 (F rec a0 a1 a2 a3 a4 a5 a6 a7 a8 a9)) : ∀ n a0 a1 a2 a3 a4 a5 a6 a7 a8 a9, P a0 a1 a2 a3 a4 a5 a6 a7 a8 a9 (fx10 F n a0 a1 a2 a3 a4 a5 a6 a7 a8 a9)
  | 0, _, _, _, _, _, _, _, _, _, _ => h0 _ _ _ _ _ _ _ _ _ _
  | n + 1, a0, a1, a2, a3, a4, a5, a6, a7, a8, a9 => hs _ (fx10_ok h0 hs n) a0 a1 a2 a3 a4 a5 a6 a7 a8 a9
theorem fx11_ok {A0 A1 A2 A3 A4 A5 A6 A7 A8 A9 A10 ρ : Type} {P : A0 → A1 → A2 → A3 → A4 → A5 → A6 → A7 → A8 → A9 → A10 → Option ρ → Prop} {F : (A0 → A1 → A2 → A3 → A4 → A5 → A6 → A7 → A8 → A9 → A10 → Option ρ) → A0 → A1 → A2 → A3 → A4 → A5 → A6 → A7 → A8 → A9 → A10 → Option ρ} (h0 : ∀ a0 a1 a2 a3 a4 a5 a6 a7 a8 a9 a10, P a0 a1 a2 a3 a4 a5 a6 a7 a8 a9 a10 none) (hs : ∀ rec, (∀ a0 a1 a2 a3 a4 a5 a6 a7 a8 a9 a10, P a0 a1 a2 a3 a4 a5 a6 a7 a8 a9 a10 (rec a0 a1 a2 a3 a4 a5 a6 a7 a8 a9 a10)) → ∀ a0 a1 a2 a3 a4 a5 a6 a7 a8 a9 a10, P a0 a1 a2 a3 a4 a5 a6 a7 a8 a9 a10 (F rec a0 a1 a2 a3 a4 a5 a6 a7 a8 a9 a10)) : ∀ n a0 a1 a2 a3 a4 a5 a6 a7 a8 a9 a10, P a0 a1 a2 a3 a4 a5 a6 a7 a8 a9 a10 (fx11 F n a0 a1 a2 a3 a4 a5 a6 a7 a8 a9 a10)
  | 0, _, _, _, _, _, _, _, _, _, _, _ => h0 _ _ _ _ _ _ _ _ _ _ _
  | n + 1, a0, a1, a2, a3, a4, a5, a6, a7, a8, a9, a10 => hs _ (fx11_ok h0 hs n) a0 a1 a2 a3 a4 a5 a6 a7 a8 a9 a10
theorem fx12_ok {A0 A1 A2 A3 A4 A5 A6 A7 A8 A9 A10 A11 ρ : Type} {P : A0 → A1 → A2 → A3 → A4 → A5 → A6 → A7 → A8 → A9 → A10 → A11 → Option ρ → Prop} {F : (A0 → A1 → A2 → A3 → A4 → A5 → A6 → A7 → A8 → A9 → A10 → A11 → Option ρ) → A0 → A1 → A2 → A3 → A4 → A5 → A6 → A7 → A8 → A9 → A10 → A11 → Option ρ} (h0 : ∀ a0 a1 a2 a3 a4 a5 a6 a7 a8 a9 a10 a11, P a0 a1 a2 a3 a4 a5 a6 a7 a8 a9 a10 a11 none) (hs : ∀ rec, (∀ a0 a1 a2 a3 a4 a5 a6 a7 a8 a9 a10 a11, P a0 a1 a2 a3 a4 a5 a6 a7 a8 a9 a10 a11 (rec a0 a1 a2 a3 a4 a5 a6 a7 a8 a9 a10 a11)) → ∀ a0 a1 a2 a3 a4 a5 a6 a7 a8 a9 a10 a11, P a0 a1 a2 a3 a4 a5 a6 a7 a8 a9 a10 a11 (F rec a0 a1 a2 a3 a4 a5 a6 a7 a8 a9 a10 a11)) : ∀ n a0 a1 a2 a3 a4 a5 a6 a7 a8 a9 a10 a11, P a0 a1 a2 a3 a4 a5 a6 a7 a8 a9 a10 a11 (fx12 F n a0 a1 a2 a3 a4 a5 a6 a7 a8 a9 a10 a11)
  | 0, _, _, _, _, _, _, _, _, _, _, _, _ => h0 _ _ _ _ _ _ _ _ _ _ _ _
  | n + 1, a0, a1, a2, a3, a4, a5, a6, a7, a8, a9, a10, a11 => hs _ (fx12_ok h0 hs n) a0 a1 a2 a3 a4 a5 a6 a7 a8 a9 a10 a11

/-! ===== the model's levels, one behind another ===== -/
theorem CM_lvc {c m : Int32} (h : CM c m) : lvc c = lvc m := by
  unfold lvc
  simp only [CM_eq h (k := 37) (by decide) (by decide), CM_eq h (k := 38) (by decide) (by decide), CM_eq h (k := 42) (by decide) (by decide), CM_eq h (k := 43) (by decide) (by decide), CM_eq h (k := 45) (by decide) (by decide), CM_eq h (k := 47) (by decide) (by decide), CM_eq h (k := 60) (by decide) (by decide), CM_eq h (k := 61) (by decide) (by decide), CM_eq h (k := 62) (by decide) (by decide), CM_eq h (k := 124) (by decide) (by decide)]
theorem lvc_in (m : Int32) : (lvc m = 5 ∧ (m = 42 ∨ m = 47 ∨ m = 37)) ∨ (lvc m = 4 ∧ (m = 43 ∨ m = 45)) ∨ (lvc m = 3 ∧ (m = 60 ∨ m = 61 ∨ m = 62)) ∨ (lvc m = 2 ∧ m = 38) ∨ (lvc m = 1 ∧ m = 124) ∨ lvc m = 0 := by
  by_cases h1 : m = 37
  · subst h1; exact Or.inl ⟨rfl, Or.inr (Or.inr rfl)⟩
  by_cases h2 : m = 38
  · subst h2; exact Or.inr (Or.inr (Or.inr (Or.inl ⟨rfl, rfl⟩)))
  by_cases h3 : m = 42
  · subst h3; exact Or.inl ⟨rfl, Or.inl rfl⟩
  by_cases h4 : m = 43
  · subst h4; exact Or.inr (Or.inl ⟨rfl, Or.inl rfl⟩)
  by_cases h5 : m = 45
  · subst h5; exact Or.inr (Or.inl ⟨rfl, Or.inr rfl⟩)
  by_cases h6 : m = 47
  · subst h6; exact Or.inl ⟨rfl, Or.inr (Or.inl rfl)⟩
  by_cases h7 : m = 60
  · subst h7; exact Or.inr (Or.inr (Or.inl ⟨rfl, Or.inl rfl⟩))
  by_cases h8 : m = 61
  · subst h8; exact Or.inr (Or.inr (Or.inl ⟨rfl, Or.inr (Or.inl rfl)⟩))
  by_cases h9 : m = 62
  · subst h9; exact Or.inr (Or.inr (Or.inl ⟨rfl, Or.inr (Or.inr rfl)⟩))
  by_cases h10 : m = 124
  · subst h10; exact Or.inr (Or.inr (Or.inr (Or.inr (Or.inl ⟨rfl, rfl⟩))))
  refine Or.inr (Or.inr (Or.inr (Or.inr (Or.inr ?_))))
  unfold lvc
  rw [if_neg h1, if_neg h2, if_neg h3, if_neg h4, if_neg h5, if_neg h6, if_neg h7, if_neg h8, if_neg h9, if_neg h10]
def FP5 (r : GT_X12_operand) (rec : SS → Option SS) (q : SS) : Option SS :=
  if 0 ≤ (q.1 60 20) then (some q) else ((f_X12_look q).bind fun r2 => if r2 = (42 : Int32) then (b_X12_product_38 r rec q) else ((f_X12_look q).bind fun r7 => if r7 = (47 : Int32) then (b_X12_product_38 r rec q) else ((f_X12_look q).bind fun r8 => if r8 = (37 : Int32) then (b_X12_product_38 r rec q) else (some q))))
def FP4 (r : GT_X12_operand) (rec : SS → Option SS) (q : SS) : Option SS :=
  if 0 ≤ (q.1 60 20) then (some q) else ((f_X12_look q).bind fun r2 => if r2 = (43 : Int32) then (b_X12_sum_29 r rec q) else ((f_X12_look q).bind fun r7 => if r7 = (45 : Int32) then (b_X12_sum_29 r rec q) else (some q)))
def FP3 (r : GT_X12_operand) (r1 : SS) : Option SS :=
  (f_X12_look r1).bind fun r2 => if 0 ≤ (r1.1 60 20) then (some r1) else (if r2 = (60 : Int32) then (b_X12_compared_35 r r1 r2) else (if r2 = (61 : Int32) then (b_X12_compared_35 r r1 r2) else (if r2 = (62 : Int32) then (b_X12_compared_35 r r1 r2) else (some r1))))
def FP2 (r : GT_X12_operand) (rec : SS → Option SS) (q : SS) : Option SS :=
  if 0 ≤ (q.1 60 20) then (some q) else ((f_X12_look q).bind fun r2 => if r2 = (38 : Int32) then (nm (sI q 60 19 ((q.1 60 19) + (1 : Int32))) fun q3 => (r.2.2.2.1 q3).bind fun r4 => (f_X12_addStep r4 (38 : Int32) (0 : Int32)).bind fun r5 => rec r5) else (some q))
def FP1 (r : GT_X12_operand) (rec : SS → Option SS) (q : SS) : Option SS :=
  if 0 ≤ (q.1 60 20) then (some q) else ((f_X12_look q).bind fun r2 => if r2 = (124 : Int32) then (nm (sI q 60 19 ((q.1 60 19) + (1 : Int32))) fun q3 => (r.2.2.2.2.1 q3).bind fun r4 => (f_X12_addStep r4 (124 : Int32) (0 : Int32)).bind fun r5 => rec r5) else (some q))
/-- what stands behind the level above, at each level -/
def CC (r : GT_X12_operand) (k : Nat) : Nat → SS → Option SS
  | 5 => fx1 (FP5 r) k
  | 4 => fx1 (FP4 r) k
  | 3 => FP3 r
  | 2 => fx1 (FP2 r) k
  | 1 => fx1 (FP1 r) k
  | _ => some
def MF (r : GT_X12_operand) : Nat → SS → Option SS
  | 1 => r.2.2.2.2.2
  | 2 => r.2.2.2.2.1
  | 3 => r.2.2.2.1
  | 4 => r.2.2.1
  | 5 => r.2.1
  | _ => r.1
theorem B1_e (r : GT_X12_operand) : b_X12_either_4 r = fx1 (FP1 r) FU := congrArg (fun F => fx1 F FU) (show _ = FP1 r from rfl)
theorem B2_e (r : GT_X12_operand) : b_X12_both_4 r = fx1 (FP2 r) FU := congrArg (fun F => fx1 F FU) (show _ = FP2 r from rfl)
theorem B4_e (r : GT_X12_operand) : b_X12_sum_4 r = fx1 (FP4 r) FU := congrArg (fun F => fx1 F FU) (show _ = FP4 r from rfl)
theorem B5_e (r : GT_X12_operand) : b_X12_product_4 r = fx1 (FP5 r) FU := congrArg (fun F => fx1 F FU) (show _ = FP5 r from rfl)
theorem CC_1 (r : GT_X12_operand) (k : Nat) : CC r k 1 = fx1 (FP1 r) k := rfl
theorem CC_2 (r : GT_X12_operand) (k : Nat) : CC r k 2 = fx1 (FP2 r) k := rfl
theorem CC_3 (r : GT_X12_operand) (k : Nat) : CC r k 3 = FP3 r := rfl
theorem CC_4 (r : GT_X12_operand) (k : Nat) : CC r k 4 = fx1 (FP4 r) k := rfl
theorem CC_5 (r : GT_X12_operand) (k : Nat) : CC r k 5 = fx1 (FP5 r) k := rfl
theorem MF_s {L : Nat} (h1 : 1 ≤ L) (h5 : L ≤ 5) (n : Nat) (q : SS) : MF (g_X12_operand (n + 1)) L q = (MF (g_X12_operand n) (L + 1) q).bind (CC (g_X12_operand n) FU L) := by
  have c : L = 1 ∨ L = 2 ∨ L = 3 ∨ L = 4 ∨ L = 5 := by omega
  rcases c with rfl | rfl | rfl | rfl | rfl
  · show fb_X12_either (g_X12_operand n) q = ((g_X12_operand n).2.2.2.2.1 q).bind _
    rw [CC_1, ← B1_e]
    rfl
  · show fb_X12_both (g_X12_operand n) q = ((g_X12_operand n).2.2.2.1 q).bind _
    rw [CC_2, ← B2_e]
    rfl
  · show fb_X12_compared (g_X12_operand n) q = ((g_X12_operand n).2.2.1 q).bind _
    rw [CC_3]
    rfl
  · show fb_X12_sum (g_X12_operand n) q = ((g_X12_operand n).2.1 q).bind _
    rw [CC_4, ← B4_e]
    rfl
  · show fb_X12_product (g_X12_operand n) q = ((g_X12_operand n).1 q).bind _
    rw [CC_5, ← B5_e]
    rfl
/-- the char is no sign of this level -/
theorem CC_no {r : GT_X12_operand} {k L : Nat} {s : SS} {m : Int32} (h1 : 1 ≤ L) (h5 : L ≤ 5) (hm : f_X12_look s = some m) (hl : (lvc m).toInt ≠ (L : Int)) : CC r (k + 1) L s = some s := by
  have c : L = 1 ∨ L = 2 ∨ L = 3 ∨ L = 4 ∨ L = 5 := by omega
  have ne : ∀ k : Int32, (lvc k).toInt = (L : Int) → ¬ m = k := fun k hk e => hl (by rw [e]; exact hk)
  rcases c with rfl | rfl | rfl | rfl | rfl
  · show FP1 r (fx1 (FP1 r) k) s = some s
    generalize fx1 (FP1 r) k = rec
    unfold FP1
    rw [hm, bind_s, if_neg (ne 124 rfl), ite_self]
  · show FP2 r (fx1 (FP2 r) k) s = some s
    generalize fx1 (FP2 r) k = rec
    unfold FP2
    rw [hm, bind_s, if_neg (ne 38 rfl), ite_self]
  · show FP3 r s = some s
    unfold FP3
    rw [hm, bind_s, if_neg (ne 60 rfl), if_neg (ne 61 rfl), if_neg (ne 62 rfl), ite_self]
  · show FP4 r (fx1 (FP4 r) k) s = some s
    generalize fx1 (FP4 r) k = rec
    unfold FP4
    rw [hm, bind_s, bind_s, if_neg (ne 43 rfl), if_neg (ne 45 rfl), ite_self]
  · show FP5 r (fx1 (FP5 r) k) s = some s
    generalize fx1 (FP5 r) k = rec
    unfold FP5
    rw [hm, bind_s, bind_s, bind_s, if_neg (ne 42 rfl), if_neg (ne 47 rfl), if_neg (ne 37 rfl), ite_self]
/-- refused already -/
theorem CC_w {r : GT_X12_operand} {k L : Nat} {s : SS} {m : Int32} (hm : f_X12_look s = some m) (hw : 0 ≤ (s.1 60 20).toInt) : CC r (k + 1) L s = some s := by
  have l0 : (0 : Int32).toInt = 0 := rfl
  have w : (0 : Int32) ≤ s.1 60 20 := Int32.le_iff_toInt_le.mpr (by rw [l0]; exact hw)
  match L with
  | 0 => rfl
  | 1 => show FP1 r (fx1 (FP1 r) k) s = some s; unfold FP1; rw [if_pos w]
  | 2 => show FP2 r (fx1 (FP2 r) k) s = some s; unfold FP2; rw [if_pos w]
  | 3 => show FP3 r s = some s; unfold FP3; rw [hm, bind_s, if_pos w]
  | 4 => show FP4 r (fx1 (FP4 r) k) s = some s; unfold FP4; rw [if_pos w]
  | 5 => show FP5 r (fx1 (FP5 r) k) s = some s; unfold FP5; rw [if_pos w]
  | _ + 6 => rfl
def aft (r : GT_X12_operand) (k L : Nat) : SS → Option SS := if L = 3 then some else CC r k L
/-- a sign of this level -/
theorem CC_op {r : GT_X12_operand} {k L : Nat} {s : SS} {m : Int32} (h1 : 1 ≤ L) (hm : f_X12_look s = some m) (hl : (lvc m).toInt = (L : Int)) (hn : s.1 60 20 = -1) : CC r (k + 1) L s = (MF r (L + 1) (sI s 60 19 (s.1 60 19 + 1))).bind fun r5 => (f_X12_addStep r5 m 0).bind fun r6 => aft r k L r6 := by
  have w : ¬ (0 : Int32) ≤ s.1 60 20 := by rw [hn]; decide
  have i5 : (5 : Int32).toInt = 5 := rfl
  have i4 : (4 : Int32).toInt = 4 := rfl
  have i3 : (3 : Int32).toInt = 3 := rfl
  have i2 : (2 : Int32).toInt = 2 := rfl
  have i1 : (1 : Int32).toInt = 1 := rfl
  have i0 : (0 : Int32).toInt = 0 := rfl
  rcases lvc_in m with ⟨e, h⟩ | ⟨e, h⟩ | ⟨e, h⟩ | ⟨e, h⟩ | ⟨e, h⟩ | e
  · rw [e, i5] at hl
    obtain rfl : L = 5 := by omega
    show FP5 r (fx1 (FP5 r) k) s = _
    unfold FP5 b_X12_product_38
    rw [if_neg w, hm]
    rcases h with rfl | rfl | rfl <;> rfl
  · rw [e, i4] at hl
    obtain rfl : L = 4 := by omega
    show FP4 r (fx1 (FP4 r) k) s = _
    unfold FP4 b_X12_sum_29
    rw [if_neg w, hm]
    rcases h with rfl | rfl <;> rfl
  · rw [e, i3] at hl
    obtain rfl : L = 3 := by omega
    show FP3 r s = _
    unfold FP3 b_X12_compared_35
    rw [hm, bind_s, if_neg w]
    rcases h with rfl | rfl | rfl <;> rfl
  · rw [e, i2] at hl
    obtain rfl : L = 2 := by omega
    show FP2 r (fx1 (FP2 r) k) s = _
    unfold FP2
    rw [if_neg w, hm]
    subst h
    rfl
  · rw [e, i1] at hl
    obtain rfl : L = 1 := by omega
    show FP1 r (fx1 (FP1 r) k) s = _
    unfold FP1
    rw [if_neg w, hm]
    subst h
    rfl
  · rw [e, i0] at hl
    exact absurd hl (by omega)
def ch (b l : Nat) : Nat → Nat → SS → Option SS
  | 0, _, s => some s
  | hi + 1, k, s => if hi + 1 < l then some s else (CC (g_X12_operand (b + 5 - (hi + 1))) k (hi + 1) s).bind (ch b l hi FU)
theorem ch_no {b l : Nat} {s : SS} {m : Int32} (hm : f_X12_look s = some m) : ∀ (hi k : Nat), hi ≤ 5 → (∀ L : Nat, l ≤ L → L ≤ hi → (lvc m).toInt ≠ (L : Int)) → ch b l hi (k + 1) s = some s
  | 0, _, _, _ => rfl
  | hi + 1, k, h5, h => by
    unfold ch
    by_cases c : hi + 1 < l
    · rw [if_pos c]
    · rw [if_neg c, CC_no (by omega) h5 hm (h (hi + 1) (by omega) (Nat.le_refl _)), bind_s]
      exact ch_no hm hi 999999 (by omega) (fun L h1 h2 => h L h1 (by omega))
theorem ch_w {b l : Nat} {s : SS} {m : Int32} (hm : f_X12_look s = some m) (hw : 0 ≤ (s.1 60 20).toInt) : ∀ (hi k : Nat), ch b l hi (k + 1) s = some s
  | 0, _ => rfl
  | hi + 1, k => by
    unfold ch
    by_cases c : hi + 1 < l
    · rw [if_pos c]
    · rw [if_neg c, CC_w hm hw, bind_s]
      exact ch_w hm hw hi 999999
/-- a sign of a level between: the levels above it stop, its own goes on -/
theorem ch_op {b l v : Nat} {s : SS} {m : Int32} (hm : f_X12_look s = some m) (hn : s.1 60 20 = -1) (hv : (lvc m).toInt = (v : Int)) (h1 : 1 ≤ v) (hl : l ≤ v) : ∀ (hi k d : Nat), v ≤ hi → hi ≤ 5 → d ≤ k → d ≤ 999999 → ∃ k', d ≤ k' ∧ ch b l hi (k + 1) s = (MF (g_X12_operand (b + 5 - v)) (v + 1) (sI s 60 19 (s.1 60 19 + 1))).bind fun r5 => (f_X12_addStep r5 m 0).bind fun r6 => ch b l (if v = 3 then 2 else v) k' r6
  | 0, _, _, h, _, _, _ => absurd h (by omega)
  | hi + 1, k, d, h, h5, hd, hd2 => by
    by_cases c : v = hi + 1
    · subst c
      by_cases c3 : hi + 1 = 3
      · obtain rfl : hi = 2 := by omega
        refine ⟨FU, by unfold FU; omega, ?_⟩
        rw [ch, if_neg (by omega), CC_op h1 hm hv hn, if_pos rfl]
        generalize MF (g_X12_operand (b + 5 - (2 + 1))) (2 + 1 + 1) (sI s 60 19 (s.1 60 19 + 1)) = o
        cases o with
        | none => rfl
        | some r5 =>
          simp only [bind_s]
          generalize f_X12_addStep r5 m 0 = o2
          cases o2 with
          | none => rfl
          | some r6 => rfl
      · refine ⟨k, hd, ?_⟩
        rw [ch, if_neg (by omega), CC_op h1 hm hv hn, if_neg c3]
        generalize MF (g_X12_operand (b + 5 - (hi + 1))) (hi + 1 + 1) (sI s 60 19 (s.1 60 19 + 1)) = o
        cases o with
        | none => rfl
        | some r5 =>
          simp only [bind_s]
          generalize f_X12_addStep r5 m 0 = o2
          cases o2 with
          | none => rfl
          | some r6 =>
            show (aft _ k (hi + 1) r6).bind _ = ch b l (hi + 1) k r6
            unfold aft
            rw [if_neg c3, ch, if_neg (by omega)]
    · obtain ⟨k', h1', h2'⟩ := ch_op hm hn hv h1 hl hi 999999 d (by omega) (by omega) hd2 hd2
      refine ⟨k', h1', ?_⟩
      rw [← h2', ch, if_neg (by omega), CC_no (by omega) h5 hm (by omega), bind_s]
      rfl
/-- the model's level l is its operand, and the levels 5 to l behind it -/
theorem MF_ch (b : Nat) (q : SS) : ∀ j : Nat, j ≤ 5 → MF (g_X12_operand (b + j)) (6 - j) q = (MF (g_X12_operand b) 6 q).bind (fun s => ch b (6 - j) 5 FU s)
  | 0, _ => by
    show MF (g_X12_operand b) 6 q = _
    cases MF (g_X12_operand b) 6 q with
    | none => rfl
    | some s => rfl
  | j + 1, h => by
    have e : 6 - (j + 1) + 1 = 6 - j := by omega
    have ih := MF_ch b q j (by omega)
    rw [show b + (j + 1) = (b + j) + 1 from rfl, MF_s (by omega) (by omega), e, ih]
    cases MF (g_X12_operand b) 6 q with
    | none => rfl
    | some s =>
      show (ch b (6 - j) 5 FU s).bind (CC (g_X12_operand (b + j)) FU (6 - (j + 1))) = ch b (6 - (j + 1)) 5 FU s
      have k : ∀ (hi k : Nat) (s : SS), 6 - (j + 1) ≤ hi → hi ≤ 5 → ch b (6 - (j + 1)) hi k s = (if hi = 6 - (j + 1) then CC (g_X12_operand (b + j)) k (6 - (j + 1)) s else (ch b (6 - j) hi k s).bind (CC (g_X12_operand (b + j)) FU (6 - (j + 1)))) := by
        intro hi
        induction hi with
        | zero => intro k s h1 h2; omega
        | succ hi ihh =>
          intro k s h1 h2
          rw [ch, if_neg (by omega)]
          by_cases c : hi + 1 = 6 - (j + 1)
          · rw [if_pos c, ← c, show b + 5 - (hi + 1) = b + j by omega]
            cases CC (g_X12_operand (b + j)) k (hi + 1) s with
            | none => rfl
            | some t =>
              show ch b (hi + 1) hi FU t = some t
              cases hi with
              | zero => rfl
              | succ hi => rw [ch, if_pos (by omega)]
          · rw [if_neg c, ch, if_neg (by omega)]
            cases CC (g_X12_operand (b + 5 - (hi + 1))) k (hi + 1) s with
            | none => rfl
            | some t =>
              show ch b (6 - (j + 1)) hi FU t = (ch b (6 - j) hi FU t).bind _
              rw [ihh FU t (by omega) (by omega)]
              by_cases c2 : hi = 6 - (j + 1)
              · rw [if_pos c2]
                have : ch b (6 - j) hi FU t = some t := by
                  cases hi with
                  | zero => rfl
                  | succ hi => rw [ch, if_pos (by omega)]
                rw [this, bind_s]
              · rw [if_neg c2]
      have := k 5 FU s (by omega) (by omega)
      by_cases c : 5 = 6 - (j + 1)
      · rw [if_pos c] at this
        obtain rfl : j = 0 := by omega
        rw [this]
        rfl
      · rw [if_neg c] at this
        exact this.symm

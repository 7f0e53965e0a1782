/-! ===== hire ===== -/
theorem P_fx5 {A0 A1 A2 A3 A4 ρ : Type} (Q : Option ρ → Prop) {F : (A0 → A1 → A2 → A3 → A4 → Option ρ) → A0 → A1 → A2 → A3 → A4 → Option ρ} (I : A0 → A1 → A2 → A3 → A4 → Prop) (μ : A0 → A1 → A2 → A3 → A4 → Nat) (h : ∀ rec a0 a1 a2 a3 a4, I a0 a1 a2 a3 a4 → (∀ b0 b1 b2 b3 b4, I b0 b1 b2 b3 b4 → μ b0 b1 b2 b3 b4 < μ a0 a1 a2 a3 a4 → Q (rec b0 b1 b2 b3 b4)) → Q (F rec a0 a1 a2 a3 a4)) : ∀ n a0 a1 a2 a3 a4, I a0 a1 a2 a3 a4 → μ a0 a1 a2 a3 a4 < n → Q (fx5 F n a0 a1 a2 a3 a4)
  | 0, _, _, _, _, _, _, hm => absurd hm (Nat.not_lt_zero _)
  | n + 1, a0, a1, a2, a3, a4, hI, hm => h _ a0 a1 a2 a3 a4 hI (fun b0 b1 b2 b3 b4 hb hl => P_fx5 Q I μ h n b0 b1 b2 b3 b4 hb (by omega))
theorem P_fx6 {A0 A1 A2 A3 A4 A5 ρ : Type} (Q : Option ρ → Prop) {F : (A0 → A1 → A2 → A3 → A4 → A5 → Option ρ) → A0 → A1 → A2 → A3 → A4 → A5 → Option ρ} (I : A0 → A1 → A2 → A3 → A4 → A5 → Prop) (μ : A0 → A1 → A2 → A3 → A4 → A5 → Nat) (h : ∀ rec a0 a1 a2 a3 a4 a5, I a0 a1 a2 a3 a4 a5 → (∀ b0 b1 b2 b3 b4 b5, I b0 b1 b2 b3 b4 b5 → μ b0 b1 b2 b3 b4 b5 < μ a0 a1 a2 a3 a4 a5 → Q (rec b0 b1 b2 b3 b4 b5)) → Q (F rec a0 a1 a2 a3 a4 a5)) : ∀ n a0 a1 a2 a3 a4 a5, I a0 a1 a2 a3 a4 a5 → μ a0 a1 a2 a3 a4 a5 < n → Q (fx6 F n a0 a1 a2 a3 a4 a5)
  | 0, _, _, _, _, _, _, _, hm => absurd hm (Nat.not_lt_zero _)
  | n + 1, a0, a1, a2, a3, a4, a5, hI, hm => h _ a0 a1 a2 a3 a4 a5 hI (fun b0 b1 b2 b3 b4 b5 hb hl => P_fx6 Q I μ h n b0 b1 b2 b3 b4 b5 hb (by omega))
theorem P_fx7 {A0 A1 A2 A3 A4 A5 A6 ρ : Type} (Q : Option ρ → Prop) {F : (A0 → A1 → A2 → A3 → A4 → A5 → A6 → Option ρ) → A0 → A1 → A2 → A3 → A4 → A5 → A6 → Option ρ} (I : A0 → A1 → A2 → A3 → A4 → A5 → A6 → Prop) (μ : A0 → A1 → A2 → A3 → A4 → A5 → A6 → Nat) (h : ∀ rec a0 a1 a2 a3 a4 a5 a6, I a0 a1 a2 a3 a4 a5 a6 → (∀ b0 b1 b2 b3 b4 b5 b6, I b0 b1 b2 b3 b4 b5 b6 → μ b0 b1 b2 b3 b4 b5 b6 < μ a0 a1 a2 a3 a4 a5 a6 → Q (rec b0 b1 b2 b3 b4 b5 b6)) → Q (F rec a0 a1 a2 a3 a4 a5 a6)) : ∀ n a0 a1 a2 a3 a4 a5 a6, I a0 a1 a2 a3 a4 a5 a6 → μ a0 a1 a2 a3 a4 a5 a6 < n → Q (fx7 F n a0 a1 a2 a3 a4 a5 a6)
  | 0, _, _, _, _, _, _, _, _, hm => absurd hm (Nat.not_lt_zero _)
  | n + 1, a0, a1, a2, a3, a4, a5, a6, hI, hm => h _ a0 a1 a2 a3 a4 a5 a6 hI (fun b0 b1 b2 b3 b4 b5 b6 hb hl => P_fx7 Q I μ h n b0 b1 b2 b3 b4 b5 b6 hb (by omega))
theorem e_p {β : Type} {c : Prop} [Decidable c] {x y t : β} (h : c) (k : x = t) : (if c then x else y) = t := by
  rw [if_pos h]
  exact k
theorem e_q {β : Type} {c : Prop} [Decidable c] {x y t : β} (h : ¬ c) (k : y = t) : (if c then x else y) = t := by
  rw [if_neg h]
  exact k
theorem e_v {β : Type} {i : Int32} {n : Nat} {x t : Option β} (h0 : 0 ≤ i.toInt) (h : i.toInt < (n : Int)) (k : x = t) : (if vin i n then x else none) = t := e_p ⟨h0, h⟩ k
theorem e_n {α β : Type} {e : α} {f : α → Option β} {t : Option β} (k : f e = t) : nm e f = t := k
theorem jmin_E (a b : Int32) : (a.toInt ≤ b.toInt → jmin a b = a) ∧ (b.toInt ≤ a.toInt → jmin a b = b) := by
  unfold jmin
  simp only [Int32.lt_iff_toInt_lt]
  constructor <;> intro h <;> split <;> first | rfl | (apply Int32.toInt_inj.mp; omega)
/-- the cheapest, the lowest of these, that still takes -/
def bestH (z : SS) (P : Int) (p : Nat) : Prop := ∀ j : Nat, (j : Int) < P → 0 < (z.1 82 j).toInt → j = p ∨ (z.1 63 p).toInt < (z.1 63 j).toInt ∨ ((z.1 63 p).toInt = (z.1 63 j).toInt ∧ p < j)
theorem m_pass {rec : SS → Int32 → Int32 → Int32 → Int32 → Int32 → Option (Int32 × SS)} {z : SS} {l2 l3 l5 l7 p : Int32} (P6 : (z.1 60 1).toInt ≤ 6) (hp : 0 ≤ p.toInt ∧ p.toInt < (z.1 60 1).toInt) (cp : 0 < (z.1 82 p.toNatClampNeg).toInt) (hb : bestH z (z.1 60 1).toInt p.toNatClampNeg) : b_X12_hire_160 rec z l2 l3 l5 l7 (-2) 0 = rec (sI z 82 p.toNatClampNeg (z.1 82 p.toNatClampNeg - 1)) l2 l3 (l5 + z.1 63 p.toNatClampNeg) p (l7 + 1) := by
  have l0 : (0 : Int32).toInt = 0 := rfl
  have lm2 : (-2 : Int32).toInt = -2 := rfl
  have pn : ((p.toNatClampNeg : Nat) : Int) = p.toInt := by
    show ((p.toInt.toNat : Nat) : Int) = _
    omega
  unfold b_X12_hire_160 b_X12_hire_201 b_X12_hire_205
  refine P_fx7 (fun o => o = rec (sI z 82 p.toNatClampNeg (z.1 82 p.toNatClampNeg - 1)) l2 l3 (l5 + z.1 63 p.toNatClampNeg) p (l7 + 1)) (fun z' m2 m3 m5 m7 l8 l9 => z' = z ∧ m2 = l2 ∧ m3 = l3 ∧ m5 = l5 ∧ m7 = l7 ∧ (0 ≤ l9.toInt ∧ l9.toInt ≤ (z.1 60 1).toInt) ∧ (l8 = -2 ∨ ((0 ≤ l8.toInt ∧ l8.toInt < l9.toInt) ∧ 0 < (z.1 82 l8.toNatClampNeg).toInt)) ∧ (p.toInt < l9.toInt → l8 = p)) (fun _ _ _ _ _ _ l9 => (6 - l9.toInt).toNat) ?_ _ _ _ _ _ _ _ _ ⟨rfl, rfl, rfl, rfl, rfl, ⟨by decide, by rw [l0]; omega⟩, Or.inl rfl, fun x => absurd x (by rw [l0]; omega)⟩ (by unfold FU; decide)
  rintro rf z' m2 m3 m5 m7 l8 l9 ⟨rfl, rfl, rfl, rfl, rfl, ⟨b0, b1⟩, hc, hd⟩ hr
  by_cases c : z'.1 60 1 ≤ l9
  · have c' := Int32.le_iff_toInt_le.mp c
    have e := hd (by omega)
    subst e
    exact e_p c (e_p (Int32.le_iff_toInt_le.mpr hp.1) (e_v hp.1 (by show l8.toInt < 6; omega) (e_v hp.1 (by show l8.toInt < 6; omega) (e_n (e_v hp.1 (by show l8.toInt < 6; omega) (e_n rfl))))))
  · have c' := Int32.lt_iff_toInt_lt.mp (Int32.not_le.mp c)
    have i := inc1 (a := l9) (by omega) (by omega)
    have n9 : ((l9.toNatClampNeg : Nat) : Int) = l9.toInt := by
      show ((l9.toInt.toNat : Nat) : Int) = _
      omega
    have k9 : l9.toInt < ((6 : Nat) : Int) := by show l9.toInt < 6; omega
    refine e_q c (e_v b0 k9 ?_)
    by_cases c0 : z'.1 82 l9.toNatClampNeg ≤ 0
    · have c0' := Int32.le_iff_toInt_le.mp c0
      have ne : p.toInt ≠ l9.toInt := fun x => by
        rw [Int32.toInt_inj.mp x] at cp
        omega
      refine e_p c0 (hr _ _ _ _ _ _ _ ⟨rfl, rfl, rfl, rfl, rfl, ⟨by omega, by omega⟩, ?_, fun x => hd (by omega)⟩ (by omega))
      rcases hc with x | ⟨x, y⟩
      · exact Or.inl x
      · exact Or.inr ⟨⟨x.1, by omega⟩, y⟩
    · have c0' := Int32.lt_iff_toInt_lt.mp (Int32.not_le.mp c0)
      have take : (p.toInt < (l9 + 1).toInt → l9 = p) → rf z' m2 m3 m5 m7 l9 (l9 + 1) = rec (sI z' 82 p.toNatClampNeg (z'.1 82 p.toNatClampNeg - 1)) m2 m3 (m5 + z'.1 63 p.toNatClampNeg) p (m7 + 1) := fun x => hr _ _ _ _ _ _ _ ⟨rfl, rfl, rfl, rfl, rfl, ⟨by omega, by omega⟩, Or.inr ⟨⟨b0, by omega⟩, by omega⟩, x⟩ (by omega)
      refine e_q c0 ?_
      by_cases c8 : l8 < 0
      · have c8' := Int32.lt_iff_toInt_lt.mp c8
        refine e_p c8 (take (fun x => ?_))
        apply Int32.toInt_inj.mp
        by_cases y : p.toInt < l9.toInt
        · have := hd y
          rw [this] at c8'
          omega
        · omega
      · have c8' := Int32.le_iff_toInt_le.mp (Int32.not_lt.mp c8)
        rcases hc with x | ⟨⟨x0, x1⟩, y⟩
        · rw [x] at c8'
          omega
        have n8 : ((l8.toNatClampNeg : Nat) : Int) = l8.toInt := by
          show ((l8.toInt.toNat : Nat) : Int) = _
          omega
        refine e_q c8 (e_v b0 k9 (e_v x0 (by show l8.toInt < 6; omega) ?_))
        have b8 := hb l8.toNatClampNeg (by omega) y
        have b9 := hb l9.toNatClampNeg (by omega) (by omega)
        by_cases cc : z'.1 63 l8.toNatClampNeg ≤ z'.1 63 l9.toNatClampNeg
        · have cc' := Int32.le_iff_toInt_le.mp cc
          refine e_p cc (hr _ _ _ _ _ _ _ ⟨rfl, rfl, rfl, rfl, rfl, ⟨by omega, by omega⟩, Or.inr ⟨⟨x0, by omega⟩, y⟩, fun u => ?_⟩ (by omega))
          by_cases v : p.toInt < l9.toInt
          · exact hd v
          · have v' : p = l9 := Int32.toInt_inj.mp (by omega)
            rw [v'] at b8
            rcases b8 with w | w | w <;> omega
        · have cc' := Int32.lt_iff_toInt_lt.mp (Int32.not_le.mp cc)
          refine e_q cc (take (fun u => ?_))
          by_cases v : p.toInt < l9.toInt
          · have v' := hd v
            rw [v'] at cc'
            rcases b9 with w | w | w <;> omega
          · exact Int32.toInt_inj.mp (by omega)
theorem m_none {rec : SS → Int32 → Int32 → Int32 → Int32 → Int32 → Option (Int32 × SS)} {z : SS} {l2 l3 l5 l7 : Int32} (P0 : 0 ≤ (z.1 60 1).toInt) (P6 : (z.1 60 1).toInt ≤ 6) (hb : ∀ j : Nat, (j : Int) < (z.1 60 1).toInt → (z.1 82 j).toInt ≤ 0) : b_X12_hire_160 rec z l2 l3 l5 l7 (-2) 0 = some (-2, z) := by
  have l0 : (0 : Int32).toInt = 0 := rfl
  unfold b_X12_hire_160 b_X12_hire_201 b_X12_hire_205
  refine P_fx7 (fun o => o = some (-2, z)) (fun z' _ _ _ _ l8 l9 => z' = z ∧ l8 = -2 ∧ (0 ≤ l9.toInt ∧ l9.toInt ≤ (z.1 60 1).toInt)) (fun _ _ _ _ _ _ l9 => (6 - l9.toInt).toNat) ?_ _ _ _ _ _ _ _ _ ⟨rfl, rfl, ⟨by decide, by rw [l0]; omega⟩⟩ (by unfold FU; decide)
  rintro rf z' m2 m3 m5 m7 l8 l9 ⟨rfl, rfl, ⟨b0, b1⟩⟩ hr
  by_cases c : z'.1 60 1 ≤ l9
  · exact e_p c (e_q (by decide) rfl)
  · have c' := Int32.lt_iff_toInt_lt.mp (Int32.not_le.mp c)
    have i := inc1 (a := l9) (by omega) (by omega)
    have h9 := hb l9.toNatClampNeg (by show ((l9.toInt.toNat : Nat) : Int) < _; omega)
    exact e_q c (e_v b0 (by show l9.toInt < 6; omega) (e_p (Int32.le_iff_toInt_le.mpr (by omega)) (hr _ _ _ _ _ _ _ ⟨rfl, rfl, by omega, by omega⟩ (by omega))))
/-- the model's payments, one after another -/
def mH : (SS → Int32 → Int32 → Int32 → Int32 → Int32 → Option (Int32 × SS)) → SS → Int32 → Int32 → Int32 → Int32 → Int32 → Option (Int32 × SS) := fun rec_147 q l2 l3 l5 l6 l7 => if l2 ≤ l7 then (if l3 = 0 then (some (l5, q)) else (some (l6, q))) else (b_X12_hire_160 rec_147 q l2 l3 l5 l7 (-2 : Int32) (0 : Int32))
theorem mH_147 (z : SS) (l2 l3 l5 l6 l7 : Int32) : b_X12_hire_147 z l2 l3 l5 l6 l7 = fx6 mH FU z l2 l3 l5 l6 l7 := rfl
theorem m_takes {l2 l3 : Int32} {s : Int32 × SS} (h2 : l2.toInt ≤ 12) : ∀ (k n : Nat) (z : SS) (l5 l6 l7 p : Int32), (z.1 60 1).toInt ≤ 6 → (0 ≤ p.toInt ∧ p.toInt < (z.1 60 1).toInt) → bestH z (z.1 60 1).toInt p.toNatClampNeg → (k : Int) ≤ (z.1 82 p.toNatClampNeg).toInt → (z.1 82 p.toNatClampNeg).toInt ≤ 9 → 0 ≤ l7.toInt → l7.toInt + k ≤ l2.toInt → k < n → fx6 mH n z l2 l3 l5 l6 l7 = some s → ∃ (z' : SS) (l7' : Int32), fx6 mH (n - k) z' l2 l3 (l5 + Int32.ofNat k * z.1 63 p.toNatClampNeg) (if k = 0 then l6 else p) l7' = some s ∧ l7'.toInt = l7.toInt + k ∧ z'.1 60 = z.1 60 ∧ z'.1 63 = z.1 63 ∧ (∀ j, j ≠ p.toNatClampNeg → z'.1 82 j = z.1 82 j) ∧ (z'.1 82 p.toNatClampNeg).toInt = (z.1 82 p.toNatClampNeg).toInt - k
  | 0, n, z, l5, l6, l7, p, P6, hp, hb, h1, h9, h7, h72, hn, hs => ⟨z, l7, by rw [show Int32.ofNat 0 = 0 from rfl, Int32.zero_mul, Int32.add_zero, if_pos rfl]; exact hs, by omega, rfl, rfl, fun _ _ => rfl, by omega⟩
  | k + 1, 0, _, _, _, _, _, _, _, _, _, _, _, _, hn, _ => absurd hn (Nat.not_lt_zero _)
  | k + 1, n + 1, z, l5, l6, l7, p, P6, hp, hb, h1, h9, h7, h72, hn, hs => by
    have l1 : (1 : Int32).toInt = 1 := rfl
    have e : fx6 mH n (sI z 82 p.toNatClampNeg (z.1 82 p.toNatClampNeg - 1)) l2 l3 (l5 + z.1 63 p.toNatClampNeg) p (l7 + 1) = some s := by
      rw [← hs]
      show _ = (if l2 ≤ l7 then (if l3 = 0 then (some (l5, z)) else (some (l6, z))) else b_X12_hire_160 (fx6 mH n) z l2 l3 l5 l7 (-2) 0)
      rw [if_neg (fun x => by have := Int32.le_iff_toInt_le.mp x; omega), m_pass P6 hp (by omega) hb]
    have i := inc1 (a := l7) (by omega) (by omega)
    have d : (z.1 82 p.toNatClampNeg - 1).toInt = (z.1 82 p.toNatClampNeg).toInt - 1 := dec1 (by omega)
    have r82 : (sI z 82 p.toNatClampNeg (z.1 82 p.toNatClampNeg - 1)).1 82 p.toNatClampNeg = z.1 82 p.toNatClampNeg - 1 := by
      rw [sI_rd, if_pos ⟨rfl, rfl⟩]
    have o82 : ∀ j, j ≠ p.toNatClampNeg → (sI z 82 p.toNatClampNeg (z.1 82 p.toNatClampNeg - 1)).1 82 j = z.1 82 j := fun j hj => by
      rw [sI_rd, if_neg (fun x => hj x.2)]
    have r60 : (sI z 82 p.toNatClampNeg (z.1 82 p.toNatClampNeg - 1)).1 60 = z.1 60 := sI_ro (by decide)
    have r63 : (sI z 82 p.toNatClampNeg (z.1 82 p.toNatClampNeg - 1)).1 63 = z.1 63 := sI_ro (by decide)
    have hb2 : bestH (sI z 82 p.toNatClampNeg (z.1 82 p.toNatClampNeg - 1)) (z.1 60 1).toInt p.toNatClampNeg := fun j hj hc => by
      by_cases c : j = p.toNatClampNeg
      · exact Or.inl c
      · rw [o82 j c] at hc
        rw [r63]
        exact hb j hj hc
    obtain ⟨z', l7', g1, g2, g3, g4, g5, g6⟩ := m_takes h2 k n (sI z 82 p.toNatClampNeg (z.1 82 p.toNatClampNeg - 1)) (l5 + z.1 63 p.toNatClampNeg) p (l7 + 1) p (by rw [r60]; exact P6) (by rw [r60]; exact hp) (by rw [r60]; exact hb2) (by rw [r82, d]; omega) (by rw [r82, d]; omega) (by omega) (by omega) (by omega) e
    refine ⟨z', l7', ?_, by omega, g3.trans r60, g4.trans r63, fun j hj => (g5 j hj).trans (o82 j hj), by rw [g6, r82, d]; omega⟩
    rw [show n + 1 - (k + 1) = n - k by omega, if_neg (by omega), ← oa, Int32.add_mul, Int32.one_mul, Int32.add_comm (Int32.ofNat k * z.1 63 p.toNatClampNeg), ← Int32.add_assoc]
    rw [r63] at g1
    rw [← g1]
    by_cases k0 : k = 0
    · rw [if_pos k0]
    · rw [if_neg k0]
/-- what a person takes at the price told -/
def tkH (q : SS) (a : Int32) (i : Nat) : Int32 := if (i : Int) = a.toInt ∨ q.1 62 i = 1 then 0 else q.1 64 i
theorem x_takesE {q r : SS} (hY : RY q) (h1 : r.1 1 1 = q.1 60 1) (h4 : r.1 4 = q.1 62) (h5 : r.1 5 = q.1 5) (h6 : r.1 6 = q.1 64) {a p L : Int32} (ha : 0 ≤ a.toInt) (hp : 0 ≤ p.toInt ∧ p.toInt < (q.1 60 1).toInt) : f_X11_takesFor r a p L = some (if q.1 63 p.toNatClampNeg = L then tkH q a p.toNatClampNeg else 0) := by
  have p6 : (r.1 1 1).toInt ≤ 6 := by rw [h1]; exact RY_p6 hY
  have pn : ((p.toNatClampNeg : Nat) : Int) = p.toInt := by
    show ((p.toInt.toNat : Nat) : Int) = _
    omega
  have rp := RY_price hY p.toNatClampNeg (by omega)
  have rc := RY_rchild hY p.toNatClampNeg (by omega)
  have g1 := x_get1 p6 p
  have g2 := x_get2 p6 p
  have g3 := x_get3 p6 p
  rw [if_pos (by rw [h1]; exact hp), h4] at g1
  rw [if_pos (by rw [h1]; exact hp), h5, rp] at g2
  rw [if_pos (by rw [h1]; exact hp), h6] at g3
  unfold f_X11_takesFor b_X11_takesFor_34 b_X11_takesFor_35 tkH
  by_cases c : p = a
  · rw [if_pos c, if_pos rfl, if_pos (Or.inl (by rw [pn, c]))]
    split <;> rfl
  · have c' : p.toInt ≠ a.toInt := fun x => c (Int32.toInt_inj.mp x)
    rw [if_neg c, g1, bind_s]
    by_cases d : q.1 62 p.toNatClampNeg = 0
    · have nd : ¬ (((p.toNatClampNeg : Nat) : Int) = a.toInt ∨ q.1 62 p.toNatClampNeg = 1) := fun x => by
        rcases x with x | x
        · omega
        · rw [d] at x
          exact absurd x (by decide)
      rw [if_pos d, g2, bind_s, if_neg nd]
      by_cases e : q.1 63 p.toNatClampNeg = L
      · rw [if_pos e, if_pos e, if_neg (by decide), g3, bind_s]
      · rw [if_neg e, if_neg e, if_pos rfl]
    · have d1 : q.1 62 p.toNatClampNeg = 1 := Int32.toInt_inj.mp (by
        have : (q.1 62 p.toNatClampNeg).toInt ≠ 0 := fun x => d (Int32.toInt_inj.mp x)
        show _ = (1 : Int)
        omega)
      rw [if_neg d, if_pos rfl, if_pos (Or.inr d1)]
      split <;> rfl
/-- the class at a price and a person, the model after as many payments -/
def HSt (q : SS) (a l2 l3 : Int32) (s : Int32 × SS) (L pn : Int) (l4 l5 l6 : Int32) : Prop := (l4 = 0 ∧ s.1 = if l3 = 0 then l5 else l6) ∨ (0 < l4.toInt ∧ ∃ (n : Nat) (z : SS) (l7 : Int32), fx6 mH n z l2 l3 l5 l6 l7 = some s ∧ l7.toInt = l2.toInt - l4.toInt ∧ l4.toInt < (n : Int) ∧ z.1 60 = q.1 60 ∧ z.1 63 = q.1 63 ∧ ∀ j : Nat, (j : Int) < (q.1 60 1).toInt → z.1 82 j = if (q.1 63 j).toInt < L ∨ ((q.1 63 j).toInt = L ∧ (j : Int) < pn) then 0 else tkH q a j)
theorem m_fin {l2 l3 l5 l6 l7 : Int32} {s : Int32 × SS} {n : Nat} {z : SS} (hn : 0 < n) (e : fx6 mH n z l2 l3 l5 l6 l7 = some s) (h : l2.toInt ≤ l7.toInt) : s.1 = if l3 = 0 then l5 else l6 := by
  obtain ⟨m, rfl⟩ : ∃ m, n = m + 1 := ⟨n - 1, by omega⟩
  have x : (if l2 ≤ l7 then (if l3 = 0 then (some (l5, z)) else (some (l6, z))) else b_X12_hire_160 (fx6 mH m) z l2 l3 l5 l7 (-2) 0) = some s := e
  rw [if_pos (Int32.le_iff_toInt_le.mpr h)] at x
  by_cases c : l3 = 0
  · rw [if_pos c] at x
    rw [if_pos c, ← Option.some.inj x]
  · rw [if_neg c] at x
    rw [if_neg c, ← Option.some.inj x]
theorem tkH_b {q : SS} (hY : RY q) {a : Int32} {i : Nat} (hi : (i : Int) < (q.1 60 1).toInt) : 0 ≤ (tkH q a i).toInt ∧ (tkH q a i).toInt ≤ 9 := by
  unfold tkH
  split
  · exact ⟨by decide, by decide⟩
  · exact RY_rtakes hY i hi
theorem HSt_next {q : SS} (hY : RY q) {a l2 l3 l4 l5 l6 : Int32} {s : Int32 × SS} {L : Int} {m : Int} (hm : (q.1 60 1).toInt ≤ m) (h : HSt q a l2 l3 s L m l4 l5 l6) : HSt q a l2 l3 s (L + 1) 0 l4 l5 l6 := by
  rcases h with h | ⟨h1, n, z, l7, h2, h3, h4, h5, h6, h7⟩
  · exact Or.inl h
  · refine Or.inr ⟨h1, n, z, l7, h2, h3, h4, h5, h6, fun j hj => ?_⟩
    rw [h7 j hj]
    by_cases c : (q.1 63 j).toInt < L ∨ ((q.1 63 j).toInt = L ∧ (j : Int) < m)
    · rw [if_pos c, if_pos (Or.inl (by omega))]
    · rw [if_neg c, if_neg (by omega)]
theorem HSt_end {q : SS} (hY : RY q) {a l2 l3 l4 l5 l6 : Int32} {s : Int32 × SS} {L m : Int} (hL : 99 < L) (h : HSt q a l2 l3 s L m l4 l5 l6) (h4 : 0 < l4.toInt) (h12 : l4.toInt ≤ l2.toInt) : s.1 = -2 := by
  have l0 : (0 : Int32).toInt = 0 := rfl
  rcases h with h | ⟨_, n, z, l7, h2, h3, hn, h5, h6, h7⟩
  · rw [h.1] at h4
    omega
  · obtain ⟨m, rfl⟩ : ∃ m, n = m + 1 := ⟨n - 1, by omega⟩
    have x : (if l2 ≤ l7 then (if l3 = 0 then (some (l5, z)) else (some (l6, z))) else b_X12_hire_160 (fx6 mH m) z l2 l3 l5 l7 (-2) 0) = some s := h2
    rw [if_neg (fun y => by have := Int32.le_iff_toInt_le.mp y; omega), m_none (by rw [h5]; exact RY_p0 hY) (by rw [h5]; exact RY_p6 hY) (fun j hj => by
      rw [h5] at hj
      rw [h7 j hj, if_pos (Or.inl (by have := (RY_rprice hY j hj).2; omega))]
      decide)] at x
    rw [← Option.some.inj x]
theorem HSt_skip {q : SS} {a l2 l3 l4 l5 l6 p L' : Int32} {s : Int32 × SS} (hp : 0 ≤ p.toInt ∧ p.toInt < (q.1 60 1).toInt) (h : HSt q a l2 l3 s L'.toInt p.toInt l4 l5 l6) (hv : (if q.1 63 p.toNatClampNeg = L' then tkH q a p.toNatClampNeg else 0) = 0) : HSt q a l2 l3 s L'.toInt (p.toInt + 1) l4 l5 l6 := by
  rcases h with h | ⟨h1, n, z, l7, h2, h3, h4, h5, h6, h7⟩
  · exact Or.inl h
  · refine Or.inr ⟨h1, n, z, l7, h2, h3, h4, h5, h6, fun j hj => ?_⟩
    rw [h7 j hj]
    by_cases c : (q.1 63 j).toInt < L'.toInt ∨ ((q.1 63 j).toInt = L'.toInt ∧ (j : Int) < p.toInt)
    · rw [if_pos c, if_pos (by omega)]
    · rw [if_neg c]
      by_cases d : (q.1 63 j).toInt = L'.toInt ∧ (j : Int) = p.toInt
      · have ej : j = p.toNatClampNeg := by
          show j = p.toInt.toNat
          omega
        rw [if_pos (Or.inr ⟨d.1, by omega⟩)]
        rw [← ej, if_pos (Int32.toInt_inj.mp d.1)] at hv
        exact hv
      · rw [if_neg (fun x => by
          rcases x with x | x
          · exact c (Or.inl x)
          · exact d ⟨x.1, by
              by_cases y : (j : Int) < p.toInt
              · exact absurd (Or.inr ⟨x.1, y⟩) c
              · omega⟩)]
theorem HSt_take {q : SS} (hY : RY q) {a l2 l3 l4 l5 l6 p L' v : Int32} {s : Int32 × SS} (h12 : l2.toInt ≤ 12) (h42 : l4.toInt ≤ l2.toInt) (h4 : 0 < l4.toInt) (hp : 0 ≤ p.toInt ∧ p.toInt < (q.1 60 1).toInt) (h : HSt q a l2 l3 s L'.toInt p.toInt l4 l5 l6) (eL : q.1 63 p.toNatClampNeg = L') (ev : tkH q a p.toNatClampNeg = v) (hv : 0 < v.toInt) : HSt q a l2 l3 s L'.toInt (p.toInt + 1) (l4 - jmin l4 v) (l5 + jmin l4 v * L') p := by
  have l0 : (0 : Int32).toInt = 0 := rfl
  have pn : ((p.toNatClampNeg : Nat) : Int) = p.toInt := by
    show ((p.toInt.toNat : Nat) : Int) = _
    omega
  rcases h with h | ⟨_, n, z, l7, h2, h3, hn, h5, h6, h7⟩
  · rw [h.1] at h4
    omega
  have v9 := tkH_b hY (a := a) (i := p.toNatClampNeg) (by omega)
  rw [ev] at v9
  have z82 : z.1 82 p.toNatClampNeg = v := by
    rw [h7 _ (by omega), if_neg (by rw [eL]; omega), ev]
  have hb : bestH z (z.1 60 1).toInt p.toNatClampNeg := fun j hj hc => by
    rw [h5] at hj
    rw [h6, eL]
    rw [h7 j hj] at hc
    by_cases c : (q.1 63 j).toInt < L'.toInt ∨ ((q.1 63 j).toInt = L'.toInt ∧ (j : Int) < p.toInt)
    · rw [if_pos c, l0] at hc
      omega
    · omega
  have jm := jmin_E l4 v
  obtain ⟨k, ek, k1, k2, k3⟩ : ∃ k : Nat, jmin l4 v = Int32.ofNat k ∧ 0 < k ∧ (k : Int) ≤ l4.toInt ∧ (k : Int) ≤ v.toInt ∧ ((k : Int) = l4.toInt ∨ (k : Int) = v.toInt) := by
    by_cases c : l4.toInt ≤ v.toInt
    · obtain ⟨k, hk, e⟩ := ofN (a := l4) (n := 13) (by omega) (by omega)
      have ei : l4.toInt = (k : Int) := by rw [e]; exact onI (by omega)
      exact ⟨k, (jm.1 c).trans e, by omega, by omega, by omega, by omega⟩
    · obtain ⟨k, hk, e⟩ := ofN (a := v) (n := 13) (by omega) (by omega)
      have ei : v.toInt = (k : Int) := by rw [e]; exact onI (by omega)
      exact ⟨k, (jm.2 (by omega)).trans e, by omega, by omega, by omega, by omega⟩
  have ki : (Int32.ofNat k).toInt = (k : Int) := onI (by omega)
  have s4 : (l4 - Int32.ofNat k).toInt = l4.toInt - k := by rw [tsub (by omega) (by omega), ki]
  obtain ⟨z', l7', g1, g2, g3, g4, g5, g6⟩ := m_takes h12 k n z l5 l6 l7 p (by rw [h5]; exact RY_p6 hY) (by rw [h5]; exact hp) hb (by rw [z82]; omega) (by rw [z82]; omega) (by omega) (by omega) (by omega) h2
  rw [h6, eL, if_neg (by omega)] at g1
  rw [ek]
  by_cases c : (k : Int) = l4.toInt
  · refine Or.inl ⟨Int32.toInt_inj.mp (by rw [s4, l0]; omega), m_fin (by omega) g1 (by omega)⟩
  · refine Or.inr ⟨by omega, n - k, z', l7', g1, by omega, by omega, g3.trans h5, g4.trans h6, fun j hj => ?_⟩
    by_cases d : j = p.toNatClampNeg
    · rw [d, eL, if_pos (Or.inr ⟨rfl, by omega⟩)]
      exact Int32.toInt_inj.mp (by rw [g6, z82, l0]; omega)
    · have d' : (j : Int) ≠ p.toInt := fun x => d (by show j = p.toInt.toNat; omega)
      rw [g5 j d, h7 j hj]
      by_cases e : (q.1 63 j).toInt < L'.toInt ∨ ((q.1 63 j).toInt = L'.toInt ∧ (j : Int) < p.toInt)
      · rw [if_pos e, if_pos (by omega)]
      · rw [if_neg e, if_neg (by omega)]
/-! ===== hire: the calls ===== -/
theorem q_p {β : Type} (Q : β → Prop) {c : Prop} [Decidable c] {x y : β} (h : c) (k : Q x) : Q (if c then x else y) := by
  rw [if_pos h]
  exact k
theorem q_q {β : Type} (Q : β → Prop) {c : Prop} [Decidable c] {x y : β} (h : ¬ c) (k : Q y) : Q (if c then x else y) := by
  rw [if_neg h]
  exact k
theorem q_v {β : Type} (Q : Option β → Prop) {i : Int32} {n : Nat} {x : Option β} (h0 : 0 ≤ i.toInt) (h : i.toInt < (n : Int)) (k : Q x) : Q (if vin i n then x else none) := q_p Q ⟨h0, h⟩ k
theorem q_n {α β : Type} (Q : Option β → Prop) {e : α} {f : α → Option β} (k : Q (f e)) : Q (nm e f) := k
/-- the model has noted what each takes -/
def QC (y : SS) (a l2 l3 : Int32) (o : Option (Int32 × SS)) : Prop := ∃ z : SS, o = b_X12_hire_147 z l2 l3 0 (-2) 0 ∧ z.1 60 = y.1 60 ∧ z.1 63 = y.1 63 ∧ ∀ j : Nat, (j : Int) < (y.1 60 1).toInt → z.1 82 j = tkH y a j
theorem m_caps {y : SS} (hY : RY y) {a l2 l3 : Int32} : QC y a l2 l3 (b_X12_hire_87 y a l2 l3 0) := by
  have l0 : (0 : Int32).toInt = 0 := rfl
  have P0 := RY_p0 hY
  have P6 := RY_p6 hY
  unfold b_X12_hire_87 b_X12_hire_119 b_X12_hire_130
  refine P_fx5 (QC y a l2 l3) (fun z m1 m2 m3 m5 => m1 = a ∧ m2 = l2 ∧ m3 = l3 ∧ (0 ≤ m5.toInt ∧ m5.toInt ≤ (y.1 60 1).toInt) ∧ z.1 60 = y.1 60 ∧ z.1 62 = y.1 62 ∧ z.1 63 = y.1 63 ∧ z.1 64 = y.1 64 ∧ ∀ j : Nat, (j : Int) < m5.toInt → z.1 82 j = tkH y a j) (fun _ _ _ _ m5 => (6 - m5.toInt).toNat) ?_ _ _ _ _ _ _ ⟨rfl, rfl, rfl, ⟨by decide, by rw [l0]; omega⟩, rfl, rfl, rfl, rfl, fun j hj => by rw [l0] at hj; omega⟩ (by unfold FU; decide)
  rintro rf z m1 m2 m3 m5 ⟨rfl, rfl, rfl, ⟨b0, b1⟩, z60, z62, z63, z64, hj⟩ hr
  by_cases c : z.1 60 1 ≤ m5
  · have c' := Int32.le_iff_toInt_le.mp c
    rw [z60] at c'
    exact q_p (QC y m1 m2 m3) c ⟨z, rfl, z60, z63, fun j h => hj j (by omega)⟩
  · have c' := Int32.lt_iff_toInt_lt.mp (Int32.not_le.mp c)
    rw [z60] at c'
    have i := inc1 (a := m5) (by omega) (by omega)
    have n5 : ((m5.toNatClampNeg : Nat) : Int) = m5.toInt := by
      show ((m5.toInt.toNat : Nat) : Int) = _
      omega
    have v5 : m5.toInt < ((6 : Nat) : Int) := by show m5.toInt < 6; omega
    have go : ∀ v : Int32, v = tkH y m1 m5.toNatClampNeg → QC y m1 m2 m3 (rf (sI z 82 m5.toNatClampNeg v) m1 m2 m3 (m5 + 1)) := fun v hv => hr _ _ _ _ _ ⟨rfl, rfl, rfl, ⟨by omega, by omega⟩, (sI_ro (by decide)).trans z60, (sI_ro (by decide)).trans z62, (sI_ro (by decide)).trans z63, (sI_ro (by decide)).trans z64, fun j h => by
      rw [sI_rd]
      by_cases e : j = m5.toNatClampNeg
      · rw [if_pos ⟨rfl, e⟩, hv, e]
      · rw [if_neg (fun x => e x.2)]
        exact hj j (by omega)⟩ (by omega)
    refine q_q (QC y m1 m2 m3) c ?_
    by_cases e : m5 = m1
    · refine q_p (QC y m1 m2 m3) e (q_v (QC y m1 m2 m3) b0 v5 (q_n (QC y m1 m2 m3) (go 0 ?_)))
      unfold tkH
      rw [if_pos (Or.inl (by rw [n5, e]))]
    · have e' : m5.toInt ≠ m1.toInt := fun x => e (Int32.toInt_inj.mp x)
      refine q_q (QC y m1 m2 m3) e (q_v (QC y m1 m2 m3) b0 v5 ?_)
      by_cases d : z.1 62 m5.toNatClampNeg = 1
      · refine q_p (QC y m1 m2 m3) d (q_v (QC y m1 m2 m3) b0 v5 (q_n (QC y m1 m2 m3) (go 0 ?_)))
        unfold tkH
        rw [if_pos (Or.inr (by rw [← z62]; exact d))]
      · refine q_q (QC y m1 m2 m3) d (q_v (QC y m1 m2 m3) b0 v5 (q_v (QC y m1 m2 m3) b0 v5 (q_n (QC y m1 m2 m3) (go _ ?_))))
        unfold tkH
        rw [if_neg (fun x => by
          rcases x with x | x
          · omega
          · rw [← z62] at x
            exact d x), z64]
/-- the loose tickets of a person -/
def looH (y : SS) (a : Int32) (t : Nat) : Bool := decide (y.1 65 t = a) && decide ((y.1 67 t).toInt < 4)
theorem m_lcnt {y : SS} (hY : RY y) {a l2 l3 : Int32} : b_X12_hire_35 y a l2 l3 0 0 = (if l2 ≤ Int32.ofNat (cntN (looH y a) (y.1 60 6).toInt.toNat) then b_X12_hire_87 y a l2 l3 0 else some (-2, y)) := by
  have k0 := RY_k0 hY
  have k12 := RY_k12 hY
  unfold b_X12_hire_35
  refine P_fx6 (fun o => o = (if l2 ≤ Int32.ofNat (cntN (looH y a) (y.1 60 6).toInt.toNat) then b_X12_hire_87 y a l2 l3 0 else some (-2, y))) (fun z m1 m2 m3 m4 m5 => z = y ∧ m1 = a ∧ m2 = l2 ∧ m3 = l3 ∧ ∃ i : Nat, m5 = Int32.ofNat i ∧ (i : Int) ≤ (y.1 60 6).toInt ∧ m4 = Int32.ofNat (cntN (looH y a) i)) (fun _ _ _ _ _ m5 => (12 - m5.toInt).toNat) ?_ _ _ _ _ _ _ _ ⟨rfl, rfl, rfl, rfl, 0, rfl, by omega, rfl⟩ (by unfold FU; decide)
  rintro rf z m1 m2 m3 m4 m5 ⟨rfl, rfl, rfl, rfl, i, rfl, hi, rfl⟩ hr
  have ei : (Int32.ofNat i).toInt = (i : Int) := onI (by omega)
  have ci : (Int32.ofNat i).toNatClampNeg = i := onC (by omega)
  by_cases c : z.1 60 6 ≤ Int32.ofNat i
  · have c' := Int32.le_iff_toInt_le.mp c
    rw [show (z.1 60 6).toInt.toNat = i by omega]
    exact e_p c rfl
  · have c' := Int32.lt_iff_toInt_lt.mp (Int32.not_le.mp c)
    have e2 : (Int32.ofNat (i + 1)).toInt = ((i + 1 : Nat) : Int) := onI (by omega)
    have v5 : (Int32.ofNat i).toInt < ((12 : Nat) : Int) := by rw [ei]; show (i : Int) < 12; omega
    have v0 : 0 ≤ (Int32.ofNat i).toInt := by omega
    have rf4 := RY_rfolds hY i (by omega)
    unfold b_X12_hire_69
    have no : looH z m1 i = false → rf z m1 m2 m3 (Int32.ofNat (cntN (looH z m1) i)) (Int32.ofNat i + 1) = (if m2 ≤ Int32.ofNat (cntN (looH z m1) (z.1 60 6).toInt.toNat) then b_X12_hire_87 z m1 m2 m3 0 else some (-2, z)) := fun x => by
      rw [cnt0 x, oa]
      exact hr _ _ _ _ _ _ ⟨rfl, rfl, rfl, rfl, i + 1, rfl, by omega, rfl⟩ (by omega)
    have up : looH z m1 i = true → rf z m1 m2 m3 (Int32.ofNat (cntN (looH z m1) i) + 1) (Int32.ofNat i + 1) = (if m2 ≤ Int32.ofNat (cntN (looH z m1) (z.1 60 6).toInt.toNat) then b_X12_hire_87 z m1 m2 m3 0 else some (-2, z)) := fun x => by
      rw [cnt1 x, oa]
      exact hr _ _ _ _ _ _ ⟨rfl, rfl, rfl, rfl, i + 1, rfl, by omega, rfl⟩ (by omega)
    refine e_q c (e_v v0 v5 ?_)
    rw [ci]
    by_cases d : z.1 65 i = m1
    · refine e_p d (e_v v0 v5 ?_)
      by_cases e : z.1 67 i = 4
      · refine e_p e (no ?_)
        unfold looH
        rw [e]
        simp
      · have e' : (z.1 67 i).toInt ≠ 4 := fun x => e (Int32.toInt_inj.mp x)
        refine e_q e (up ?_)
        unfold looH
        simp only [d, decide_true, Bool.true_and, decide_eq_true_eq]
        omega
    · refine e_q d (no ?_)
      unfold looH
      simp [d]
theorem m_hireG {y : SS} (hY : RY y) {a b c : Int32} (ha : 0 ≤ a.toInt ∧ a.toInt < (y.1 60 1).toInt) (hb : 0 ≤ b.toInt ∧ b.toInt ≤ 12) (hc : 0 ≤ c.toInt ∧ c.toInt ≤ 1) : ∃ z : SS, (z.1 60 = y.1 60 ∧ z.1 63 = y.1 63 ∧ ∀ j : Nat, (j : Int) < (y.1 60 1).toInt → z.1 82 j = tkH y a j) ∧ f_X12_hire y a b c = (if b ≤ Int32.ofNat (cntN (looH y a) (y.1 60 6).toInt.toNat) then fx6 mH FU z b c 0 (-2) 0 else some (-2, y)) := by
  obtain ⟨z, e, h1, h2, h3⟩ := m_caps hY (a := a) (l2 := b) (l3 := c)
  refine ⟨z, ⟨h1, h2, h3⟩, ?_⟩
  unfold f_X12_hire
  rw [m_isOne (RY_p0 hY) a, bind_s, if_neg (by rw [bI_t ha]; decide), m_in, bind_s, if_neg (by rw [bI_t (show (0 : Int32).toInt ≤ b.toInt ∧ b.toInt ≤ (12 : Int32).toInt from hb)]; decide), m_in, bind_s, if_neg (by rw [bI_t (show (0 : Int32).toInt ≤ c.toInt ∧ c.toInt ≤ (1 : Int32).toInt from hc)]; decide), m_lcnt hY, e, mH_147]
theorem m_hireR {y : SS} (hY : RY y) {a b c : Int32} (h : ¬ ((0 ≤ a.toInt ∧ a.toInt < (y.1 60 1).toInt) ∧ (0 ≤ b.toInt ∧ b.toInt ≤ 12) ∧ (0 ≤ c.toInt ∧ c.toInt ≤ 1))) : f_X12_hire y a b c = some (-1, y) := by
  unfold f_X12_hire
  rw [m_isOne (RY_p0 hY) a, bind_s]
  by_cases ha : 0 ≤ a.toInt ∧ a.toInt < (y.1 60 1).toInt
  · rw [if_neg (by rw [bI_t ha]; decide), m_in, bind_s]
    by_cases hb : (0 : Int32).toInt ≤ b.toInt ∧ b.toInt ≤ (12 : Int32).toInt
    · rw [if_neg (by rw [bI_t hb]; decide), m_in, bind_s]
      rw [if_pos (bI_f (show ¬ ((0 : Int32).toInt ≤ c.toInt ∧ c.toInt ≤ (1 : Int32).toInt) from fun hc => h ⟨ha, hb, hc⟩))]
    · rw [if_pos (bI_f hb)]
  · rw [if_pos (bI_f ha)]
theorem sim_hire {q y : SS} (h : INV q) (f : MC q y) (hy : INV y) (a b c : Int32) : T2 (f_X11_hire q a b c) (f_X12_hire y a b c) (fun r s => r.1 = s.1) := by
  have hY := INV_RY h
  have hZ := INV_RY hy
  have l0 : (0 : Int32).toInt = 0 := rfl
  have l1 : (1 : Int32).toInt = 1 := rfl
  have l12 : (12 : Int32).toInt = 12 := rfl
  have l99 : (99 : Int32).toInt = 99 := rfl
  have y60 : y.1 60 = q.1 60 := f.1 60 (by decide)
  have P6 := RY_p6 hY
  by_cases G : (0 ≤ a.toInt ∧ a.toInt < (y.1 60 1).toInt) ∧ (0 ≤ b.toInt ∧ b.toInt ≤ 12) ∧ (0 ≤ c.toInt ∧ c.toInt ≤ 1)
  rotate_left
  · rw [m_hireR hZ G]
    unfold f_X11_hire
    refine T2_le (x_isPerson q a) ?_
    rw [RY_p hY, ← y60]
    by_cases ha : 0 ≤ a.toInt ∧ a.toInt < (y.1 60 1).toInt
    · refine T2_ql (by rw [bI_t ha]; decide) ?_
      by_cases b0 : b < 0
      · exact T2_pl b0 (T2_s rfl)
      refine T2_ql b0 ?_
      by_cases b12 : (12 : Int32) < b
      · exact T2_pl b12 (T2_s rfl)
      refine T2_ql b12 ?_
      by_cases c0 : c < 0
      · exact T2_pl c0 (T2_s rfl)
      refine T2_ql c0 ?_
      have b0' := Int32.le_iff_toInt_le.mp (Int32.not_lt.mp b0)
      have b12' := Int32.le_iff_toInt_le.mp (Int32.not_lt.mp b12)
      have c0' := Int32.le_iff_toInt_le.mp (Int32.not_lt.mp c0)
      exact T2_ql (fun x => by
        have x' := Int32.le_iff_toInt_le.mp x
        exact G ⟨ha, ⟨by omega, by omega⟩, ⟨by omega, by omega⟩⟩) (T2_s rfl)
    · exact T2_pl (bI_f ha) (T2_s rfl)
  obtain ⟨ha, hb, hc⟩ := G
  obtain ⟨s, hs, _⟩ := mo_hire hy a b c
  obtain ⟨z, ⟨z60, z63, z82⟩, e⟩ := m_hireG hZ ha hb hc
  have main : T (f_X11_hire q a b c) (fun r => r.1 = s.1) := by
    rw [e] at hs
    have a0 := ha.1
    rw [y60] at ha
    unfold f_X11_hire
    refine T_rw (x_isPerson q a) (T_q (by rw [RY_p hY, bI_t ha]; decide) (T_q (fun x => by have := Int32.lt_iff_toInt_lt.mp x; omega) (T_q (fun x => by have := Int32.lt_iff_toInt_lt.mp x; omega) (T_q (fun x => by have := Int32.lt_iff_toInt_lt.mp x; omega) (T_p (Int32.le_iff_toInt_le.mpr (by omega)) (T_b (x_now hY) (fun r hn => ?_)))))))
    have r1 : ∀ k, k ≠ 25 → r.1 k = q.1 k := hn.2.1
    have rP : r.1 1 1 = q.1 60 1 := by rw [r1 1 (by decide)]; exact RY_p hY
    have rK : r.1 1 2 = q.1 60 6 := by rw [r1 1 (by decide)]; exact RY_k hY
    have k0 := RY_k0 hY
    have k12 := RY_k12 hY
    have ec : cntN (fun t => decide (r.1 25 t = a) && decide ((r.1 9 t).toInt < 4)) (r.1 1 2).toInt.toNat = cntN (looH y a) (y.1 60 6).toInt.toNat := by
      rw [rK, y60]
      refine cntN_c (fun t ht => ?_)
      unfold looH
      rw [hn.2.2 t (by omega), r1 9 (by decide), RY_folds hY, f.1 65 (by decide), f.1 67 (by decide)]
    refine T_rw (x_looseOf (by rw [rK]; exact k0) (by rw [rK]; exact k12) a) ?_
    rw [ec]
    by_cases d : b ≤ Int32.ofNat (cntN (looH y a) (y.1 60 6).toInt.toNat)
    rotate_left
    · rw [if_neg d] at hs
      refine T_q d (T_some.mpr ?_)
      rw [← Option.some.inj hs]
    rw [if_pos d] at hs
    refine T_p d ?_
    have et : ∀ j, tkH y a j = tkH q a j := fun j => by
      unfold tkH
      rw [f.1 62 (by decide), f.1 64 (by decide)]
    have hst : HSt q a b c s 0 0 b 0 (-2) := by
      by_cases b0 : b = 0
      · exact Or.inl ⟨b0, m_fin (by unfold FU; decide) hs (by rw [b0]; exact Int.le_refl _)⟩
      · have b0' : b.toInt ≠ 0 := fun x => b0 (Int32.toInt_inj.mp x)
        refine Or.inr ⟨by omega, FU, z, 0, hs, by rw [l0]; omega, by unfold FU; omega, z60.trans y60, z63.trans (f.1 63 (by decide)), fun j hj => ?_⟩
        have rp := RY_rprice hY j hj
        rw [if_neg (by omega), z82 j (by rw [y60]; exact hj), et]
    have fin : ∀ (m4 m5 m6 : Int32) (L m : Int), HSt q a b c s L m m4 m5 m6 → 0 ≤ m4.toInt → m4.toInt ≤ b.toInt → (99 < L ∨ m4.toInt ≤ 0) → T (b_X11_hire_146 r c m4 m5 m6) (fun r => r.1 = s.1) := fun m4 m5 m6 L m H h0 h1 hl => by
      unfold b_X11_hire_146
      by_cases g : m4 ≤ 0
      · have g' := Int32.le_iff_toInt_le.mp g
        rcases H with ⟨_, H⟩ | ⟨H, _⟩
        · refine T_p g ?_
          by_cases c0 : c = 0
          · rw [if_pos c0] at H
            exact T_p c0 (T_some.mpr H.symm)
          · rw [if_neg c0] at H
            exact T_q c0 (T_some.mpr H.symm)
        · omega
      · have g' := Int32.lt_iff_toInt_lt.mp (Int32.not_le.mp g)
        refine T_q g (T_some.mpr ?_)
        exact (HSt_end hY (by omega) H (by omega) h1).symm
    unfold b_X11_hire_60
    refine T_fx7 (fun u k1 m3 m4 m5 m6 L => u = r ∧ k1 = a ∧ m3 = c ∧ (0 ≤ L.toInt ∧ L.toInt ≤ 100) ∧ (0 ≤ m4.toInt ∧ m4.toInt ≤ b.toInt) ∧ HSt q a b c s L.toInt 0 m4 m5 m6) (fun _ _ _ _ _ _ L => (100 - L.toInt).toNat) ?_ _ _ _ _ _ _ _ _ ⟨rfl, rfl, rfl, by decide, ⟨hb.1, Int.le_refl _⟩, hst⟩ (by unfold FU; decide)
    rintro rec u k1 m3 m4 m5 m6 L ⟨rfl, rfl, rfl, ⟨g0, g1⟩, ⟨j0, j1⟩, H⟩ hrec
    by_cases g : (99 : Int32) < L
    · have g' := Int32.lt_iff_toInt_lt.mp g
      exact T_p g (fin _ _ _ _ _ H j0 j1 (Or.inl (by omega)))
    have g' := Int32.le_iff_toInt_le.mp (Int32.not_lt.mp g)
    refine T_q g ?_
    by_cases g4 : m4 ≤ 0
    · have g4' := Int32.le_iff_toInt_le.mp g4
      exact T_p g4 (fin _ _ _ _ _ H j0 j1 (Or.inr (by omega)))
    refine T_q g4 ?_
    have e7 := inc1 (a := L) (by omega) (by omega)
    unfold b_X11_hire_75
    refine T_fx8 (fun w n1 n3 n4 n5 n6 n7 n8 => w = u ∧ n1 = k1 ∧ n3 = m3 ∧ n7 = L ∧ (0 ≤ n8.toInt ∧ n8.toInt ≤ (q.1 60 1).toInt) ∧ (0 ≤ n4.toInt ∧ n4.toInt ≤ b.toInt) ∧ HSt q k1 b m3 s L.toInt n8.toInt n4 n5 n6) (fun _ _ _ _ _ _ _ n8 => (6 - n8.toInt).toNat) ?_ _ _ _ _ _ _ _ _ _ ⟨rfl, rfl, rfl, rfl, ⟨by decide, by rw [l0]; omega⟩, ⟨j0, j1⟩, H⟩ (by unfold FU; decide)
    rintro rec2 w n1 n3 n4 n5 n6 n7 n8 ⟨rfl, rfl, rfl, rfl, ⟨f0, f1⟩, ⟨i0, i1⟩, H2⟩ hrec2
    unfold b_X11_hire_140 b_X11_hire_134
    have next : HSt q n1 b n3 s (n7.toInt + 1) 0 n4 n5 n6 → T (rec w n1 n3 n4 n5 n6 (n7 + 1)) (fun r => r.1 = s.1) := fun X => hrec _ _ _ _ _ _ _ ⟨rfl, rfl, rfl, by omega, ⟨i0, i1⟩, by rw [e7]; exact X⟩ (by omega)
    refine T_rw (show f_X10_people w = some (w.1 1 1) from rfl) ?_
    rw [rP]
    by_cases p8 : q.1 60 1 ≤ n8
    · exact T_p p8 (next (HSt_next hY (Int32.le_iff_toInt_le.mp p8) H2))
    have p8' := Int32.lt_iff_toInt_lt.mp (Int32.not_le.mp p8)
    refine T_q p8 ?_
    by_cases z4 : n4 ≤ 0
    · have z4' := Int32.le_iff_toInt_le.mp z4
      refine T_p z4 (next ?_)
      rcases H2 with X | ⟨X, _⟩
      · exact Or.inl X
      · omega
    have z4' := Int32.lt_iff_toInt_lt.mp (Int32.not_le.mp z4)
    have e8 := inc1 (a := n8) (by omega) (by omega)
    have hp8 : 0 ≤ n8.toInt ∧ n8.toInt < (q.1 60 1).toInt := ⟨f0, p8'⟩
    refine T_q z4 (T_rw (x_takesE hY rP ((r1 4 (by decide)).trans (RY_child hY)) (r1 5 (by decide)) ((r1 6 (by decide)).trans (RY_takes hY)) a0 hp8) (T_nm ?_))
    have tb := tkH_b hY (a := n1) (i := n8.toNatClampNeg) (by show ((n8.toInt.toNat : Nat) : Int) < _; omega)
    have skip : (if q.1 63 n8.toNatClampNeg = n7 then tkH q n1 n8.toNatClampNeg else 0) = 0 → T (rec2 w n1 n3 n4 n5 n6 n7 (n8 + 1)) (fun r => r.1 = s.1) := fun X => hrec2 _ _ _ _ _ _ _ _ ⟨rfl, rfl, rfl, rfl, ⟨by omega, by omega⟩, ⟨i0, i1⟩, by rw [e8]; exact HSt_skip hp8 H2 X⟩ (by omega)
    by_cases v0 : (if q.1 63 n8.toNatClampNeg = n7 then tkH q n1 n8.toNatClampNeg else 0) = 0
    · rw [v0]
      refine T_p ?_ (skip v0)
      rw [(jmin_E n4 0).2 (by omega)]
      decide
    · have eL : q.1 63 n8.toNatClampNeg = n7 := by
        by_cases X : q.1 63 n8.toNatClampNeg = n7
        · exact X
        · rw [if_neg X] at v0
          exact absurd rfl v0
      rw [if_pos eL] at v0 ⊢
      have tn : (tkH q n1 n8.toNatClampNeg).toInt ≠ 0 := fun X => v0 (Int32.toInt_inj.mp X)
      have H3 := HSt_take hY hb.2 i1 (by omega) hp8 H2 eL rfl (by omega)
      have jm := jmin_E n4 (tkH q n1 n8.toNatClampNeg)
      have jb : 0 < (jmin n4 (tkH q n1 n8.toNatClampNeg)).toInt ∧ (jmin n4 (tkH q n1 n8.toNatClampNeg)).toInt ≤ n4.toInt := by
        by_cases X : n4.toInt ≤ (tkH q n1 n8.toNatClampNeg).toInt
        · rw [jm.1 X]
          omega
        · rw [jm.2 (by omega)]
          omega
      generalize jmin n4 (tkH q n1 n8.toNatClampNeg) = v at H3 jb ⊢
      have sv : (n4 - v).toInt = n4.toInt - v.toInt := tsub (by omega) (by omega)
      exact T_q (fun X => by have := Int32.le_iff_toInt_le.mp X; omega) (T_nm (T_nm (hrec2 _ _ _ _ _ _ _ _ ⟨rfl, rfl, rfl, rfl, ⟨by omega, by omega⟩, ⟨by omega, by omega⟩, by rw [e8]; exact H3⟩ (by omega))))
  obtain ⟨r, hr, er⟩ := main
  exact ⟨r, s, hr, hs, er⟩
theorem opq_hire {q : SS} (h : INV q) (w : RLW q) (a b c : Int32) : T (f_X11_hire q a b c) (fun r => T (f_X12_hire r.2 a b c) (fun s => INV s.2 ∧ r.1 = s.1)) := opw_of (g := fun y => f_X12_hire y a b c) (xo_hire h a b c) (kc_f_X11_hire q q a b c (Fr_refl q)) (fun y hy => mo_hire hy a b c) (fun y f hy => sim_hire h f hy a b c)
/-! ===== rid, first: odds of a thought ===== -/
/-- as OK2, whoever holds them in the model's thought -/
def OK3 (y z : SS) : Prop := y.1 3 = z.1 61 ∧ y.1 4 = z.1 62 ∧ y.1 9 = z.1 67 ∧ y.1 11 0 = z.1 68 1 ∧ y.1 1 1 = z.1 60 1 ∧ y.1 1 2 = z.1 60 6 ∧ (0 ≤ (z.1 60 1).toInt ∧ (z.1 60 1).toInt ≤ 6) ∧ (0 ≤ (z.1 60 6).toInt ∧ (z.1 60 6).toInt ≤ 12) ∧ (∀ t : Nat, (t : Int) < (z.1 60 6).toInt → 0 ≤ (z.1 67 t).toInt ∧ (z.1 67 t).toInt ≤ 4) ∧ (∀ t : Nat, (t : Int) < (z.1 60 6).toInt → 0 ≤ (z.1 81 t).toInt ∧ (z.1 81 t).toInt < (z.1 60 1).toInt) ∧ RW z ∧ ((z.1 60 30 = 0 ∧ (y.1 12 4).toInt ≤ 0) ∨ (z.1 60 30 = 1 ∧ 0 < (y.1 12 4).toInt ∧ (y.1 12 4).toInt ≤ 121 ∧ ∃ cs, LAw2 y z cs))
theorem ev_by3 {y z : SS} {t p h5 hd : Int32} (O : OK3 y z) (ht : 0 ≤ t.toInt ∧ t.toInt < (z.1 60 6).toInt) (hp : 0 ≤ p.toInt ∧ p.toInt < (z.1 60 1).toInt) (hh : z.1 60 32 = h5) (hm : f_X12_manyOf z p = some hd) : T2 (f_X8_oddsBy y (z.1 81 t.toNatClampNeg) p hd (z.1 67 t.toNatClampNeg) h5) (f_X12_oddsOf z t p) (fun r s => r.1 = s.1) := by
  obtain ⟨e3, e4, e9, e11, eP, eK, hP, hK, r67, r81, hW, hL⟩ := O
  have l4 : (4 : Int32).toInt = 4 := rfl
  have l0 : (0 : Int32).toInt = 0 := rfl
  have tn : (t.toNatClampNeg : Int) = t.toInt := by
    show ((t.toInt.toNat : Nat) : Int) = _
    omega
  have b81 := r81 t.toNatClampNeg (by omega)
  have b67 := r67 t.toNatClampNeg (by omega)
  have y6 : (y.1 1 1).toInt ≤ 6 := by rw [eP]; omega
  unfold f_X8_oddsBy f_X12_oddsOf
  refine T2_le (x_canGive y6 _ _) (T2_re (m_maySlip (a := t) (b := p) (by omega) (by omega)) ?_)
  rw [e4, eP]
  have l67 : z.1 67 t.toNatClampNeg = 4 ↔ ¬ (z.1 67 t.toNatClampNeg).toInt < 4 := ⟨fun e => by rw [e, l4]; omega, fun e => Int32.toInt_inj.mp (by rw [l4]; omega)⟩
  by_cases c : z.1 67 t.toNatClampNeg ≠ 4 ∧ z.1 81 t.toNatClampNeg ≠ p ∧ z.1 62 p.toNatClampNeg = 0
  · rw [show bI (z.1 81 t.toNatClampNeg ≠ p ∧ 0 ≤ p.toInt ∧ p.toInt < (z.1 60 1).toInt ∧ z.1 62 p.toNatClampNeg = 0) = 1 from bI_1.mpr ⟨c.2.1, hp.1, hp.2, c.2.2⟩, show bI (z.1 67 t.toNatClampNeg ≠ 4 ∧ z.1 81 t.toNatClampNeg ≠ p ∧ z.1 62 p.toNatClampNeg = 0) = 1 from bI_1.mpr c]
    have lt4 : (z.1 67 t.toNatClampNeg).toInt < 4 := by
      have := b67.2
      by_cases g : (z.1 67 t.toNatClampNeg).toInt < 4
      · exact g
      · exact absurd (l67.mpr g) c.1
    refine T2_ql (by decide) (T2_qr (by decide) (T2_pl (Int32.lt_iff_toInt_lt.mpr (by omega)) (T2_pr (by omega) (T2_pr (by decide) (T2_nr ?_)))))
    have v1 : (1 : Int32).toNatClampNeg = 1 := rfl
    rw [v1]
    have g0 : ∀ u : Int32, 0 ≤ u.toInt → u.toInt < (z.1 60 1).toInt → f_X10_get y 0 u = some (z.1 61 u.toNatClampNeg) := fun u h0 h1 => by
      rw [x_get0 y6, eP, if_pos ⟨h0, h1⟩, e3]
    refine T2_le (g0 p hp.1 hp.2) (T2_le (x_get80 y) (T2_nl ?_))
    rw [e11]
    rcases hL with ⟨t0, t1⟩ | ⟨t0, t1, t2, cs, hL⟩
    · have it : f_X4_isTold y = some 0 := by
        unfold f_X4_isTold
        rw [if_pos (Int32.le_iff_toInt_le.mpr (by omega))]
      refine T2_le it (T2_pl rfl (T2_pr t0 ?_))
      rw [x_clE, m_clE]
      exact T2_s rfl
    · have it : f_X4_isTold y = some 1 := by
        unfold f_X4_isTold
        rw [if_neg (fun e => by have := Int32.le_iff_toInt_le.mp e; omega)]
      refine T2_le it (T2_ql (by decide) (T2_qr (by rw [t0]; decide) (T2_le (g0 _ b81.1 b81.2) ?_)))
      refine T2_pr (by omega) (T2_pr (by decide) (T2_nr (T2_pr (by omega) (T2_pr ?_ (T2_pr (by decide) (T2_nr ?_))))))
      · exact ⟨b81.1, by show (z.1 81 t.toNatClampNeg).toInt < 6; omega⟩
      have c0 : (0 : Int32).toNatClampNeg = 0 := rfl
      have c2 : (2 : Int32).toNatClampNeg = 2 := rfl
      have c3 : (3 : Int32).toNatClampNeg = 3 := rfl
      have c4 : (4 : Int32).toNatClampNeg = 4 := rfl
      have c5 : (5 : Int32).toNatClampNeg = 5 := rfl
      rw [c0, c2, c3, c4, c5]
      have hm2 : ∀ x : SS, x.1 60 = z.1 60 → x.1 81 = z.1 81 → f_X12_manyOf x p = some hd := fun x h1 h2 => by
        rw [m_manyOf (by rw [h1]; omega) (by rw [h1]; omega), h1, h2, ← m_manyOf (by omega) (by omega)]
        exact hm
      refine T2_re (hm2 _ (by rw [sI_ro (by decide), sI_ro (by decide)]) (by rw [sI_ro (by decide), sI_ro (by decide)])) (T2_pr (by decide) (T2_nr (T2_pr (by omega) (T2_pr (by decide) (T2_nr (T2_pr (by decide) (T2_nr (T2_pr (by decide) (T2_pr (by decide) (T2_nr ?_))))))))))
      generalize gx : sI _ 79 5 _ = x
      have x79 : x.1 79 0 = z.1 61 p.toNatClampNeg ∧ x.1 79 1 = z.1 61 (z.1 81 t.toNatClampNeg).toNatClampNeg ∧ x.1 79 2 = hd ∧ x.1 79 3 = z.1 67 t.toNatClampNeg ∧ x.1 79 4 = z.1 60 32 ∧ x.1 79 5 = z.1 68 1 := by
        rw [← gx]
        exact ⟨rfl, rfl, rfl, rfl, rfl, rfl⟩
      have xo : ∀ k, k ≠ 79 → x.1 k = z.1 k := fun k hk => by
        rw [← gx, sI_ro hk, sI_ro hk, sI_ro hk, sI_ro hk, sI_ro hk, sI_ro hk]
      have x60 := xo 60 (by decide)
      have hWx : RW x := RW_fr (xo 74 (by decide)) (xo 75 (by decide)) (xo 77 (by decide)) (xo 78 (by decide)) (by rw [x60]) (by rw [xo 76 (by decide)]) hW
      have E := ev_law (qc := y) hWx (by rw [x60]; exact t0) t2 (LAw2_c hL (xo 74 (by decide)) (xo 75 (by decide)) (xo 76 (by decide)) (xo 77 (by decide)) (xo 78 (by decide))) x79.1 x79.2.1 x79.2.2.1 x79.2.2.2.1 (x79.2.2.2.2.1.trans hh) x79.2.2.2.2.2
      refine T2_bb E (fun r s hrs => ?_)
      rw [x_clE, m_clE, hrs]
      exact T2_s rfl
  · rw [show bI (z.1 67 t.toNatClampNeg ≠ 4 ∧ z.1 81 t.toNatClampNeg ≠ p ∧ z.1 62 p.toNatClampNeg = 0) = 0 from bI_0.mpr c]
    by_cases c2 : z.1 81 t.toNatClampNeg ≠ p ∧ z.1 62 p.toNatClampNeg = 0
    · rw [show bI (z.1 81 t.toNatClampNeg ≠ p ∧ 0 ≤ p.toInt ∧ p.toInt < (z.1 60 1).toInt ∧ z.1 62 p.toNatClampNeg = 0) = 1 from bI_1.mpr ⟨c2.1, hp.1, hp.2, c2.2⟩]
      have e : z.1 67 t.toNatClampNeg = 4 := by
        by_cases g : z.1 67 t.toNatClampNeg = 4
        · exact g
        · exact absurd ⟨g, c2⟩ c
      exact T2_ql (by decide) (T2_ql (by rw [e]; decide) (T2_pr rfl (T2_s rfl)))
    · rw [show bI (z.1 81 t.toNatClampNeg ≠ p ∧ 0 ≤ p.toInt ∧ p.toInt < (z.1 60 1).toInt ∧ z.1 62 p.toNatClampNeg = 0) = 0 from bI_0.mpr (fun x => c2 ⟨x.1, x.2.2.2⟩)]
      exact T2_pl rfl (T2_pr rfl (T2_s rfl))
/-! ===== rid, first: what the class lays before it thinks ===== -/
theorem cnt_s1 {p : Nat → Bool} {i : Nat} (h : p i = true) : cntN p (i + 1) = cntN p i + 1 := by
  show cntN p i + (if p i = true then 1 else 0) = _
  rw [if_pos h]
theorem cnt_s0 {p : Nat → Bool} {i : Nat} (h : p i = false) : cntN p (i + 1) = cntN p i := by
  show cntN p i + (if p i = true then 1 else 0) = _
  rw [if_neg (by rw [h]; decide)]
  omega
theorem cnt_mono {p : Nat → Bool} {m : Nat} : ∀ {n : Nat}, m ≤ n → cntN p m ≤ cntN p n
  | 0, h => by rw [show m = 0 by omega]; exact Nat.le_refl _
  | n + 1, h => by
    by_cases e : m = n + 1
    · rw [e]; exact Nat.le_refl _
    · have x := cnt_mono (p := p) (m := m) (n := n) (by omega)
      show _ ≤ cntN p n + (if p n = true then 1 else 0)
      omega
theorem sI_rf {q : SS} {k i j : Nat} {x : Int32} (h : j ≠ i) : (sI q k i x).1 k j = q.1 k j := by
  rw [sI_rd, if_neg (fun e => h e.2)]
theorem sI_rt {q : SS} {k i : Nat} {x : Int32} : (sI q k i x).1 k i = x := by
  rw [sI_rd, if_pos ⟨rfl, rfl⟩]
/-- the class's thought: all but its own places as it was -/
def RX (q u : SS) : Prop := (∀ k, k ≠ 25 → k ≠ 15 → k ≠ 16 → k ≠ 12 → k ≠ 42 → k ≠ 43 → k ≠ 44 → k ≠ 45 → k ≠ 46 → u.1 k = q.1 k) ∧ u.1 12 4 = q.1 12 4 ∧ (∀ t : Nat, (t : Int) < (q.1 60 6).toInt → u.1 25 t = q.1 65 t)
theorem RX_E {q u u' : SS} (h : RX q u) (f : Fr wE v0 u u') : RX q u' := ⟨fun k h1 h2 h3 h4 a b c d e => by
    have hk : ∀ i, wE k i = false := fun i => by
      unfold wE
      have a : (k == 15) = false := beq_false_of_ne h2
      have b : (k == 16) = false := beq_false_of_ne h3
      have c : (k == 12) = false := beq_false_of_ne h4
      rw [a, b, c]
      rfl
    exact (Fr_r f hk).trans (h.1 k h1 h2 h3 h4 a b c d e), (f.1 12 4 rfl).trans h.2.1, fun t ht => (f.1 25 t rfl).trans (h.2.2 t ht)⟩
theorem RX_s {q u : SS} (h : RX q u) {k i : Nat} {x : Int32} (hk : 42 ≤ k ∧ k ≤ 46) : RX q (sI u k i x) := ⟨fun j _ _ _ _ a b c d e => (sI_ro (by omega)).trans (h.1 j (by assumption) (by assumption) (by assumption) (by assumption) a b c d e), by rw [sI_ro (by omega)]; exact h.2.1, fun t ht => by rw [sI_ro (by omega)]; exact h.2.2 t ht⟩
theorem RX_k {q u : SS} (h : RX q u) {k : Nat} (hk : k < 12) : u.1 k = q.1 k := h.1 k (by omega) (by omega) (by omega) (by omega) (by omega) (by omega) (by omega) (by omega) (by omega)
/-- real, loose, so often folded, held by a -/
def kF (q : SS) (a : Int32) (f : Nat) (t : Nat) : Bool := decide (q.1 65 t = a) && decide (q.1 66 t = 0) && decide ((q.1 67 t).toInt = (f : Int))
def kN (q : SS) : Nat := (q.1 60 6).toInt.toNat
def LowF (q : SS) (a : Int32) (f : Nat) (m : Int) (v : Int32) : Prop := (∃ t : Nat, m < (t : Int) ∧ t < kN q ∧ kF q a f t = true ∧ (∀ u : Nat, m < (u : Int) → u < t → kF q a f u = false) ∧ v = Int32.ofNat t) ∨ ((∀ u : Nat, m < (u : Int) → u < kN q → kF q a f u = false) ∧ v = -2)
theorem kF_t {q : SS} {a : Int32} {f t : Nat} : kF q a f t = true ↔ q.1 65 t = a ∧ q.1 66 t = 0 ∧ (q.1 67 t).toInt = (f : Int) := by
  unfold kF
  simp only [Bool.and_eq_true, decide_eq_true_eq, and_assoc]
theorem kF_f {q : SS} {a : Int32} {f t : Nat} (h : ¬ (q.1 65 t = a ∧ q.1 66 t = 0 ∧ (q.1 67 t).toInt = (f : Int))) : kF q a f t = false := by
  cases e : kF q a f t
  · rfl
  · exact absurd (kF_t.mp e) h
theorem LowF_no {q : SS} {a v : Int32} {f t : Nat} {m : Int} (hm : m = (t : Int)) (h : LowF q a f m v) (hk : kF q a f t = false) : LowF q a f (m - 1) v := by
  rcases h with ⟨s, h1, h2, h3, h4, h5⟩ | ⟨h1, h2⟩
  · refine Or.inl ⟨s, by omega, h2, h3, fun u g1 g2 => ?_, h5⟩
    by_cases e : u = t
    · rw [e]; exact hk
    · exact h4 u (by omega) g2
  · refine Or.inr ⟨fun u g1 g2 => ?_, h2⟩
    by_cases e : u = t
    · rw [e]; exact hk
    · exact h1 u (by omega) g2
theorem x_sortE {q y : SS} (hY : RY q) (r0 : RX q y) {a : Int32} (ea : y.1 42 6 = a) : T (f_X6_sortTickets y) (fun r => RX q r ∧ r.1 42 = y.1 42 ∧ r.1 45 = y.1 45 ∧ r.1 46 = y.1 46 ∧ ∀ f : Nat, f < 4 → (r.1 43 f).toInt = (cntN (kF q a f) (kN q) : Int) ∧ LowF q a f (-1) (r.1 44 f)) := by
  have l4 : (4 : Int32).toInt = 4 := rfl
  have l0 : (0 : Int32).toInt = 0 := rfl
  have l1 : (1 : Int32).toInt = 1 := rfl
  have lm : (-1 : Int32).toInt = -1 := rfl
  have k0 := RY_k0 hY
  have k12 := RY_k12 hY
  have kn : (kN q : Int) = (q.1 60 6).toInt := by
    show (((q.1 60 6).toInt.toNat : Nat) : Int) = _
    omega
  unfold f_X6_sortTickets b_X6_sortTickets_2
  refine T_fx2 (fun z l => RX q z ∧ z.1 42 = y.1 42 ∧ z.1 45 = y.1 45 ∧ z.1 46 = y.1 46 ∧ (0 ≤ l.toInt ∧ l.toInt ≤ 4) ∧ ∀ f : Nat, (f : Int) < l.toInt → z.1 43 f = 0 ∧ z.1 44 f = -2) (fun _ l => (4 - l.toInt).toNat) ?_ _ _ _ ⟨r0, rfl, rfl, rfl, ⟨by decide, by decide⟩, fun f hf => by rw [l0] at hf; omega⟩ (by unfold FU; decide)
  rintro rec z l ⟨rz, z42, z45, z46, ⟨g0, g1⟩, hz⟩ hrec
  refine T_le (fun g => T_rw (show f_X10_tickets z = some (z.1 1 2) from rfl) (T_nm ?_)) (fun g => ?_)
  · have zk : z.1 1 2 = q.1 60 6 := by rw [RX_k rz (by decide)]; exact RY_k hY
    have ed := dec1 (a := z.1 1 2) (by rw [zk]; exact k0)
    rw [zk] at ed ⊢
    unfold b_X6_sortTickets_38
    refine T_fx2 (fun u m => RX q u ∧ u.1 42 = y.1 42 ∧ u.1 45 = y.1 45 ∧ u.1 46 = y.1 46 ∧ (-1 ≤ m.toInt ∧ m.toInt < (q.1 60 6).toInt) ∧ ∀ f : Nat, f < 4 → (u.1 43 f).toInt + (cntN (kF q a f) (m.toInt + 1).toNat : Int) = (cntN (kF q a f) (kN q) : Int) ∧ LowF q a f m.toInt (u.1 44 f)) (fun _ m => (m.toInt + 1).toNat) ?_ _ _ _ ⟨rz, z42, z45, z46, by omega, fun f hf => ?_⟩ (by unfold FU; omega)
    · rintro rec2 u m ⟨ru, u42, u45, u46, ⟨f0, f1⟩, hu⟩ hrec2
      refine T_lt (fun f => ?_) (fun f => ?_)
      · refine T_some.mpr ⟨ru, u42, u45, u46, fun i hi => ?_⟩
        have x := hu i hi
        have em : m.toInt = -1 := by omega
        rw [em] at x
        refine ⟨?_, x.2⟩
        have := x.1
        rw [show ((-1 : Int) + 1).toNat = 0 from rfl] at this
        rw [← this]
        show _ = (u.1 43 i).toInt + ((0 : Nat) : Int)
        omega
      · have em : (m + -1).toInt = m.toInt - 1 := by rw [tadd (by omega) (by omega), lm]; omega
        have uk : u.1 1 2 = q.1 60 6 := by rw [RX_k ru (by decide)]; exact RY_k hY
        unfold b_X6_sortTickets_101
        generalize m + -1 = m' at em ⊢
        clear lm
        have mt : m = Int32.ofNat m.toNatClampNeg := (Int32.ofNat_toNatClampNeg m (Int32.le_iff_toInt_le.mpr f)).symm
        have ti : ((m.toNatClampNeg : Nat) : Int) = m.toInt := cnI f
        generalize gt : m.toNatClampNeg = t at mt ti
        have u67 : u.1 9 = q.1 67 := (RX_k ru (by decide)).trans (RY_folds hY)
        have u66 : u.1 8 = q.1 66 := (RX_k ru (by decide)).trans (RY_forged hY)
        have u25 : u.1 25 t = q.1 65 t := ru.2.2 t (by omega)
        have rf := RY_rfolds hY t (by omega)
        have hm : 0 ≤ m.toInt ∧ m.toInt < (q.1 60 6).toInt := ⟨by omega, f1⟩
        have hm' : -1 ≤ m'.toInt ∧ m'.toInt < (q.1 60 6).toInt := by omega
        have hμ : (m'.toInt + 1).toNat < (m.toInt + 1).toNat := by omega
        have st1 : (m.toInt + 1).toNat = t + 1 := by omega
        have st0 : (m'.toInt + 1).toNat = t := by omega
        have go : (∀ f : Nat, f < 4 → kF q a f t = false) → T (rec2 u m') (fun r => RX q r ∧ r.1 42 = y.1 42 ∧ r.1 45 = y.1 45 ∧ r.1 46 = y.1 46 ∧ ∀ f : Nat, f < 4 → (r.1 43 f).toInt = (cntN (kF q a f) (kN q) : Int) ∧ LowF q a f (-1) (r.1 44 f)) := fun hk => hrec2 _ _ ⟨ru, u42, u45, u46, hm', fun i hi => by
          have x := hu i hi
          have c := cnt_s0 (hk i hi)
          rw [st1, c] at x
          rw [st0, em]
          exact ⟨x.1, LowF_no ti.symm x.2 (hk i hi)⟩⟩ hμ
        refine T_rw (x_get6 (by rw [uk]; exact k12) m) ?_
        rw [uk, if_pos hm, u67, gt]
        refine T_le (fun c => go (fun i hi => kF_f (fun x => by have := x.2.2; rw [l4] at c; omega))) (fun c => T_rw (x_isReal (by rw [uk]; exact k12) m) ?_)
        rw [uk, u66, gt]
        by_cases c6 : q.1 66 t = 0
        rotate_left
        · exact T_bn (fun x => c6 x.2.2) (go (fun i hi => kF_f (fun x => c6 x.2.1)))
        refine T_bp ⟨hm.1, hm.2, c6⟩ (T_rw (x_holderOf (by rw [uk]; exact k12) m) ?_)
        rw [uk, if_pos hm, gt, u25, u42, ea]
        by_cases ch : q.1 65 t = a
        rotate_left
        · exact T_q ch (go (fun i hi => kF_f (fun x => ch x.1)))
        rw [l4] at c
        have v : vin (q.1 67 t) 4 := ⟨rf.1, c⟩
        refine T_p ch (T_p v (T_p v (T_nm (T_p v (T_nm ?_)))))
        have fi : (((q.1 67 t).toNatClampNeg : Nat) : Int) = (q.1 67 t).toInt := cnI rf.1
        generalize gf : (q.1 67 t).toNatClampNeg = F at fi ⊢
        have kt : kF q a F t = true := kF_t.mpr ⟨ch, c6, fi.symm⟩
        have le := cntN_le (kF q a F) (kN q)
        have tk : t < kN q := by omega
        refine hrec2 _ _ ⟨RX_s (RX_s ru (by omega)) (by omega), ?_, ?_, ?_, hm', fun i hi => ?_⟩ hμ
        · rw [sI_ro (by decide), sI_ro (by decide)]; exact u42
        · rw [sI_ro (by decide), sI_ro (by decide)]; exact u45
        · rw [sI_ro (by decide), sI_ro (by decide)]; exact u46
        · have x := hu i hi
          rw [st1] at x
          rw [st0, em]
          by_cases e : i = F
          · rw [e] at x ⊢
            have x1 := x.1
            rw [cnt_s1 kt] at x1
            have e43 : (sI (sI u 43 F (u.1 43 F + 1)) 44 F m).1 43 F = u.1 43 F + 1 := by
              rw [sI_ro (by decide), sI_rt]
            have mo := cnt_mono (p := kF q a F) (m := t + 1) (n := kN q) (by omega)
            rw [cnt_s1 kt] at mo
            have b43 : -2 ≤ (u.1 43 F).toInt ∧ (u.1 43 F).toInt < 2000000000 := by omega
            rw [e43, sI_rt, inc1 b43.1 b43.2]
            refine ⟨by omega, Or.inl ⟨t, by omega, tk, kt, fun w h1 h2 => absurd h2 (by omega), mt⟩⟩
          · have kf : kF q a i t = false := kF_f (fun x => e (by have := x.2.2; omega))
            have x1 := x.1
            rw [cnt_s0 kf] at x1
            have e43 : (sI (sI u 43 F (u.1 43 F + 1)) 44 F m).1 43 i = u.1 43 i := by
              rw [sI_ro (by decide), sI_rf e]
            have e44 : (sI (sI u 43 F (u.1 43 F + 1)) 44 F m).1 44 i = u.1 44 i := by
              rw [sI_rf e, sI_ro (by decide)]
            rw [e43, e44]
            exact ⟨x1, LowF_no ti.symm x.2 kf⟩
    · rw [ed]
      have x := hz f (by omega)
      rw [x.1, x.2, show ((q.1 60 6).toInt - 1 + 1).toNat = kN q by unfold kN; omega, l0]
      exact ⟨by omega, Or.inr ⟨fun u h1 h2 => absurd h2 (by omega), rfl⟩⟩
  · have e1 := inc1 (a := l) (by omega) (by omega)
    have v : vin l 4 := ⟨g0, by show l.toInt < 4; omega⟩
    have li : ((l.toNatClampNeg : Nat) : Int) = l.toInt := cnI g0
    refine T_p v (T_nm (T_p v (T_nm (hrec _ _ ⟨RX_s (RX_s rz (by omega)) (by omega), ?_, ?_, ?_, by omega, fun f hf => ?_⟩ (by omega)))))
    · rw [sI_ro (by decide), sI_ro (by decide)]; exact z42
    · rw [sI_ro (by decide), sI_ro (by decide)]; exact z45
    · rw [sI_ro (by decide), sI_ro (by decide)]; exact z46
    · by_cases e : f = l.toNatClampNeg
      · rw [e]
        exact ⟨by rw [sI_ro (by decide), sI_rt], by rw [sI_rt]⟩
      · have x := hz f (by omega)
        refine ⟨by rw [sI_ro (by decide), sI_rf e]; exact x.1, by rw [sI_rf e, sI_ro (by decide)]; exact x.2⟩
/-! ===== rid, first: the odds of each hour, laid by the class ===== -/
/-- how many a person holds as it stands -/
def heldB (q : SS) (p : Int32) : Int32 := Int32.ofNat (cntN (fun t => decide (q.1 65 t = p)) (kN q))
theorem x_heldE {q u : SS} (hY : RY q) (r : RX q u) (p : Int32) : f_X8_heldBy u p = some (heldB q p) := by
  have uk : u.1 1 2 = q.1 60 6 := by rw [RX_k r (by decide)]; exact RY_k hY
  have k0 := RY_k0 hY
  rw [x_heldBy (by rw [uk]; exact k0) (by rw [uk]; exact RY_k12 hY), uk]
  unfold heldB kN
  rw [cntN_c (r := fun t => decide (q.1 65 t = p)) (fun t ht => by
    show decide (u.1 25 t = p) = decide (q.1 65 t = p)
    rw [r.2.2 t (by omega)])]
def TV (q : SS) (a : Int32) (h p g f : Nat) (v : Int32) : Prop := ∃ (u : SS) (s : Int32 × SS), RX q u ∧ f_X8_oddsBy u a (Int32.ofNat p) (heldB q (Int32.ofNat p) + Int32.ofNat g) (Int32.ofNat f) (jmin 11 (q.1 68 0 + Int32.ofNat h)) = some s ∧ v = s.1
def pidx (h p g f : Nat) : Nat := ((h * 6 + p) * 3 + g) * 4 + f
def Tb (q : SS) (a : Int32) (u : SS) (D : Nat → Nat → Nat → Nat → Prop) : Prop := ∀ h p g f : Nat, h < 3 → (p : Int) < (q.1 60 1).toInt → g ≤ h → f < 4 → 0 < (u.1 43 f).toInt → D h p g f → TV q a h p g f (u.1 46 (pidx h p g f))
theorem Tb_w {q u u' : SS} {a : Int32} {D D' : Nat → Nat → Nat → Nat → Prop} (h : Tb q a u D) (e43 : u'.1 43 = u.1 43) (e46 : u'.1 46 = u.1 46) (hD : ∀ h p g f : Nat, g ≤ h → f < 4 → 0 < (u.1 43 f).toInt → (p : Int) < (q.1 60 1).toInt → D' h p g f → D h p g f) : Tb q a u' D' := fun i p g f h1 h2 h3 h4 h5 h6 => by
  rw [e43] at h5
  rw [e46]
  exact h i p g f h1 h2 h3 h4 h5 (hD i p g f h3 h4 h5 h2 h6)
def SM (y z : SS) : Prop := z.1 42 = y.1 42 ∧ z.1 43 = y.1 43 ∧ z.1 44 = y.1 44 ∧ z.1 45 = y.1 45
theorem plE {h p g f : Nat} (h2 : h ≤ 2) (p5 : p ≤ 5) (g2 : g ≤ 2) (f3 : f ≤ 3) : ((((((Int32.ofNat h * (6 : Int32)) + Int32.ofNat p) * (3 : Int32)) + Int32.ofNat g) * (4 : Int32)) + Int32.ofNat f) = Int32.ofNat (pidx h p g f) := by
  have e6 : (6 : Int32) = Int32.ofNat 6 := rfl
  have e3 : (3 : Int32) = Int32.ofNat 3 := rfl
  have e4 : (4 : Int32) = Int32.ofNat 4 := rfl
  rw [e6, e3, e4]
  unfold pidx
  rw [Int32.ofNat_add, Int32.ofNat_mul, Int32.ofNat_add, Int32.ofNat_mul, Int32.ofNat_add, Int32.ofNat_mul]
theorem pidx_i {h p g f h' p' g' f' : Nat} (hp : p < 6) (hp' : p' < 6) (hg : g < 3) (hg' : g' < 3) (hf : f < 4) (hf' : f' < 4) (e : pidx h p g f = pidx h' p' g' f') : h = h' ∧ p = p' ∧ g = g' ∧ f = f' := by
  unfold pidx at e
  omega
theorem x_hourE {q y : SS} (hY : RY q) (r0 : RX q y) {a : Int32} (ea : y.1 42 6 = a) {H : Nat} (hH : H < 3) (t0 : Tb q a y (fun h _ _ _ => h < H)) : T (f_X6_workOutHour y (Int32.ofNat H)) (fun r => RX q r ∧ SM y r ∧ Tb q a r (fun h _ _ _ => h < H + 1)) := by
  have P0 := RY_p0 hY
  have P6 := RY_p6 hY
  unfold f_X6_workOutHour
  refine T_rw (x_hourNow y) (T_nm ?_)
  have e10 : y.1 10 0 = q.1 68 0 := by rw [RX_k r0 (by decide)]; exact RY_hour hY
  rw [e10]
  generalize ghr : jmin 11 (q.1 68 0 + Int32.ofNat H) = hr
  unfold b_X6_workOutHour_17
  refine T_fx4 (fun z l1 l2 l3 => l1 = Int32.ofNat H ∧ l2 = hr ∧ RX q z ∧ SM y z ∧ ∃ i : Nat, l3 = Int32.ofNat i ∧ (i : Int) ≤ (q.1 60 1).toInt ∧ Tb q a z (fun h p _ _ => h < H ∨ (h = H ∧ p < i))) (fun _ _ _ l3 => (6 - l3.toInt).toNat) ?_ _ _ _ _ _ ⟨rfl, rfl, r0, ⟨rfl, rfl, rfl, rfl⟩, 0, rfl, by omega, Tb_w t0 rfl rfl (fun h p g f _ _ _ _ x => by omega)⟩ (by unfold FU; decide)
  rintro rec z l1 l2 l3 ⟨rfl, rfl, rz, sz, i, rfl, hi, tz⟩ hrec
  have ii : (Int32.ofNat i).toInt = (i : Int) := onI (by omega)
  have zP : z.1 1 1 = q.1 60 1 := by rw [RX_k rz (by decide)]; exact RY_p hY
  refine T_rw (show f_X10_people z = some (z.1 1 1) from rfl) ?_
  rw [zP]
  refine T_le (fun c => T_some.mpr ⟨rz, sz, Tb_w tz rfl rfl (fun h p g f _ _ _ hp x => by omega)⟩) (fun c => ?_)
  refine T_rw (x_heldE hY rz _) ?_
  have i1 : (Int32.ofNat (i + 1)).toInt = ((i + 1 : Nat) : Int) := onI (by omega)
  unfold b_X6_workOutHour_41
  refine T_fx6 (fun u m1 m2 m3 m4 m5 => m1 = Int32.ofNat H ∧ m2 = l2 ∧ m3 = Int32.ofNat i ∧ m4 = heldB q (Int32.ofNat i) ∧ RX q u ∧ SM y u ∧ ∃ j : Nat, m5 = Int32.ofNat j ∧ j ≤ H + 1 ∧ Tb q a u (fun h p g _ => h < H ∨ (h = H ∧ (p < i ∨ (p = i ∧ g < j))))) (fun _ _ _ _ _ m5 => (4 - m5.toInt).toNat) ?_ _ _ _ _ _ _ _ ⟨rfl, rfl, rfl, rfl, rz, sz, 0, rfl, by omega, Tb_w tz rfl rfl (fun h p g f _ _ _ _ x => by omega)⟩ (by unfold FU; decide)
  rintro rec2 u m1 m2 m3 m4 m5 ⟨rfl, rfl, rfl, rfl, ru, su, j, rfl, hj, tu⟩ hrec2
  have ji : (Int32.ofNat j).toInt = (j : Int) := onI (by omega)
  have Hi : (Int32.ofNat H).toInt = (H : Int) := onI (by omega)
  refine T_lt (fun d => ?_) (fun d => ?_)
  · rw [oa]
    exact hrec _ _ _ _ ⟨rfl, rfl, ru, su, i + 1, rfl, by omega, Tb_w tu rfl rfl (fun h p g f _ _ _ _ x => by omega)⟩ (by omega)
  · have j1 : (Int32.ofNat (j + 1)).toInt = ((j + 1 : Nat) : Int) := onI (by omega)
    unfold b_X6_workOutHour_50
    refine T_fx7 (fun w n1 n2 n3 n4 n5 n6 => n1 = Int32.ofNat H ∧ n2 = m2 ∧ n3 = Int32.ofNat i ∧ n4 = heldB q (Int32.ofNat i) ∧ n5 = Int32.ofNat j ∧ RX q w ∧ SM y w ∧ ∃ k : Nat, n6 = Int32.ofNat k ∧ k ≤ 4 ∧ Tb q a w (fun h p g f => h < H ∨ (h = H ∧ (p < i ∨ (p = i ∧ (g < j ∨ (g = j ∧ f < k))))))) (fun _ _ _ _ _ _ n6 => (4 - n6.toInt).toNat) ?_ _ _ _ _ _ _ _ _ ⟨rfl, rfl, rfl, rfl, rfl, ru, su, 0, rfl, by omega, Tb_w tu rfl rfl (fun h p g f _ _ _ _ x => by omega)⟩ (by unfold FU; decide)
    rintro rec3 w n1 n2 n3 n4 n5 n6 ⟨rfl, rfl, rfl, rfl, rfl, rw_, sw, k, rfl, hk, tw⟩ hrec3
    have ki : (Int32.ofNat k).toInt = (k : Int) := onI (by omega)
    have l4 : (4 : Int32).toInt = 4 := rfl
    have l216 : (216 : Int32).toInt = 216 := rfl
    refine T_le (fun e => ?_) (fun e => ?_)
    · rw [oa]
      exact hrec2 _ _ _ _ _ _ ⟨rfl, rfl, rfl, rfl, rw_, sw, j + 1, rfl, by omega, Tb_w tw rfl rfl (fun h p g f _ _ _ _ x => by omega)⟩ (by omega)
    · rw [l4, ki] at e
      have k1 : (Int32.ofNat (k + 1)).toInt = ((k + 1 : Nat) : Int) := onI (by omega)
      have pe := plE (h := H) (p := i) (g := j) (f := k) (by omega) (by omega) (by omega) (by omega)
      have pb : pidx H i j k < 216 := by
        unfold pidx
        omega
      have pI : (Int32.ofNat (pidx H i j k)).toInt = (pidx H i j k : Int) := onI (by omega)
      have pC : (Int32.ofNat (pidx H i j k)).toNatClampNeg = pidx H i j k := onC (by omega)
      have kC : (Int32.ofNat k).toNatClampNeg = k := onC (by omega)
      unfold b_X6_workOutHour_114
      rw [oa]
      refine T_rw (show f_X6_placeOf w (Int32.ofNat H) (Int32.ofNat i) (Int32.ofNat j) (Int32.ofNat k) = some (Int32.ofNat (pidx H i j k)) from congrArg some pe) (T_len (by rw [pI, l216]; omega) (T_vp (by omega) (by rw [ki]; omega) ?_))
      rw [kC]
      refine T_le (fun z43 => ?_) (fun z43 => ?_)
      · exact hrec3 _ _ _ _ _ _ _ ⟨rfl, rfl, rfl, rfl, rfl, rw_, sw, k + 1, rfl, by omega, Tb_w tw rfl rfl (fun h p g f _ _ hf _ x => by
          by_cases y : f = k
          · rw [y] at hf
            have : (0 : Int32).toInt = 0 := rfl
            omega
          · omega)⟩ (by omega)
      · have w42 : w.1 42 6 = a := by rw [sw.1]; exact ea
        have wp : PK w := by
          unfold PK
          rw [RX_k rw_ (by decide : 1 < 12), RY_p hY, RY_k hY]
          exact ⟨⟨P0, P6⟩, RY_k0 hY, RY_k12 hY⟩
        rw [w42]
        obtain ⟨s, hs, fE, _⟩ := x_oddsBy wp a (Int32.ofNat i) (heldB q (Int32.ofNat i) + Int32.ofNat j) (Int32.ofNat k) n2
        refine T_rw hs (T_vp (by omega) (by rw [pI]; show (pidx H i j k : Int) < 216; omega) (T_nm ?_))
        rw [pC]
        have rs := RX_E rw_ fE
        have f43 : s.2.1 43 = w.1 43 := Fr_r fE (fun _ => rfl)
        have f46 : s.2.1 46 = w.1 46 := Fr_r fE (fun _ => rfl)
        have f42 : s.2.1 42 = w.1 42 := Fr_r fE (fun _ => rfl)
        have f44 : s.2.1 44 = w.1 44 := Fr_r fE (fun _ => rfl)
        have f45 : s.2.1 45 = w.1 45 := Fr_r fE (fun _ => rfl)
        refine hrec3 _ _ _ _ _ _ _ ⟨rfl, rfl, rfl, rfl, rfl, RX_s rs (by omega), ⟨?_, ?_, ?_, ?_⟩, k + 1, rfl, by omega, ?_⟩ (by omega)
        · rw [sI_ro (by decide), f42]; exact sw.1
        · rw [sI_ro (by decide), f43]; exact sw.2.1
        · rw [sI_ro (by decide), f44]; exact sw.2.2.1
        · rw [sI_ro (by decide), f45]; exact sw.2.2.2
        · intro h p g f h1 h2 h3 h4 h5 h6
          rw [sI_ro (by decide), f43] at h5
          by_cases y : pidx h p g f = pidx H i j k
          · obtain ⟨e1, e2, e3, e4⟩ := pidx_i (by omega) (by omega) (by omega) (by omega) (by omega) (by omega) y
            rw [y, sI_rt, e1, e2, e3, e4]
            exact ⟨w, s, rw_, by rw [ghr]; exact hs, rfl⟩
          · rw [sI_rf y, f46]
            refine tw h p g f h1 h2 h3 h4 h5 ?_
            by_cases x : h = H ∧ p = i ∧ g = j ∧ f = k
            · exact absurd (by rw [x.1, x.2.1, x.2.2.1, x.2.2.2]) y
            · omega
/-! ===== rid, first: all that the class lays ===== -/
def rlN (q : SS) : Nat := cntN (fun t => decide (q.1 66 t = 0)) (kN q)
def owN (q : SS) (a : Int32) : Nat := cntN (fun t => decide (q.1 65 t = a) && decide (q.1 66 t = 0)) (kN q)
/-- what stands when the class begins to think -/
def BG (q : SS) (a b : Int32) (r : SS) : Prop := RX q r ∧ (r.1 42 6 = a ∧ r.1 42 7 = b ∧ r.1 42 8 = Int32.ofNat (rlN q) ∧ r.1 42 9 = Int32.ofNat (rlN q) - Int32.ofNat (owN q a)) ∧ (∀ i : Nat, i < 6 → r.1 45 i = 0) ∧ (∀ f : Nat, f < 4 → (r.1 43 f).toInt = (cntN (kF q a f) (kN q) : Int) ∧ LowF q a f (-1) (r.1 44 f)) ∧ Tb q a r (fun h _ _ _ => (h : Int) < b.toInt)
theorem x_ridBE {q : SS} (hY : RY q) {a b : Int32} (hb : 0 ≤ b.toInt ∧ b.toInt ≤ 3) : T (f_X6_begin q a b) (BG q a b) := by
  have l0 : (0 : Int32).toInt = 0 := rfl
  have l6 : (6 : Int32).toInt = 6 := rfl
  have k0 := RY_k0 hY
  have k12 := RY_k12 hY
  unfold f_X6_begin
  refine T_b (x_begin hY) (fun r1 hr1 => T_nm (T_nm ?_))
  have rx1 : RX q r1 := ⟨fun k h1 _ _ _ _ _ _ _ _ => hr1.2.1 k h1, by rw [hr1.2.1 12 (by decide)], hr1.2.2⟩
  have rx2 : RX q (sI (sI r1 42 6 a) 42 7 b) := RX_s (RX_s rx1 (by omega)) (by omega)
  have c6 : (sI (sI r1 42 6 a) 42 7 b).1 42 6 = a := rfl
  have c7 : (sI (sI r1 42 6 a) 42 7 b).1 42 7 = b := rfl
  generalize sI (sI r1 42 6 a) 42 7 b = r2 at rx2 c6 c7 ⊢
  have r2k : r2.1 1 2 = q.1 60 6 := by rw [RX_k rx2 (by decide)]; exact RY_k hY
  have r28 : r2.1 8 = q.1 66 := (RX_k rx2 (by decide)).trans (RY_forged hY)
  have er : f_X8_reals r2 = some (Int32.ofNat (rlN q)) := by
    rw [x_reals (by rw [r2k]; exact k0) (by rw [r2k]; exact k12), r2k, r28]
    rfl
  refine T_rw er (T_nm ?_)
  have rx3 : RX q (sI r2 42 8 (Int32.ofNat (rlN q))) := RX_s rx2 (by omega)
  have d6 : (sI r2 42 8 (Int32.ofNat (rlN q))).1 42 6 = a := by rw [sI_rf (by decide)]; exact c6
  have d7 : (sI r2 42 8 (Int32.ofNat (rlN q))).1 42 7 = b := by rw [sI_rf (by decide)]; exact c7
  have d8 : (sI r2 42 8 (Int32.ofNat (rlN q))).1 42 8 = Int32.ofNat (rlN q) := sI_rt
  generalize sI r2 42 8 (Int32.ofNat (rlN q)) = r3 at rx3 d6 d7 d8 ⊢
  have r3k : r3.1 1 2 = q.1 60 6 := by rw [RX_k rx3 (by decide)]; exact RY_k hY
  have r38 : r3.1 8 = q.1 66 := (RX_k rx3 (by decide)).trans (RY_forged hY)
  have eo : f_X8_realsOf r3 a = some (Int32.ofNat (owN q a)) := by
    rw [x_realsOf (by rw [r3k]; exact k0) (by rw [r3k]; exact k12), r3k, r38]
    unfold owN kN
    rw [cntN_c (r := fun t => decide (q.1 65 t = a) && decide (q.1 66 t = 0)) (fun t ht => by
      show (decide (r3.1 25 t = a) && decide (q.1 66 t = 0)) = (decide (q.1 65 t = a) && decide (q.1 66 t = 0))
      rw [rx3.2.2 t (by omega)])]
  refine T_rw eo (T_nm ?_)
  have rx4 : RX q (sI r3 42 9 (r3.1 42 8 - Int32.ofNat (owN q a))) := RX_s rx3 (by omega)
  have f6 : (sI r3 42 9 (r3.1 42 8 - Int32.ofNat (owN q a))).1 42 6 = a := by rw [sI_rf (by decide)]; exact d6
  have f7 : (sI r3 42 9 (r3.1 42 8 - Int32.ofNat (owN q a))).1 42 7 = b := by rw [sI_rf (by decide)]; exact d7
  have f8 : (sI r3 42 9 (r3.1 42 8 - Int32.ofNat (owN q a))).1 42 8 = Int32.ofNat (rlN q) := by rw [sI_rf (by decide)]; exact d8
  have f9 : (sI r3 42 9 (r3.1 42 8 - Int32.ofNat (owN q a))).1 42 9 = Int32.ofNat (rlN q) - Int32.ofNat (owN q a) := by rw [sI_rt, d8]
  generalize sI r3 42 9 (r3.1 42 8 - Int32.ofNat (owN q a)) = r4 at rx4 f6 f7 f8 f9 ⊢
  unfold b_X6_begin_47
  refine T_fx2 (fun z l => RX q z ∧ z.1 42 = r4.1 42 ∧ (0 ≤ l.toInt ∧ l.toInt ≤ 6) ∧ ∀ i : Nat, (i : Int) < l.toInt → z.1 45 i = 0) (fun _ l => (6 - l.toInt).toNat) ?_ _ _ _ ⟨rx4, rfl, by decide, fun i hi => by rw [l0] at hi; omega⟩ (by unfold FU; decide)
  rintro rec z l ⟨rz, z42, ⟨g0, g1⟩, hz⟩ hrec
  refine T_le (fun c => T_b (x_sortE hY rz (a := a) (by rw [z42]; exact f6)) (fun s hs => ?_)) (fun c => ?_)
  · obtain ⟨rs, s42, s45, s46, sf⟩ := hs
    unfold b_X6_begin_72
    refine T_fx2 (fun u m => RX q u ∧ SM s u ∧ ∃ i : Nat, m = Int32.ofNat i ∧ (i : Int) ≤ b.toInt ∧ Tb q a u (fun h _ _ _ => h < i)) (fun _ m => (4 - m.toInt).toNat) ?_ _ _ _ ⟨rs, ⟨rfl, rfl, rfl, rfl⟩, 0, rfl, by omega, fun h p g f _ _ _ _ _ x => by omega⟩ (by unfold FU; decide)
    rintro rec2 u m ⟨ru, su, i, rfl, hi, tu⟩ hrec2
    have ii : (Int32.ofNat i).toInt = (i : Int) := onI (by omega)
    have u7 : u.1 42 7 = b := by rw [su.1, s42, z42]; exact f7
    rw [u7]
    refine T_le (fun d => T_some.mpr ⟨ru, ⟨?_, u7, ?_, ?_⟩, fun j hj => ?_, fun f hf => ?_, ?_⟩) (fun d => ?_)
    · rw [su.1, s42, z42]; exact f6
    · rw [su.1, s42, z42]; exact f8
    · rw [su.1, s42, z42]; exact f9
    · rw [su.2.2.2, s45]
      exact hz j (by omega)
    · rw [su.2.1, su.2.2.1]
      exact sf f hf
    · exact Tb_w tu rfl rfl (fun h p g f _ _ _ _ x => by omega)
    · have i1 : (Int32.ofNat (i + 1)).toInt = ((i + 1 : Nat) : Int) := onI (by omega)
      refine T_b (x_hourE hY ru (a := a) (by rw [su.1, s42, z42]; exact f6) (H := i) (by omega) tu) (fun w hw => ?_)
      obtain ⟨rw_, sw, tw⟩ := hw
      rw [oa]
      exact hrec2 _ _ ⟨rw_, ⟨sw.1.trans su.1, sw.2.1.trans su.2.1, sw.2.2.1.trans su.2.2.1, sw.2.2.2.trans su.2.2.2⟩, i + 1, rfl, by omega, tw⟩ (by omega)
  · have e1 := inc1 (a := l) (by omega) (by omega)
    have li : ((l.toNatClampNeg : Nat) : Int) = l.toInt := cnI g0
    refine T_vp g0 (by show l.toInt < 6; omega) (T_nm (hrec _ _ ⟨RX_s rz (by omega), ?_, by omega, fun i hi => ?_⟩ (by omega)))
    · rw [sI_ro (by decide)]; exact z42
    · by_cases e : i = l.toNatClampNeg
      · rw [e, sI_rt]
      · rw [sI_rf e]
        exact hz i (by omega)
/-! ===== rid, first: the class's thought and the model's ===== -/
def ZR (q z : SS) : Prop := ZB q z ∧ ∀ t : Nat, (t : Int) < (q.1 60 6).toInt → 0 ≤ (z.1 81 t).toInt ∧ (z.1 81 t).toInt < (q.1 60 1).toInt
theorem OK3_gen {q u z : SS} (h : INV q) (w : RLW q) (r : RX q u) (zr : ZR q z) : OK3 u z := by
  have hY := INV_RY h
  obtain ⟨⟨zo, z60, hv⟩, z81⟩ := zr
  have z6 := z60 6 (by decide)
  have z1 := z60 1 (by decide)
  have z30 := z60 30 (by decide)
  have zz : ∀ k, 61 ≤ k → k < 79 → z.1 k = q.1 k := fun k h1 h2 => zo k (by omega) (by omega) (by omega) (by omega) (by omega)
  have e61 := zz 61 (by decide) (by decide)
  have e62 := zz 62 (by decide) (by decide)
  have e67 := zz 67 (by decide) (by decide)
  have e68 := zz 68 (by decide) (by decide)
  have e74 := zz 74 (by decide) (by decide)
  have e75 := zz 75 (by decide) (by decide)
  have e76 := zz 76 (by decide) (by decide)
  have e77 := zz 77 (by decide) (by decide)
  have e78 := zz 78 (by decide) (by decide)
  have y12 := r.2.1
  refine ⟨?_, ?_, ?_, ?_, ?_, ?_, ?_, ?_, ?_, ?_, ?_, ?_⟩
  · rw [RX_k r (by decide), e61]; exact RY_wary hY
  · rw [RX_k r (by decide), e62]; exact RY_child hY
  · rw [RX_k r (by decide), e67]; exact RY_folds hY
  · rw [RX_k r (by decide), e68]; exact RY_seen hY
  · rw [RX_k r (by decide), z1]; exact RY_p hY
  · rw [RX_k r (by decide), z6]; exact RY_k hY
  · rw [z1]; exact ⟨RY_p0 hY, RY_p6 hY⟩
  · rw [z6]; exact ⟨RY_k0 hY, RY_k12 hY⟩
  · intro t ht
    rw [e67]
    rw [z6] at ht
    exact RY_rfolds hY t ht
  · intro t ht
    rw [z6] at ht
    rw [z1]
    exact z81 t ht
  · exact RW_fr e74 e75 e77 e78 z30 (by rw [e76]) (INV_RW h)
  · rcases w with ⟨h1, h2⟩ | ⟨h1, h2, h3, cs, L⟩
    · exact Or.inl ⟨z30.trans h1, by rw [y12]; exact h2⟩
    · refine Or.inr ⟨z30.trans h1, by rw [y12]; exact h2, by rw [y12]; exact h3, cs, ?_⟩
      have L2 : LAw2 u q cs := by
        unfold LAw LAw2 at L
        unfold LAw2
        rw [y12, r.1 13 (by decide) (by decide) (by decide) (by decide) (by decide) (by decide) (by decide) (by decide) (by decide), r.1 14 (by decide) (by decide) (by decide) (by decide) (by decide) (by decide) (by decide) (by decide) (by decide)]
        exact L
      exact LAw2_c L2 e74 e75 e76 e77 e78
theorem tv_odds {q z : SS} (hI : INV q) (w : RLW q) {a v : Int32} {h p g f t : Nat} (tv : TV q a h p g f v) (zr : ZR q z) (hp : (p : Int) < (q.1 60 1).toInt) (ht : t < kN q) (e81 : z.1 81 t = a) (e67 : (q.1 67 t).toInt = (f : Int)) (hh : z.1 60 32 = jmin 11 (q.1 68 0 + Int32.ofNat h)) (hm : cntN (fun t => decide (z.1 81 t = Int32.ofNat p)) (kN q) = cntN (fun t => decide (q.1 65 t = Int32.ofNat p)) (kN q) + g) : ∃ s : Int32 × SS, f_X12_oddsOf z (Int32.ofNat t) (Int32.ofNat p) = some s ∧ s.1 = v ∧ (0 ≤ v.toInt ∧ v.toInt ≤ 12) ∧ F79 z s.2 := by
  have hY := INV_RY hI
  obtain ⟨u, r, rx, hr, ev⟩ := tv
  have P6 := RY_p6 hY
  have k12 := RY_k12 hY
  have k0 := RY_k0 hY
  have z6 := zr.1.2.1 6 (by decide)
  have z1 := zr.1.2.1 1 (by decide)
  have kn : (kN q : Int) = (q.1 60 6).toInt := by
    unfold kN
    omega
  have ti : (Int32.ofNat t).toInt = (t : Int) := onI (by omega)
  have tc : (Int32.ofNat t).toNatClampNeg = t := onC (by omega)
  have pi : (Int32.ofNat p).toInt = (p : Int) := onI (by omega)
  have fi : q.1 67 t = Int32.ofNat f := by
    have := RY_rfolds hY t (by omega)
    exact Int32.toInt_inj.mp (by rw [e67, onI (by omega)])
  have z67 : z.1 67 t = Int32.ofNat f := by rw [zr.1.1 67 (by decide) (by decide) (by decide) (by decide) (by decide)]; exact fi
  have mh : f_X12_manyOf z (Int32.ofNat p) = some (heldB q (Int32.ofNat p) + Int32.ofNat g) := by
    rw [m_manyOf (by rw [z6]; exact k0) (by rw [z6]; exact k12), z6]
    unfold heldB
    rw [← Int32.ofNat_add, ← hm]
    rfl
  have E := ev_by3 (OK3_gen hI w rx zr) (t := Int32.ofNat t) (p := Int32.ofNat p) (by rw [z6, ti]; omega) (by rw [z1, pi]; omega) hh mh
  rw [tc, e81, z67, hr] at E
  obtain ⟨r', s, h1, h2, h3⟩ := E
  cases h1
  obtain ⟨s', h4, h5, h6⟩ := m_oddsOf zr.1.2.2 (a := Int32.ofNat t) (b := Int32.ofNat p) (by rw [ti]; omega) (by rw [pi]; omega)
  rw [h2] at h4
  cases h4
  exact ⟨s, h2, by rw [← h3, ev], by rw [ev, h3]; exact h6, h5⟩
theorem m_onHourE {q z : SS} (hY : RY q) (zr : ZR q z) {h : Nat} (h3 : h ≤ 3) : f_X12_onHour z (Int32.ofNat h) = some (jmin 11 (q.1 68 0 + Int32.ofNat h)) := by
  have l11 : (11 : Int32).toInt = 11 := rfl
  have h0 := RY_h0 hY
  have h11 := RY_h11 hY
  have hi : (Int32.ofNat h).toInt = (h : Int) := onI (by omega)
  have e68 : z.1 68 = q.1 68 := zr.1.1 68 (by decide) (by decide) (by decide) (by decide) (by decide)
  have c0 : (0 : Int32).toNatClampNeg = 0 := rfl
  have ad : (q.1 68 0 + Int32.ofNat h).toInt = (q.1 68 0).toInt + h := by rw [tadd (by omega) (by omega), hi]
  have jm := jmin_E 11 (q.1 68 0 + Int32.ofNat h)
  unfold f_X12_onHour
  rw [if_pos (by decide), c0, e68]
  by_cases c : q.1 68 0 + Int32.ofNat h ≤ 11
  · have c' := Int32.le_iff_toInt_le.mp c
    rw [if_pos c, if_pos (by decide), jm.2 c']
  · have c' := Int32.lt_iff_toInt_lt.mp (Int32.not_le.mp c)
    rw [if_neg c, jm.1 (by omega)]
theorem cnt_dn {p r : Nat → Bool} {t : Nat} : ∀ {n : Nat}, t < n → (∀ i, i < n → i ≠ t → r i = p i) → p t = true → r t = false → cntN r n + 1 = cntN p n
  | 0, h, _, _, _ => absurd h (Nat.not_lt_zero _)
  | n + 1, h, he, hp, hr => by
    show cntN r n + (if r n = true then 1 else 0) + 1 = cntN p n + (if p n = true then 1 else 0)
    by_cases e : t = n
    · subst e
      rw [if_neg (by rw [hr]; decide), if_pos hp, cntN_c (p := r) (r := p) (fun i hi => he i (by omega) (by omega))]
    · rw [he n (by omega) (fun x => e x.symm)]
      have := cnt_dn (p := p) (r := r) (t := t) (n := n) (by omega) (fun i hi => he i (by omega)) hp hr
      omega
def kZ (q z : SS) (a : Int32) (f t : Nat) : Bool := decide (z.1 81 t = a) && (decide (q.1 66 t = 0) && decide ((q.1 67 t).toInt = (f : Int)))
theorem kZ_t {q z : SS} {a : Int32} {f t : Nat} : kZ q z a f t = true ↔ z.1 81 t = a ∧ q.1 66 t = 0 ∧ (q.1 67 t).toInt = (f : Int) := by
  unfold kZ
  simp only [Bool.and_eq_true, decide_eq_true_eq]
def oZ (q z : SS) (a : Int32) (t : Nat) : Bool := decide (z.1 81 t = a) && decide (q.1 66 t = 0)
def hZ (z : SS) (p : Nat) (t : Nat) : Bool := decide (z.1 81 t = Int32.ofNat p)
def hB (q : SS) (p : Nat) (t : Nat) : Bool := decide (q.1 65 t = Int32.ofNat p)
/-- the class's thought u and the model's z, after s slippings thought -/
def RLt (q : SS) (a b : Int32) (u z : SS) (s : Nat) : Prop := ZR q z ∧ (u.1 42 6 = a ∧ u.1 42 7 = b ∧ u.1 42 9 = Int32.ofNat (rlN q) - Int32.ofNat (owN q a) ∧ u.1 1 1 = q.1 60 1) ∧ (∀ h p g f : Nat, (h : Int) < b.toInt → (p : Int) < (q.1 60 1).toInt → g ≤ h → f < 4 → (∃ t, t < kN q ∧ kF q a f t = true) → TV q a h p g f (u.1 46 (pidx h p g f))) ∧ (∀ f, f < 4 → (u.1 43 f).toInt = (cntN (kZ q z a f) (kN q) : Int)) ∧ (∀ t, t < kN q → z.1 81 t = a → q.1 65 t = a) ∧ (∀ p : Nat, (p : Int) < (q.1 60 1).toInt → ∃ g : Nat, g ≤ s ∧ u.1 45 p = Int32.ofNat g ∧ (Int32.ofNat p = a → g = 0) ∧ (Int32.ofNat p ≠ a → cntN (hZ z p) (kN q) = cntN (hB q p) (kN q) + g)) ∧ cntN (oZ q z a) (kN q) + s = owN q a
theorem RLt_z {q u z z' : SS} {a b : Int32} {s : Nat} (R : RLt q a b u z s) (zr : ZR q z') (e : ∀ t : Nat, t < kN q → z'.1 81 t = z.1 81 t) : RLt q a b u z' s := by
  obtain ⟨_, h2, h3, h4, h5, h6, h7⟩ := R
  have ek : ∀ f, cntN (kZ q z' a f) (kN q) = cntN (kZ q z a f) (kN q) := fun f => cntN_c (fun t ht => by unfold kZ; rw [e t ht])
  have eo : cntN (oZ q z' a) (kN q) = cntN (oZ q z a) (kN q) := cntN_c (fun t ht => by unfold oZ; rw [e t ht])
  have eh : ∀ p, cntN (hZ z' p) (kN q) = cntN (hZ z p) (kN q) := fun p => cntN_c (fun t ht => by unfold hZ; rw [e t ht])
  refine ⟨zr, h2, h3, fun f hf => by rw [ek]; exact h4 f hf, fun t ht hx => h5 t ht (by rw [← e t ht]; exact hx), fun p hp => ?_, by rw [eo]; exact h7⟩
  rw [eh]
  exact h6 p hp
/-- one more is slipped in thought -/
theorem RLt_move {q u z z2 : SS} {a b : Int32} {s f p t : Nat} (R : RLt q a b u z s) (ht : t < kN q) (hf : f < 4) (k : kZ q z a f t = true) (hp : (p : Int) < (q.1 60 1).toInt) (p5 : p ≤ 5) (pa : Int32.ofNat p ≠ a) (zr : ZR q z2) (e : ∀ i : Nat, i < kN q → z2.1 81 i = if i = t then Int32.ofNat p else z.1 81 i) (s3 : s ≤ 3) (k12 : kN q ≤ 12) (P6 : (q.1 60 1).toInt ≤ 6) : RLt q a b (sI (sI u 43 f (u.1 43 f - 1)) 45 p (u.1 45 p + 1)) z2 (s + 1) := by
  obtain ⟨_, h2, h3, h4, h5, h6, h7⟩ := R
  have kt := kZ_t.mp k
  have et : z2.1 81 t = Int32.ofNat p := by rw [e t ht, if_pos rfl]
  have en : ∀ i, i < kN q → i ≠ t → z2.1 81 i = z.1 81 i := fun i hi hn => by rw [e i hi, if_neg hn]
  have kz2 : ∀ i, i < kN q → i ≠ t → ∀ j, kZ q z2 a j i = kZ q z a j i := fun i hi hn j => by unfold kZ; rw [en i hi hn]
  have kf : ∀ j, kZ q z2 a j t = false := fun j => by
    cases x : kZ q z2 a j t
    · rfl
    · exact absurd ((kZ_t.mp x).1.symm.trans et).symm pa
  have r43 : (sI (sI u 43 f (u.1 43 f - 1)) 45 p (u.1 45 p + 1)).1 43 f = u.1 43 f - 1 := by rw [sI_ro (by decide), sI_rt]
  have o43 : ∀ j, j ≠ f → (sI (sI u 43 f (u.1 43 f - 1)) 45 p (u.1 45 p + 1)).1 43 j = u.1 43 j := fun j hj => by rw [sI_ro (by decide), sI_rf hj]
  have r45 : (sI (sI u 43 f (u.1 43 f - 1)) 45 p (u.1 45 p + 1)).1 45 p = u.1 45 p + 1 := sI_rt
  have o45 : ∀ j, j ≠ p → (sI (sI u 43 f (u.1 43 f - 1)) 45 p (u.1 45 p + 1)).1 45 j = u.1 45 j := fun j hj => by rw [sI_rf hj, sI_ro (by decide)]
  have rk : ∀ j, j ≠ 43 → j ≠ 45 → (sI (sI u 43 f (u.1 43 f - 1)) 45 p (u.1 45 p + 1)).1 j = u.1 j := fun j a b => by rw [sI_ro b, sI_ro a]
  refine ⟨zr, by rw [rk 42 (by decide) (by decide), rk 1 (by decide) (by decide)]; exact h2, by rw [rk 46 (by decide) (by decide)]; exact h3, fun j hj => ?_, fun i hi hx => ?_, fun p' hp' => ?_, ?_⟩
  · by_cases c : j = f
    · rw [c, r43]
      have d := cnt_dn (p := kZ q z a f) (r := kZ q z2 a f) ht (fun i hi hn => kz2 i hi hn f) k (kf f)
      have x := h4 f hf
      have := cntN_le (kZ q z a f) (kN q)
      rw [dec1 (by omega)]
      omega
    · rw [o43 j c, h4 j hj]
      have : kZ q z a j t = false := by
        cases x : kZ q z a j t
        · rfl
        · exact absurd (by have a1 := (kZ_t.mp x).2.2; have a2 := kt.2.2; omega) c
      rw [cntN_c (p := kZ q z2 a j) (r := kZ q z a j) (fun i hi => by
        by_cases y : i = t
        · rw [y, kf j, this]
        · exact kz2 i hi y j)]
  · by_cases y : i = t
    · rw [y, et] at hx
      exact absurd hx pa
    · rw [en i hi y] at hx
      exact h5 i hi hx
  · obtain ⟨g, g1, g2, g3, g4⟩ := h6 p' hp'
    by_cases c : p' = p
    · subst c
      refine ⟨g + 1, by omega, by rw [r45, g2, oa], fun x => absurd x pa, fun _ => ?_⟩
      have d := cnt_dn (p := hZ z2 p') (r := hZ z p') ht (fun i hi hn => by unfold hZ; rw [en i hi hn]) (by unfold hZ; rw [et]; exact decide_eq_true rfl) (by
        unfold hZ
        rw [kt.1]
        exact decide_eq_false (fun x => pa x.symm))
      have := g4 pa
      omega
    · refine ⟨g, by omega, by rw [o45 p' c]; exact g2, g3, fun x => ?_⟩
      rw [cntN_c (p := hZ z2 p') (r := hZ z p') (fun i hi => by
        by_cases y : i = t
        · rw [y]
          unfold hZ
          rw [et, kt.1]
          have n1 : ¬ (Int32.ofNat p = Int32.ofNat p') := fun x' => c (by
            have a1 : (Int32.ofNat p).toInt = (p : Int) := onI (by omega)
            have a2 : (Int32.ofNat p').toInt = (p' : Int) := onI (by omega)
            rw [x', a2] at a1
            omega)
          have n2 : ¬ (a = Int32.ofNat p') := fun x' => x x'.symm
          rw [decide_eq_false n1, decide_eq_false n2]
        · unfold hZ
          rw [en i hi y])]
      exact g4 x
  · have d := cnt_dn (p := oZ q z a) (r := oZ q z2 a) ht (fun i hi hn => by unfold oZ; rw [en i hi hn]) (by
      unfold oZ
      simp only [Bool.and_eq_true, decide_eq_true_eq]
      exact ⟨kt.1, kt.2.1⟩) (by
      unfold oZ
      rw [et, decide_eq_false pa]
      rfl)
    omega
/-! ===== rid, first: the class's choice ===== -/
theorem jmax_E (a b : Int32) : (a.toInt ≤ b.toInt → jmax a b = b) ∧ (b.toInt ≤ a.toInt → jmax a b = a) := by
  unfold jmax
  simp only [Int32.lt_iff_toInt_lt]
  constructor <;> intro h <;> split <;> first | rfl | (apply Int32.toInt_inj.mp; omega)
theorem tv_b {q : SS} (hY : RY q) {a v : Int32} {h p g f : Nat} (t : TV q a h p g f v) : (0 ≤ v.toInt ∧ v.toInt ≤ 12) ∧ (Int32.ofNat p = a → v = 0) := by
  obtain ⟨u, s, rx, hs, e⟩ := t
  have wp : PK u := by
    unfold PK
    rw [RX_k rx (by decide : 1 < 12), RY_p hY, RY_k hY]
    exact ⟨⟨RY_p0 hY, RY_p6 hY⟩, RY_k0 hY, RY_k12 hY⟩
  constructor
  · obtain ⟨s', h1, _, h2⟩ := x_oddsBy wp a (Int32.ofNat p) (heldB q (Int32.ofNat p) + Int32.ofNat g) (Int32.ofNat f) (jmin 11 (q.1 68 0 + Int32.ofNat h))
    rw [hs] at h1
    cases h1
    rw [e]
    exact h2
  · intro ea
    unfold f_X8_oddsBy at hs
    rw [x_canGive wp.1.2, bind_s, if_pos (bI_f (fun x => x.1 ea.symm))] at hs
    cases hs
    exact e
/-- the odds the class reads off -/
theorem x_thenE {q u z : SS} (hY : RY q) {a b : Int32} {s h f p : Nat} (R : RLt q a b u z s) (hb : (h : Int) < b.toInt) (b3 : b.toInt ≤ 3) (sh : s ≤ h) (hf : f < 4) (hp : (p : Int) < (q.1 60 1).toInt) : ∃ o : Int32, f_X6_oddsThen u (Int32.ofNat h) (Int32.ofNat f) (Int32.ofNat p) = some o ∧ (0 ≤ o.toInt ∧ o.toInt ≤ 12) ∧ (o ≠ 0 → Int32.ofNat p ≠ a ∧ 0 < cntN (kZ q z a f) (kN q)) ∧ (0 < cntN (kZ q z a f) (kN q) → Int32.ofNat p ≠ a → ∃ g : Nat, TV q a h p g f o ∧ cntN (hZ z p) (kN q) = cntN (hB q p) (kN q) + g) := by
  have P6 := RY_p6 hY
  have l0 : (0 : Int32).toInt = 0 := rfl
  have l216 : (216 : Int32).toInt = 216 := rfl
  obtain ⟨_, _, h3, h4, h5, h6, _⟩ := R
  obtain ⟨g, g1, g2, g3, g4⟩ := h6 p hp
  have pe := plE (h := h) (p := p) (g := g) (f := f) (by omega) (by omega) (by omega) (by omega)
  have pb : pidx h p g f < 216 := by
    unfold pidx
    omega
  have pI : (Int32.ofNat (pidx h p g f)).toInt = (pidx h p g f : Int) := onI (by omega)
  have pC : (Int32.ofNat (pidx h p g f)).toNatClampNeg = pidx h p g f := onC (by omega)
  have pc : (Int32.ofNat p).toNatClampNeg = p := onC (by omega)
  have pi : (Int32.ofNat p).toInt = (p : Int) := onI (by omega)
  have fi : (Int32.ofNat f).toInt = (f : Int) := onI (by omega)
  have fc : (Int32.ofNat f).toNatClampNeg = f := onC (by omega)
  have v6 : vin (Int32.ofNat p) 6 := ⟨by omega, by show (Int32.ofNat p).toInt < 6; omega⟩
  have v4 : vin (Int32.ofNat f) 4 := ⟨by omega, by show (Int32.ofNat f).toInt < 4; omega⟩
  have v216 : vin (Int32.ofNat (pidx h p g f)) 216 := ⟨by omega, by show (Int32.ofNat (pidx h p g f)).toInt < 216; omega⟩
  have x43 := h4 f hf
  have ex : 0 < cntN (kZ q z a f) (kN q) → ∃ t, t < kN q ∧ kF q a f t = true := fun c => by
    by_cases e : ∃ t, t < kN q ∧ kZ q z a f t = true
    · obtain ⟨t, ht, e⟩ := e
      have k := kZ_t.mp e
      exact ⟨t, ht, kF_t.mpr ⟨h5 t ht k.1, k.2⟩⟩
    · have : cntN (kZ q z a f) (kN q) = cntN (fun _ => false) (kN q) := cntN_c (fun t ht => by
        cases x : kZ q z a f t
        · rfl
        · exact absurd ⟨t, ht, x⟩ e)
      have z0 : ∀ n, cntN (fun _ => false) n = 0 := fun n => by
        induction n with
        | zero => rfl
        | succ n ih => rw [cnt_s0 rfl, ih]
      rw [this, z0] at c
      omega
  unfold f_X6_oddsThen f_X6_placeOf
  rw [if_pos v6, pc, g2, pe, bind_s, if_pos v4, fc]
  by_cases c : u.1 43 f ≤ 0
  · have c' := Int32.le_iff_toInt_le.mp c
    refine ⟨0, by rw [if_pos c], by decide, fun x => absurd rfl x, fun x => ?_⟩
    omega
  · have c' := Int32.lt_iff_toInt_lt.mp (Int32.not_le.mp c)
    have tv := h3 h p g f hb hp (by omega) hf (ex (by omega))
    have tb := tv_b hY tv
    refine ⟨u.1 46 (pidx h p g f), ?_, tb.1, fun x => ⟨fun y => x (tb.2 y), by omega⟩, fun _ pa => ⟨g, tv, g4 pa⟩⟩
    rw [if_neg c, if_neg (fun x => by have := Int32.lt_iff_toInt_lt.mp x; omega), if_neg (fun x => by have := Int32.le_iff_toInt_le.mp x; omega), if_pos v216, pC]
/-- the class goes through folds and people -/
def TRw (u : SS) (n h s : Nat) (r1 : Int32) (f p : Nat) (w : Int32) : Prop := (g_X6_best n).2 u (Int32.ofNat h) (Int32.ofNat s) (Int32.ofNat f) (Int32.ofNat p) r1 = some (w, u)
def GIw (u : SS) (n h s : Nat) (r1 v0 : Int32) (P : Int) (cur : Int32) (D : Nat → Nat → Prop) : Prop := v0.toInt ≤ cur.toInt ∧ (∀ f p : Nat, f < 4 → (p : Int) < P → D f p → ∀ w, TRw u n h s r1 f p w → w.toInt ≤ cur.toInt) ∧ (cur = v0 ∨ ∃ (f p : Nat), f < 4 ∧ (p : Int) < P ∧ TRw u n h s r1 f p cur)
theorem GIw_w {u : SS} {n h s : Nat} {r1 v0 cur : Int32} {P : Int} {D D' : Nat → Nat → Prop} (g : GIw u n h s r1 v0 P cur D) (hD : ∀ f p : Nat, f < 4 → (p : Int) < P → D' f p → D f p) : GIw u n h s r1 v0 P cur D' := ⟨g.1, fun f p h1 h2 h3 => g.2.1 f p h1 h2 (hD f p h1 h2 h3), g.2.2⟩
theorem x_bestL {u : SS} {n h s : Nat} {r1 v0 : Int32} (P0 : 0 ≤ (u.1 1 1).toInt) (P6 : (u.1 1 1).toInt ≤ 6) (hT : ∀ f p : Nat, f < 4 → (p : Int) < (u.1 1 1).toInt → ∃ w, TRw u n h s r1 f p w) : ∃ v : Int32, b_X6_best_38 (g_X6_best n) u (Int32.ofNat h) (Int32.ofNat s) r1 v0 0 = some (v, u) ∧ GIw u n h s r1 v0 (u.1 1 1).toInt v (fun _ _ => True) := by
  have l4 : (4 : Int32).toInt = 4 := rfl
  have main : T (b_X6_best_38 (g_X6_best n) u (Int32.ofNat h) (Int32.ofNat s) r1 v0 0) (fun r => r.2 = u ∧ GIw u n h s r1 v0 (u.1 1 1).toInt r.1 (fun _ _ => True)) := by
    unfold b_X6_best_38
    refine T_fx6 (fun z l1 l2 l3 l4 l5 => z = u ∧ l1 = Int32.ofNat h ∧ l2 = Int32.ofNat s ∧ l3 = r1 ∧ ∃ i : Nat, l5 = Int32.ofNat i ∧ i ≤ 4 ∧ GIw u n h s r1 v0 (u.1 1 1).toInt l4 (fun f _ => f < i)) (fun _ _ _ _ _ l5 => (4 - l5.toInt).toNat) ?_ _ _ _ _ _ _ _ ⟨rfl, rfl, rfl, rfl, 0, rfl, by omega, Int.le_refl _, fun f p _ _ x => absurd x (Nat.not_lt_zero _), Or.inl rfl⟩ (by unfold FU; decide)
    rintro rec z l1 l2 l3 l4' l5 ⟨rfl, rfl, rfl, rfl, i, rfl, hi, G⟩ hrec
    have ii : (Int32.ofNat i).toInt = (i : Int) := onI (by omega)
    have i1 : (Int32.ofNat (i + 1)).toInt = ((i + 1 : Nat) : Int) := onI (by omega)
    refine T_le (fun c => T_some.mpr ⟨rfl, GIw_w G (fun f p hf _ _ => by omega)⟩) (fun c => ?_)
    rw [l4, ii] at c
    have c' : i < 4 := by omega
    unfold b_X6_best_47
    refine T_fx7 (fun y m1 m2 m3 m4 m5 m6 => y = z ∧ m1 = Int32.ofNat h ∧ m2 = Int32.ofNat s ∧ m3 = l3 ∧ m5 = Int32.ofNat i ∧ ∃ j : Nat, m6 = Int32.ofNat j ∧ (j : Int) ≤ (z.1 1 1).toInt ∧ GIw z n h s l3 v0 (z.1 1 1).toInt m4 (fun f p => f < i ∨ (f = i ∧ p < j))) (fun _ _ _ _ _ _ m6 => (6 - m6.toInt).toNat) ?_ _ _ _ _ _ _ _ _ ⟨rfl, rfl, rfl, rfl, rfl, 0, rfl, by omega, GIw_w G (fun f p _ _ x => by omega)⟩ (by unfold FU; decide)
    rintro rec2 y m1 m2 m3 m4 m5 m6 ⟨rfl, rfl, rfl, rfl, rfl, j, rfl, hj, G2⟩ hrec2
    have ji : (Int32.ofNat j).toInt = (j : Int) := onI (by omega)
    have j1 : (Int32.ofNat (j + 1)).toInt = ((j + 1 : Nat) : Int) := onI (by omega)
    refine T_rw (show f_X10_people y = some (y.1 1 1) from rfl) (T_le (fun d => ?_) (fun d => ?_))
    · rw [oa]
      exact hrec _ _ _ _ _ _ ⟨rfl, rfl, rfl, rfl, i + 1, rfl, by omega, GIw_w G2 (fun f p _ hp x => by omega)⟩ (by omega)
    · rw [ji] at d
      obtain ⟨w, hw⟩ := hT i j c' d
      refine T_rw hw (T_nm ?_)
      rw [oa]
      have jm := jmax_E m4 w
      refine hrec2 _ _ _ _ _ _ _ ⟨rfl, rfl, rfl, rfl, rfl, j + 1, rfl, by omega, ?_⟩ (by omega)
      by_cases e : m4.toInt ≤ w.toInt
      · rw [jm.1 e]
        refine ⟨Int.le_trans G2.1 e, fun f p hf hp x w' hw' => ?_, Or.inr ⟨i, j, c', d, hw⟩⟩
        by_cases y2 : f = i ∧ p = j
        · rw [y2.1, y2.2] at hw'
          have : w' = w := by
            unfold TRw at hw hw'
            rw [hw] at hw'
            exact (congrArg Prod.fst (Option.some.inj hw')).symm
          rw [this]
          exact Int.le_refl _
        · exact Int.le_trans (G2.2.1 f p hf hp (by omega) w' hw') e
      · rw [jm.2 (by omega)]
        refine ⟨G2.1, fun f p hf hp x w' hw' => ?_, G2.2.2⟩
        by_cases y2 : f = i ∧ p = j
        · rw [y2.1, y2.2] at hw'
          have : w' = w := by
            unfold TRw at hw hw'
            rw [hw] at hw'
            exact (congrArg Prod.fst (Option.some.inj hw')).symm
          rw [this]
          omega
        · exact G2.2.1 f p hf hp (by omega) w' hw'
  obtain ⟨r, hr, e1, e2⟩ := main
  obtain ⟨r1', r2'⟩ := r
  cases e1
  exact ⟨r1', hr, e2⟩
/-! ===== rid, first: one choice on either side ===== -/
theorem tv_c {q : SS} (hY : RY q) {a v : Int32} {h p g f : Nat} (t : TV q a h p g f v) (p6 : p ≤ 5) (n : v ≠ 0) : q.1 62 p = 0 := by
  obtain ⟨u, s, rx, hs, e⟩ := t
  have pc : (Int32.ofNat p).toNatClampNeg = p := onC (by omega)
  have wp : (u.1 1 1).toInt ≤ 6 := by rw [RX_k rx (by decide), RY_p hY]; exact RY_p6 hY
  have u4 : u.1 4 = q.1 62 := (RX_k rx (by decide)).trans (RY_child hY)
  by_cases c : q.1 62 p = 0
  · exact c
  · unfold f_X8_oddsBy at hs
    rw [x_canGive wp, bind_s, if_pos (bI_f (fun x => c (by have := x.2.2.2; rw [u4, pc] at this; exact this)))] at hs
    cases hs
    exact absurd e n
/-- the class's weighing of a slipping -/
theorem valX {o r4 r1 : Int32} {B : Int} (ho : 0 ≤ o.toInt ∧ o.toInt ≤ 12) (h4 : 0 ≤ r4.toInt ∧ r4.toInt ≤ B) (h1 : 0 ≤ r1.toInt ∧ r1.toInt ≤ B) (hB : B ≤ 1728) : (o * r4 + (12 - o) * r1).toInt = o.toInt * r4.toInt + (12 - o.toInt) * r1.toInt ∧ 0 ≤ o.toInt * r4.toInt + (12 - o.toInt) * r1.toInt ∧ o.toInt * r4.toInt + (12 - o.toInt) * r1.toInt ≤ 12 * B := by
  have l12 : (12 : Int32).toInt = 12 := rfl
  have d : (12 - o).toInt = 12 - o.toInt := by rw [tsub (by rw [l12]; omega) (by rw [l12]; omega), l12]
  have a1 : 0 ≤ o.toInt * r4.toInt := Int.mul_nonneg ho.1 h4.1
  have a2 : 0 ≤ (12 - o.toInt) * r1.toInt := Int.mul_nonneg (by omega) h1.1
  have b1 : o.toInt * r4.toInt ≤ o.toInt * B := Int.mul_le_mul_of_nonneg_left h4.2 ho.1
  have b2 : (12 - o.toInt) * r1.toInt ≤ (12 - o.toInt) * B := Int.mul_le_mul_of_nonneg_left h1.2 (by omega)
  have b3 : (12 - o.toInt) * B = 12 * B - o.toInt * B := Int.sub_mul _ _ _
  have e1 : (o * r4).toInt = o.toInt * r4.toInt := tmul (by omega) (by omega)
  have e2 : ((12 - o) * r1).toInt = (12 - o.toInt) * r1.toInt := by rw [tmul (by rw [d]; omega) (by rw [d]; omega), d]
  refine ⟨by rw [tadd (by rw [e1, e2]; omega) (by rw [e1, e2]; omega), e1, e2], by omega, by omega⟩
/-- the model's -/
theorem valM {o : Int32} {m4 m2 a4 : Int64} {B : Int} (ho : 0 ≤ o.toInt ∧ o.toInt ≤ 12) (h4 : 0 ≤ m4.toInt ∧ m4.toInt ≤ B) (h2 : 0 ≤ m2.toInt ∧ m2.toInt ≤ B) (hB : B ≤ 1728) (ea : a4.toInt = 12 * m2.toInt) : (o.toInt64 * m4 + (12 - o).toInt64 * (a4 / 12)).toInt = o.toInt * m4.toInt + (12 - o.toInt) * m2.toInt := by
  have l12 : (12 : Int32).toInt = 12 := rfl
  have L12 : (12 : Int64).toInt = 12 := rfl
  have d : (12 - o).toInt64.toInt = 12 - o.toInt := by rw [i64, tsub (by rw [l12]; omega) (by rw [l12]; omega), l12]
  have q : (a4 / 12).toInt = m2.toInt := by rw [ldivT (by omega) (by decide), L12, ea]; omega
  have a1 : 0 ≤ o.toInt * m4.toInt := Int.mul_nonneg ho.1 h4.1
  have a2 : 0 ≤ (12 - o.toInt) * m2.toInt := Int.mul_nonneg (by omega) h2.1
  have b1 : o.toInt * m4.toInt ≤ o.toInt * B := Int.mul_le_mul_of_nonneg_left h4.2 ho.1
  have b2 : (12 - o.toInt) * m2.toInt ≤ (12 - o.toInt) * B := Int.mul_le_mul_of_nonneg_left h2.2 (by omega)
  have b3 : (12 - o.toInt) * B = 12 * B - o.toInt * B := Int.sub_mul _ _ _
  have e1 : (o.toInt64 * m4).toInt = o.toInt * m4.toInt := by rw [lmul (by rw [i64]; omega) (by rw [i64]; omega), i64]
  have e2 : ((12 - o).toInt64 * (a4 / 12)).toInt = (12 - o.toInt) * m2.toInt := by rw [lmul (by rw [d, q]; omega) (by rw [d, q]; omega), d, q]
  rw [ladd (by rw [e1, e2]; omega) (by rw [e1, e2]; omega), e1, e2]
theorem val_eq {o r4 r1 B : Int} : o * (B - r4) + (12 - o) * (B - r1) = 12 * B - (o * r4 + (12 - o) * r1) := by
  rw [Int.mul_sub, Int.mul_sub, Int.sub_mul, Int.sub_mul]
  omega
def MV (u : SS) (f p : Nat) : SS := sI (sI u 43 f (u.1 43 f - 1)) 45 p (u.1 45 p + 1)
theorem un_move (u : SS) (f p : Nat) : sI (sI (MV u f p) 43 f ((MV u f p).1 43 f + 1)) 45 p ((sI (MV u f p) 43 f ((MV u f p).1 43 f + 1)).1 45 p - 1) = u := by
  have a1 : (MV u f p).1 43 f = u.1 43 f - 1 := by
    unfold MV
    rw [sI_ro (by decide), sI_rt]
  have a2 : (sI (MV u f p) 43 f ((MV u f p).1 43 f + 1)).1 45 p = u.1 45 p + 1 := by
    rw [sI_ro (by decide)]
    unfold MV
    rw [sI_rt]
  rw [a2, a1]
  refine Prod.ext (funext fun k => funext fun j => ?_) rfl
  by_cases c : k = 45 ∧ j = p
  · rw [sI_rd, if_pos c, c.1, c.2, Int32.add_sub_cancel]
  · rw [sI_rd, if_neg c]
    by_cases d : k = 43 ∧ j = f
    · rw [sI_rd, if_pos d, d.1, d.2, Int32.sub_add_cancel]
    · rw [sI_rd, if_neg d]
      unfold MV
      rw [sI_rd, if_neg c, sI_rd, if_neg d]
theorem x_triedE {u : SS} {n h s f p : Nat} {o r1 r4 : Int32} (hf : f < 4) (hp : p ≤ 5) (ho : f_X6_oddsThen u (Int32.ofNat h) (Int32.ofNat f) (Int32.ofNat p) = some o) (h4 : o ≠ 0 → (g_X6_best n).1 (MV u f p) (Int32.ofNat (h + 1)) (Int32.ofNat (s + 1)) = some (r4, MV u f p)) : TRw u (n + 1) h s r1 f p (if o = 0 then 12 * r1 else o * r4 + (12 - o) * r1) := by
  have pc : (Int32.ofNat p).toNatClampNeg = p := onC (by omega)
  have pi : (Int32.ofNat p).toInt = (p : Int) := onI (by omega)
  have fi : (Int32.ofNat f).toInt = (f : Int) := onI (by omega)
  have fc : (Int32.ofNat f).toNatClampNeg = f := onC (by omega)
  have v6 : vin (Int32.ofNat p) 6 := ⟨by omega, by show (Int32.ofNat p).toInt < 6; omega⟩
  have v4 : vin (Int32.ofNat f) 4 := ⟨by omega, by show (Int32.ofNat f).toInt < 4; omega⟩
  unfold TRw
  show fb_X6_tried (g_X6_best n) u (Int32.ofNat h) (Int32.ofNat s) (Int32.ofNat f) (Int32.ofNat p) r1 = _
  unfold fb_X6_tried
  rw [ho, bind_s]
  by_cases c : o = 0
  · rw [if_pos c, if_pos c]
  · rw [if_neg c, if_neg c, if_pos v4, if_pos v4, fc, pc]
    refine e_n (e_p v6 (e_p v6 (e_n ?_)))
    have e2 : sI (sI u 43 f (u.1 43 f - 1)) 45 p ((sI u 43 f (u.1 43 f - 1)).1 45 p + 1) = MV u f p := by
      unfold MV
      rw [show (sI u 43 f (u.1 43 f - 1)).1 45 p = u.1 45 p by rw [sI_ro (by decide)]]
    rw [e2, oa, oa, h4 c, bind_s]
    refine e_p v4 (e_p v4 (e_n (e_p v6 (e_p v6 (e_n ?_)))))
    show some (o * r4 + (12 - o) * r1, sI (sI (MV u f p) 43 f ((MV u f p).1 43 f + 1)) 45 p ((sI (MV u f p) 43 f ((MV u f p).1 43 f + 1)).1 45 p - 1)) = _
    rw [un_move]
def ZZ (q z z' : SS) : Prop := ZR q z' ∧ ∀ t : Nat, t < kN q → z'.1 81 t = z.1 81 t
theorem ZZ_t {q z z' z'' : SS} (a : ZZ q z z') (b : ZZ q z' z'') : ZZ q z z'' := ⟨b.1, fun t ht => (b.2 t ht).trans (a.2 t ht)⟩
theorem ZR_32 {q z : SS} (h : ZR q z) (x : Int32) : ZR q (sI z 60 32 x) := ⟨⟨fun k h0 h1 h2 h3 h4 => by rw [sI_ro h4]; exact h.1.1 k h0 h1 h2 h3 h4, fun i hi => by rw [sI_rf hi]; exact h.1.2.1 i hi, INV_sM h.1.2.2 rfl (by decide)⟩, fun t ht => by rw [sI_ro (by decide)]; exact h.2 t ht⟩
theorem ZR_79 {q z z' : SS} (h : ZR q z) (f : F79 z z') : ZR q z' := ⟨ZB_79 h.1 f, fun t ht => by rw [f.2 81 (by decide) (by decide)]; exact h.2 t ht⟩
theorem ZR_81 {q z : SS} (hY : RY q) (h : ZR q z) {i : Nat} {x : Int32} (hx : 0 ≤ x.toInt ∧ x.toInt < (q.1 60 1).toInt) : ZR q (sI z 81 i x) := ⟨ZB_81 h.1 (by have := RY_p6 hY; omega), fun t ht => by
    by_cases e : t = i
    · rw [e, sI_rt]; exact hx
    · rw [sI_rf e]; exact h.2 t ht⟩
theorem m_slipE {q z z1 : SS} (hI : INV q) (w : RLW q) {a l o : Int32} {a4 m4 : Int64} {n h p f t g : Nat} (zz : ZZ q z z1) (h3 : h ≤ 2) (tv : TV q a h p g f o) (hm : cntN (hZ z p) (kN q) = cntN (hB q p) (kN q) + g) (ht : t < kN q) (k : kZ q z a f t = true) (hp : (p : Int) < (q.1 60 1).toInt) (ha : 0 ≤ a.toInt ∧ a.toInt < (q.1 60 1).toInt) (ih : o ≠ 0 → ∀ z2, ZR q z2 → (∀ i : Nat, i < kN q → z2.1 81 i = if i = t then Int32.ofNat p else z.1 81 i) → ∃ z3, (g_X12_leftBy n).2.2 z2 a (l - 1) (Int32.ofNat (h + 1)) = some (m4, z3) ∧ ZZ q z2 z3) : ∃ z', (g_X12_leftBy (n + 1)).2.1 z1 a l (Int32.ofNat h) a4 (Int32.ofNat t) (Int32.ofNat p) = some ((if o = 0 then a4 else o.toInt64 * m4 + (12 - o).toInt64 * (a4 / 12)), z') ∧ ZZ q z z' := by
  have hY := INV_RY hI
  have k12 := RY_k12 hY
  have k0 := RY_k0 hY
  have P6 := RY_p6 hY
  have kn : (kN q : Int) = (q.1 60 6).toInt := by
    unfold kN
    omega
  have kt := kZ_t.mp k
  have ti : (Int32.ofNat t).toInt = (t : Int) := onI (by omega)
  have tc : (Int32.ofNat t).toNatClampNeg = t := onC (by omega)
  have pi : (Int32.ofNat p).toInt = (p : Int) := onI (by omega)
  have v12 : vin (Int32.ofNat t) 12 := ⟨by omega, by show (Int32.ofNat t).toInt < 12; omega⟩
  have zr1 := zz.1
  have zr2 := ZR_32 zr1 (jmin 11 (q.1 68 0 + Int32.ofNat h))
  have e81 : ∀ i, (sI z1 60 32 (jmin 11 (q.1 68 0 + Int32.ofNat h))).1 81 i = z1.1 81 i := fun i => by rw [sI_ro (by decide)]
  obtain ⟨s, hs, e1, eb, f9⟩ := tv_odds hI w tv zr2 hp ht (by rw [e81, zz.2 t ht]; exact kt.1) kt.2.2 (by rw [sI_rt]) (by
    rw [← show cntN (hB q p) (kN q) = cntN (fun t => decide (q.1 65 t = Int32.ofNat p)) (kN q) from rfl, ← hm]
    exact cntN_c (fun i hi => by
      show decide _ = decide _
      rw [e81, zz.2 i hi]))
  have zr3 := ZR_79 zr2 f9
  have s81 : ∀ i, i < kN q → s.2.1 81 i = z.1 81 i := fun i hi => by rw [f9.2 81 (by decide) (by decide), e81, zz.2 i hi]
  show ∃ z', fb_X12_slipBy (g_X12_leftBy n) z1 a l (Int32.ofNat h) a4 (Int32.ofNat t) (Int32.ofNat p) = _ ∧ _
  unfold fb_X12_slipBy
  rw [m_onHourE hY zr1 (by omega), bind_s]
  by_cases c : o = 0
  · refine ⟨s.2, e_n ?_, zr3, s81⟩
    rw [hs, bind_s, if_pos (e1.trans c), if_pos c]
  · have zr4 : ZR q (sI s.2 81 t (Int32.ofNat p)) := ZR_81 hY zr3 (by rw [pi]; omega)
    obtain ⟨z3, hz3, zz3⟩ := ih c _ zr4 (fun i hi => by
      by_cases e : i = t
      · rw [e, sI_rt, if_pos rfl]
      · rw [sI_rf e, if_neg e]; exact s81 i hi)
    refine ⟨sI z3 81 t a, e_n ?_, ZR_81 hY zz3.1 ha, fun i hi => ?_⟩
    · rw [hs, bind_s, if_neg (fun x => c (e1.symm.trans x)), if_pos v12, tc]
      refine e_n ?_
      rw [oa, hz3, bind_s, if_neg c]
      refine e_n (e_p v12 (e_n ?_))
      rw [e1]
    · by_cases e : i = t
      · rw [e, sI_rt]; exact kt.1.symm
      · rw [sI_rf e, zz3.2 i hi, sI_rf e]; exact s81 i hi
/-! ===== rid, first: the model's choice ===== -/
/-- what the model may slip -/
def CDm (q z : SS) (a : Int32) (t p : Nat) : Prop := t < kN q ∧ (p : Int) < (q.1 60 1).toInt ∧ z.1 81 t = a ∧ q.1 66 t = 0 ∧ q.1 67 t ≠ 4 ∧ a ≠ Int32.ofNat p ∧ q.1 62 p = 0
def SLm (q z : SS) (n : Nat) (a l : Int32) (h : Nat) (a4 : Int64) (t p : Nat) (m : Int64) : Prop := ∀ z1, ZZ q z z1 → ∃ z2, (g_X12_leftBy n).2.1 z1 a l (Int32.ofNat h) a4 (Int32.ofNat t) (Int32.ofNat p) = some (m, z2) ∧ ZZ q z z2
def GJm (q z : SS) (n : Nat) (a l : Int32) (h : Nat) (a4 cur : Int64) (D : Nat → Nat → Prop) : Prop := cur.toInt ≤ a4.toInt ∧ (∀ t p : Nat, CDm q z a t p → D t p → ∀ m, SLm q z n a l h a4 t p m → cur.toInt ≤ m.toInt) ∧ (cur = a4 ∨ ∃ t p : Nat, CDm q z a t p ∧ SLm q z n a l h a4 t p cur)
theorem GJm_w {q z : SS} {n : Nat} {a l : Int32} {h : Nat} {a4 cur : Int64} {D D' : Nat → Nat → Prop} (g : GJm q z n a l h a4 cur D) (hD : ∀ t p : Nat, CDm q z a t p → D' t p → D t p) : GJm q z n a l h a4 cur D' := ⟨g.1, fun t p h1 h2 => g.2.1 t p h1 (hD t p h1 h2), g.2.2⟩
theorem SLm_u {q z z1 : SS} {n : Nat} {a l : Int32} {h : Nat} {a4 m m' : Int64} {t p : Nat} (zz : ZZ q z z1) (x : SLm q z n a l h a4 t p m) (y : SLm q z n a l h a4 t p m') : m' = m := by
  obtain ⟨z2, h1, _⟩ := x z1 zz
  obtain ⟨z3, h2, _⟩ := y z1 zz
  rw [h1] at h2
  exact (congrArg Prod.fst (Option.some.inj h2)).symm
theorem m_byL {q z z1 : SS} (hY : RY q) {n : Nat} {a l : Int32} {h : Nat} {a4 : Int64} (zz0 : ZZ q z z1) (hS : ∀ t p : Nat, CDm q z a t p → ∃ m, SLm q z n a l h a4 t p m) : ∃ (m : Int64) (z2 : SS), (g_X12_leftBy (n + 1)).1 z1 a l (Int32.ofNat h) a4 = some (m, z2) ∧ ZZ q z z2 ∧ GJm q z n a l h a4 m (fun _ _ => True) := by
  have k0 := RY_k0 hY
  have k12 := RY_k12 hY
  have P0 := RY_p0 hY
  have P6 := RY_p6 hY
  have kn : (kN q : Int) = (q.1 60 6).toInt := by
    unfold kN
    omega
  have main : T (fb_X12_leftBy (g_X12_leftBy n) z1 a l (Int32.ofNat h) a4) (fun r => ZZ q z r.2 ∧ GJm q z n a l h a4 r.1 (fun _ _ => True)) := by
    unfold fb_X12_leftBy b_X12_leftBy_7
    refine T_fx7 (fun y l1 l2 l3 l4 l6 l8 => l1 = a ∧ l2 = l ∧ l3 = Int32.ofNat h ∧ l4 = a4 ∧ ZZ q z y ∧ ∃ i : Nat, l8 = Int32.ofNat i ∧ i ≤ kN q ∧ GJm q z n a l h a4 l6 (fun t _ => t < i)) (fun _ _ _ _ _ _ l8 => (12 - l8.toInt).toNat) ?_ _ _ _ _ _ _ _ _ ⟨rfl, rfl, rfl, rfl, zz0, 0, rfl, by omega, Int.le_refl _, fun t p _ x => absurd x (Nat.not_lt_zero _), Or.inl rfl⟩ (by unfold FU; decide)
    rintro rec y l1 l2 l3 l4 l6 l8 ⟨rfl, rfl, rfl, rfl, zz, i, rfl, hi, G⟩ hrec
    have ii : (Int32.ofNat i).toInt = (i : Int) := onI (by omega)
    have ic : (Int32.ofNat i).toNatClampNeg = i := onC (by omega)
    have y6 : y.1 60 6 = q.1 60 6 := zz.1.1.2.1 6 (by decide)
    have y66 : y.1 66 = q.1 66 := zz.1.1.1 66 (by decide) (by decide) (by decide) (by decide) (by decide)
    rw [y6]
    refine T_le (fun c => T_some.mpr ⟨zz, GJm_w G (fun t p x _ => by have := x.1; omega)⟩) (fun c => ?_)
    rw [ii] at c
    have i1 : (Int32.ofNat (i + 1)).toInt = ((i + 1 : Nat) : Int) := onI (by omega)
    have ik : i < kN q := by omega
    have nx : ∀ (y' : SS) (cur : Int64), ZZ q z y' → GJm q z n l1 l2 h l4 cur (fun t _ => t < i + 1) → T (rec y' l1 l2 (Int32.ofNat h) l4 cur (Int32.ofNat i + 1)) (fun r => ZZ q z r.2 ∧ GJm q z n l1 l2 h l4 r.1 (fun _ _ => True)) := fun y' cur zy g => by
      rw [oa]
      exact hrec _ _ _ _ _ _ _ ⟨rfl, rfl, rfl, rfl, zy, i + 1, rfl, by omega, g⟩ (by omega)
    have no : (∀ p, ¬ CDm q z l1 i p) → GJm q z n l1 l2 h l4 l6 (fun t _ => t < i + 1) := fun x => GJm_w G (fun t p g2 g3 => by
      by_cases e : t = i
      · rw [e] at g2
        exact absurd g2 (x p)
      · omega)
    have v12 : vin (Int32.ofNat i) 12 := ⟨by omega, by show (Int32.ofNat i).toInt < 12; omega⟩
    unfold b_X12_leftBy_100
    refine T_p v12 ?_
    rw [ic, zz.2 i ik]
    by_cases c1 : z.1 81 i = l1
    rotate_left
    · exact T_q c1 (nx _ _ zz (no (fun p x => c1 x.2.2.1)))
    refine T_p c1 (T_p v12 ?_)
    rw [y66]
    by_cases c2 : q.1 66 i = 1
    · exact T_p c2 (nx _ _ zz (no (fun p x => by
        have := x.2.2.2.1
        rw [c2] at this
        exact absurd this (by decide))))
    have r66 := RY_rforged hY i (by omega)
    have c3 : q.1 66 i = 0 := Int32.toInt_inj.mp (by
      have n1 : (q.1 66 i).toInt ≠ 1 := fun x => c2 (Int32.toInt_inj.mp x)
      show _ = (0 : Int)
      omega)
    refine T_q c2 ?_
    unfold b_X12_leftBy_44 b_X12_leftBy_94 b_X12_leftBy_100
    refine T_fx8 (fun y' m1 m2 m3 m4 m6 m8 m9 => m1 = l1 ∧ m2 = l2 ∧ m3 = Int32.ofNat h ∧ m4 = l4 ∧ m8 = Int32.ofNat i ∧ ZZ q z y' ∧ ∃ j : Nat, m9 = Int32.ofNat j ∧ (j : Int) ≤ (q.1 60 1).toInt ∧ GJm q z n l1 l2 h l4 m6 (fun t p => t < i ∨ (t = i ∧ p < j))) (fun _ _ _ _ _ _ _ m9 => (6 - m9.toInt).toNat) ?_ _ _ _ _ _ _ _ _ _ ⟨rfl, rfl, rfl, rfl, rfl, zz, 0, rfl, by omega, GJm_w G (fun t p _ x => by omega)⟩ (by unfold FU; decide)
    rintro rec2 y' m1 m2 m3 m4 m6 m8 m9 ⟨rfl, rfl, rfl, rfl, rfl, zz', j, rfl, hj, G2⟩ hrec2
    have ji : (Int32.ofNat j).toInt = (j : Int) := onI (by omega)
    have jc : (Int32.ofNat j).toNatClampNeg = j := onC (by omega)
    have y1 : y'.1 60 1 = q.1 60 1 := zz'.1.1.2.1 1 (by decide)
    rw [y1]
    refine T_le (fun d => nx _ _ zz' (GJm_w G2 (fun t p g2 x => by have := g2.2.1; omega))) (fun d => ?_)
    rw [ji] at d
    have j1 : (Int32.ofNat (j + 1)).toInt = ((j + 1 : Nat) : Int) := onI (by omega)
    have nx2 : ∀ (y2 : SS) (cur : Int64), ZZ q z y2 → GJm q z n m1 m2 h m4 cur (fun t p => t < i ∨ (t = i ∧ p < j + 1)) → T (rec2 y2 m1 m2 (Int32.ofNat h) m4 cur (Int32.ofNat i) (Int32.ofNat j + 1)) (fun r => ZZ q z r.2 ∧ GJm q z n m1 m2 h m4 r.1 (fun _ _ => True)) := fun y2 cur zy g => by
      rw [oa]
      exact hrec2 _ _ _ _ _ _ _ _ ⟨rfl, rfl, rfl, rfl, rfl, zy, j + 1, rfl, by omega, g⟩ (by omega)
    have y67 : y'.1 67 = q.1 67 := zz'.1.1.1 67 (by decide) (by decide) (by decide) (by decide) (by decide)
    have y62 : y'.1 62 = q.1 62 := zz'.1.1.1 62 (by decide) (by decide) (by decide) (by decide) (by decide)
    refine T_rw (m_maySlip (a := Int32.ofNat i) (b := Int32.ofNat j) (by omega) (by omega)) ?_
    rw [ic, jc, y67, y62, zz'.2 i ik, c1]
    by_cases cd : q.1 67 i ≠ 4 ∧ m1 ≠ Int32.ofNat j ∧ q.1 62 j = 0
    · have CD : CDm q z m1 i j := ⟨ik, d, c1, c3, cd.1, cd.2.1, cd.2.2⟩
      obtain ⟨m, sl⟩ := hS i j CD
      obtain ⟨y2, hy2, zy2⟩ := sl y' zz'
      refine T_q (by rw [bI_t cd]; decide) (T_rw hy2 ?_)
      by_cases e : m6.toInt ≤ m.toInt
      · refine T_p (lgc_ge.mpr e) (nx2 _ _ zy2 ⟨G2.1, fun t p g2 x m' sl' => ?_, G2.2.2⟩)
        by_cases y3 : t = i ∧ p = j
        · rw [y3.1, y3.2] at sl'
          rw [SLm_u zz' sl sl']
          exact e
        · exact G2.2.1 t p g2 (by omega) m' sl'
      · refine T_q (fun x => e (lgc_ge.mp x)) (nx2 _ _ zy2 ⟨by have := G2.1; show m.toInt ≤ m4.toInt; omega, fun t p g2 x m' sl' => ?_, Or.inr ⟨i, j, CD, sl⟩⟩)
        by_cases y3 : t = i ∧ p = j
        · rw [y3.1, y3.2] at sl'
          rw [SLm_u zz' sl sl']
          exact Int.le_refl _
        · have := G2.2.1 t p g2 (by omega) m' sl'
          show m.toInt ≤ m'.toInt
          omega
    · refine T_p (bI_f cd) (nx2 _ _ zz' (GJm_w G2 (fun t p g2 x => ?_)))
      by_cases y3 : t = i ∧ p = j
      · rw [y3.1, y3.2] at g2
        exact absurd ⟨g2.2.2.2.2.1, g2.2.2.2.2.2.1, g2.2.2.2.2.2.2⟩ cd
      · omega
  obtain ⟨r, hr, e1, e2⟩ := main
  exact ⟨r.1, r.2, hr, e1, e2⟩
/-! ===== rid, first: hour by hour ===== -/
theorem cnt_imp {p r : Nat → Bool} : ∀ {n : Nat}, (∀ i, i < n → p i = true → r i = true) → cntN p n ≤ cntN r n
  | 0, _ => Nat.le_refl _
  | n + 1, h => by
    have x := cnt_imp (p := p) (r := r) (n := n) (fun i hi => h i (by omega))
    show cntN p n + (if p n = true then 1 else 0) ≤ cntN r n + (if r n = true then 1 else 0)
    by_cases c : p n = true
    · rw [if_pos c, if_pos (h n (by omega) c)]
      omega
    · rw [if_neg c]
      omega
theorem ow_rl {q : SS} {a : Int32} : owN q a ≤ rlN q := cnt_imp (fun i _ h => by
  simp only [Bool.and_eq_true, decide_eq_true_eq] at h ⊢
  exact h.2)
theorem rl12 {q : SS} (hY : RY q) : rlN q ≤ 12 := by
  have a := cntN_le (fun t => decide (q.1 66 t = 0)) (kN q)
  have k := RY_k12 hY
  have k0 := RY_k0 hY
  unfold rlN
  unfold kN at a ⊢
  omega
/-- so many ways as count: reals, times twelve an hour -/
def BB (q : SS) (l2 : Nat) : Int := (rlN q : Int) * (12 : Int) ^ l2
theorem BB_0 (q : SS) : BB q 0 = (rlN q : Int) := by
  unfold BB
  rw [Int.pow_zero, Int.mul_one]
theorem BB_s (q : SS) (l : Nat) : BB q (l + 1) = 12 * BB q l := by
  unfold BB
  rw [Int.pow_succ, ← Int.mul_assoc, Int.mul_comm]
def BL (q : SS) (a b : Int32) (l2 : Nat) : Prop := ∀ (n1 n2 : Nat) (u z : SS) (h s : Nat) (l : Int32), 2 * l2 + 1 ≤ n1 → 3 * l2 + 1 ≤ n2 → (h : Int) + l2 = b.toInt → s ≤ h → l.toInt = (l2 : Int) → RLt q a b u z s → ∃ (v : Int32) (m : Int64) (z' : SS), (g_X6_best n1).1 u (Int32.ofNat h) (Int32.ofNat s) = some (v, u) ∧ (g_X12_leftBy n2).2.2 z a l (Int32.ofNat h) = some (m, z') ∧ (0 ≤ v.toInt ∧ v.toInt ≤ BB q l2) ∧ m.toInt = BB q l2 - v.toInt ∧ ZZ q z z'
theorem BL_0 {q : SS} (hI : INV q) {a b : Int32} (b3 : b.toInt ≤ 3) : BL q a b 0 := by
  intro n1 n2 u z h s l hn1 hn2 hh sh hl R
  have hY := INV_RY hI
  obtain ⟨x, rfl⟩ : ∃ x, n1 = x + 1 := ⟨n1 - 1, by omega⟩
  obtain ⟨y, rfl⟩ : ∃ y, n2 = y + 1 := ⟨n2 - 1, by omega⟩
  obtain ⟨zr, ⟨_, u7, u9, _⟩, _, _, _, _, hc⟩ := R
  have k12 := RY_k12 hY
  have k0 := RY_k0 hY
  have r12 := rl12 hY
  have ow := ow_rl (q := q) (a := a)
  have hi : (Int32.ofNat h).toInt = (h : Int) := onI (by omega)
  have si : (Int32.ofNat s).toInt = (s : Int) := onI (by omega)
  have ri : (Int32.ofNat (rlN q)).toInt = (rlN q : Int) := onI (by omega)
  have oi : (Int32.ofNat (owN q a)).toInt = (owN q a : Int) := onI (by omega)
  have z6 := zr.1.2.1 6 (by decide)
  have z66 : z.1 66 = q.1 66 := zr.1.1 66 (by decide) (by decide) (by decide) (by decide) (by decide)
  have e1 : (Int32.ofNat (rlN q) - Int32.ofNat (owN q a)).toInt = (rlN q : Int) - owN q a := by rw [tsub (by omega) (by omega), ri, oi]
  have e2 : (Int32.ofNat (rlN q) - Int32.ofNat (owN q a) + Int32.ofNat s).toInt = (rlN q : Int) - owN q a + s := by rw [tadd (by omega) (by omega), e1, si]
  have l0 : l = 0 := Int32.toInt_inj.mp hl
  have em : f_X12_realOf z a = some (Int32.ofNat (cntN (oZ q z a) (kN q))) := by
    rw [m_realOf (by rw [z6]; exact k0) (by rw [z6]; exact k12), z6, z66]
    rfl
  have ci : (Int32.ofNat (cntN (oZ q z a) (kN q))).toInt = (cntN (oZ q z a) (kN q) : Int) := onI (by omega)
  refine ⟨Int32.ofNat (rlN q) - Int32.ofNat (owN q a) + Int32.ofNat s, (Int32.ofNat (cntN (oZ q z a) (kN q))).toInt64, z, ?_, ?_, ?_, ?_, zr, fun _ _ => rfl⟩
  · show fb_X6_best (g_X6_best x) u (Int32.ofNat h) (Int32.ofNat s) = _
    unfold fb_X6_best b_X6_best_13
    rw [u7, if_pos (Int32.le_iff_toInt_le.mpr (by rw [hi]; omega)), u9]
  · show fb_X12_leftOf (g_X12_leftBy y) z a l (Int32.ofNat h) = _
    unfold fb_X12_leftOf
    rw [if_pos l0, em, bind_s]
  · rw [BB_0, e2]
    omega
  · rw [BB_0, e2, i64, ci]
    omega
/-! ===== rid, first: one hour more ===== -/
theorem cnt_ex {p : Nat → Bool} : ∀ {n : Nat}, 0 < cntN p n → ∃ t, t < n ∧ p t = true
  | 0, h => absurd h (Nat.not_lt_zero _)
  | n + 1, h => by
    by_cases c : p n = true
    · exact ⟨n, by omega, c⟩
    · have e : cntN p (n + 1) = cntN p n := cnt_s0 (by cases x : p n; rfl; exact absurd x c)
      rw [e] at h
      obtain ⟨t, h1, h2⟩ := cnt_ex h
      exact ⟨t, by omega, h2⟩
theorem cnt_pos {p : Nat → Bool} {t : Nat} : ∀ {n : Nat}, t < n → p t = true → 0 < cntN p n
  | 0, h, _ => absurd h (Nat.not_lt_zero _)
  | n + 1, h, hp => by
    by_cases e : t = n
    · subst e
      rw [cnt_s1 hp]
      omega
    · have x := cnt_pos (p := p) (t := t) (n := n) (by omega) hp
      show 0 < cntN p n + (if p n = true then 1 else 0)
      omega
theorem BB_b {q : SS} (hY : RY q) {L : Nat} (hL : L ≤ 2) : 0 ≤ BB q L ∧ BB q L ≤ 1728 := by
  have r := rl12 hY
  have c : L = 0 ∨ L = 1 ∨ L = 2 := by omega
  rcases c with rfl | rfl | rfl
  · rw [BB_0]; omega
  · rw [BB_s, BB_0]; omega
  · rw [BB_s, BB_s, BB_0]; omega
theorem BL_mv {q u z : SS} (hY : RY q) {a b : Int32} {L x y h s f p t : Nat} {l : Int32} (ih : BL q a b L) (hx : 2 * L + 1 ≤ x) (hy : 3 * L + 1 ≤ y) (hh : (h : Int) + (L + 1) = b.toInt) (b3 : b.toInt ≤ 3) (sh : s ≤ h) (hl : l.toInt = (L : Int)) (R : RLt q a b u z s) (hf : f < 4) (hp : (p : Int) < (q.1 60 1).toInt) (ht : t < kN q) (k : kZ q z a f t = true) (pa : Int32.ofNat p ≠ a) : ∃ (r4 : Int32) (m4 : Int64), (g_X6_best x).1 (MV u f p) (Int32.ofNat (h + 1)) (Int32.ofNat (s + 1)) = some (r4, MV u f p) ∧ (0 ≤ r4.toInt ∧ r4.toInt ≤ BB q L) ∧ m4.toInt = BB q L - r4.toInt ∧ ∀ z2, ZR q z2 → (∀ i : Nat, i < kN q → z2.1 81 i = if i = t then Int32.ofNat p else z.1 81 i) → ∃ z3, (g_X12_leftBy y).2.2 z2 a l (Int32.ofNat (h + 1)) = some (m4, z3) ∧ ZZ q z2 z3 := by
  have P6 := RY_p6 hY
  have k12 := RY_k12 hY
  have k0 := RY_k0 hY
  have kn : (kN q : Int) = (q.1 60 6).toInt := by
    unfold kN
    omega
  have pi : (Int32.ofNat p).toInt = (p : Int) := onI (by omega)
  have go : ∀ z2, ZR q z2 → (∀ i : Nat, i < kN q → z2.1 81 i = if i = t then Int32.ofNat p else z.1 81 i) → RLt q a b (MV u f p) z2 (s + 1) := fun z2 zr e => RLt_move R ht hf k hp (by omega) pa zr e (by omega) (by omega) P6
  have zr0 : ZR q (sI z 81 t (Int32.ofNat p)) := ZR_81 hY R.1 (by rw [pi]; omega)
  obtain ⟨r4, m4, z3, h1, h2, h3, h4, h5⟩ := ih x y (MV u f p) _ (h + 1) (s + 1) l hx hy (by omega) (by omega) hl (go _ zr0 (fun i hi => by
    by_cases e : i = t
    · rw [e, sI_rt, if_pos rfl]
    · rw [sI_rf e, if_neg e]))
  refine ⟨r4, m4, h1, h3, h4, fun z2 zr e => ?_⟩
  obtain ⟨r4', m4', z3', g1, g2, g3, g4, g5⟩ := ih x y (MV u f p) z2 (h + 1) (s + 1) l hx hy (by omega) (by omega) hl (go z2 zr e)
  rw [h1] at g1
  have er : r4' = r4 := (congrArg Prod.fst (Option.some.inj g1)).symm
  have em : m4' = m4 := Int64.toInt_inj.mp (by rw [g4, h4, er])
  rw [em] at g2
  exact ⟨z3', g2, g5⟩
/-- a slipping on either side -/
theorem BL_pr {q u z : SS} (hI : INV q) (w : RLW q) {a b : Int32} (ha : 0 ≤ a.toInt ∧ a.toInt < (q.1 60 1).toInt) {L x y h s f p t : Nat} {l r1 : Int32} {m2 : Int64} (ih : BL q a b L) (hx : 2 * L + 1 ≤ x) (hy : 3 * L + 1 ≤ y) (hh : (h : Int) + (L + 1) = b.toInt) (b3 : b.toInt ≤ 3) (sh : s ≤ h) (hl : l.toInt = (L : Int) + 1) (R : RLt q a b u z s) (hf : f < 4) (hp : (p : Int) < (q.1 60 1).toInt) (ht : t < kN q) (k : kZ q z a f t = true) (pa : Int32.ofNat p ≠ a) (hr1 : 0 ≤ r1.toInt ∧ r1.toInt ≤ BB q L) (hm2 : m2.toInt = BB q L - r1.toInt) : ∃ (w : Int32) (m : Int64), TRw u (x + 1) h s r1 f p w ∧ SLm q z (y + 1) a l h (12 * m2) t p m ∧ (0 ≤ w.toInt ∧ w.toInt ≤ BB q (L + 1)) ∧ m.toInt = BB q (L + 1) - w.toInt := by
  have hY := INV_RY hI
  have P6 := RY_p6 hY
  have B := BB_b hY (L := L) (by omega)
  have L12 : (12 : Int64).toInt = 12 := rfl
  have l12 : (12 : Int32).toInt = 12 := rfl
  have e12 : (12 * m2).toInt = 12 * m2.toInt := by rw [lmul (by rw [L12]; omega) (by rw [L12]; omega), L12]
  have e12' : (12 * r1).toInt = 12 * r1.toInt := by rw [tmul (by rw [l12]; omega) (by rw [l12]; omega), l12]
  obtain ⟨o, o1, o2, o3, o4⟩ := x_thenE hY R (by omega) b3 sh hf hp
  obtain ⟨g, tv, hm⟩ := o4 (cnt_pos ht k) pa
  obtain ⟨r4, m4, h1, h2, h3, h4⟩ := BL_mv hY ih hx hy hh b3 sh (l := l - 1) (by rw [dec1 (by omega)]; omega) R hf hp ht k pa
  have X := x_triedE (u := u) (n := x) (h := h) (s := s) (f := f) (p := p) (o := o) (r1 := r1) (r4 := r4) hf (by omega) o1 (fun _ => h1)
  refine ⟨_, (if o = 0 then 12 * m2 else o.toInt64 * m4 + (12 - o).toInt64 * ((12 * m2) / 12)), X, fun z1 zz => m_slipE hI w zz (by omega) tv hm ht k hp ha (fun _ => h4), ?_⟩
  rw [BB_s]
  by_cases c : o = 0
  · rw [if_pos c, if_pos c, e12, e12']
    omega
  · rw [if_neg c, if_neg c]
    have vx := valX o2 h2 hr1 B.2
    have vm := valM (o := o) (m4 := m4) (m2 := m2) (a4 := 12 * m2) (B := BB q L) o2 (by omega) (by omega) B.2 e12
    rw [vx.1, vm]
    refine ⟨⟨vx.2.1, vx.2.2⟩, ?_⟩
    rw [h3, hm2]
    exact val_eq
theorem BL_s {q : SS} (hI : INV q) (w : RLW q) {a b : Int32} (ha : 0 ≤ a.toInt ∧ a.toInt < (q.1 60 1).toInt) (b3 : b.toInt ≤ 3) {L : Nat} (ih : BL q a b L) : BL q a b (L + 1) := by
  intro n1 n2 u z h s l hn1 hn2 hh sh hl R
  have hY := INV_RY hI
  have P0 := RY_p0 hY
  have P6 := RY_p6 hY
  obtain ⟨x, rfl⟩ : ∃ x, n1 = x + 2 := ⟨n1 - 2, by omega⟩
  obtain ⟨y, rfl⟩ : ∃ y, n2 = y + 3 := ⟨n2 - 3, by omega⟩
  have hh' : (h : Int) + (L + 1) = b.toInt := by omega
  have hl' : l.toInt = (L : Int) + 1 := by omega
  have B := BB_b hY (L := L) (by omega)
  have L12 : (12 : Int64).toInt = 12 := rfl
  have l12 : (12 : Int32).toInt = 12 := rfl
  have l3 : (3 : Int32).toInt = 3 := rfl
  have hi : (Int32.ofNat h).toInt = (h : Int) := onI (by omega)
  have eP : u.1 1 1 = q.1 60 1 := R.2.1.2.2.2
  have u7 : u.1 42 7 = b := R.2.1.2.1
  obtain ⟨r1, m2, z1, e1, e2, hr1, hm2, zz1⟩ := ih (x + 1) (y + 2) u z (h + 1) s (l - 1) (by omega) (by omega) (by omega) (by omega) (by rw [dec1 (by omega)]; omega) R
  have e12 : (12 * m2).toInt = 12 * m2.toInt := by rw [lmul (by rw [L12]; omega) (by rw [L12]; omega), L12]
  have e12' : (12 * r1).toInt = 12 * r1.toInt := by rw [tmul (by rw [l12]; omega) (by rw [l12]; omega), l12]
  have pr : ∀ f p t : Nat, f < 4 → (p : Int) < (q.1 60 1).toInt → t < kN q → kZ q z a f t = true → Int32.ofNat p ≠ a → ∃ (w : Int32) (m : Int64), TRw u (x + 1) h s r1 f p w ∧ SLm q z (y + 1) a l h (12 * m2) t p m ∧ (0 ≤ w.toInt ∧ w.toInt ≤ BB q (L + 1)) ∧ m.toInt = BB q (L + 1) - w.toInt := fun f p t h1 h2 h3 h4 h5 => BL_pr hI w ha ih (by omega) (by omega) hh' b3 sh hl' R h1 h2 h3 h4 h5 hr1 hm2
  -- the class's: each is worth what is told, or nothing
  have tr : ∀ f p : Nat, f < 4 → (p : Int) < (q.1 60 1).toInt → ∃ w, TRw u (x + 1) h s r1 f p w ∧ (w = 12 * r1 ∨ ∃ t m, CDm q z a t p ∧ SLm q z (y + 1) a l h (12 * m2) t p m ∧ (0 ≤ w.toInt ∧ w.toInt ≤ BB q (L + 1)) ∧ m.toInt = BB q (L + 1) - w.toInt) := fun f p hf hp => by
    obtain ⟨o, o1, o2, o3, o4⟩ := x_thenE hY R (by omega) b3 sh hf hp
    by_cases c : o = 0
    · have X := x_triedE (u := u) (n := x) (h := h) (s := s) (f := f) (p := p) (o := o) (r1 := r1) (r4 := 0) hf (by omega) o1 (fun x => absurd c x)
      rw [if_pos c] at X
      exact ⟨_, X, Or.inl rfl⟩
    · obtain ⟨pa, cn⟩ := o3 c
      obtain ⟨t, ht, k⟩ := cnt_ex cn
      obtain ⟨g, tv, _⟩ := o4 cn pa
      obtain ⟨w, m, g1, g2, g3, g4⟩ := pr f p t hf hp ht k pa
      have kt := kZ_t.mp k
      exact ⟨w, g1, Or.inr ⟨t, m, ⟨ht, hp, kt.1, kt.2.1, fun e => by
        have := kt.2.2
        rw [e] at this
        have l4 : (4 : Int32).toInt = 4 := rfl
        omega, fun e => pa e.symm, tv_c hY tv (by omega) c⟩, g2, g3, g4⟩⟩
  -- the model's: each is one of the class's
  have sl : ∀ t p : Nat, CDm q z a t p → ∃ f w m, f < 4 ∧ TRw u (x + 1) h s r1 f p w ∧ SLm q z (y + 1) a l h (12 * m2) t p m ∧ (0 ≤ w.toInt ∧ w.toInt ≤ BB q (L + 1)) ∧ m.toInt = BB q (L + 1) - w.toInt := fun t p cd => by
    obtain ⟨c1, c2, c3, c4, c5, c6, c7⟩ := cd
    have k12 := RY_k12 hY
    have kn : (kN q : Int) = (q.1 60 6).toInt := by
      have := RY_k0 hY
      unfold kN
      omega
    have rf := RY_rfolds hY t (by omega)
    have n4 : (q.1 67 t).toInt ≠ 4 := fun x => c5 (Int32.toInt_inj.mp x)
    have fi : (((q.1 67 t).toNatClampNeg : Nat) : Int) = (q.1 67 t).toInt := cnI rf.1
    obtain ⟨w, m, g1, g2, g3, g4⟩ := pr (q.1 67 t).toNatClampNeg p t (by omega) c2 c1 (kZ_t.mpr ⟨c3, c4, fi.symm⟩) (fun e => c6 e.symm)
    exact ⟨_, w, m, by omega, g1, g2, g3, g4⟩
  obtain ⟨v, hv, G⟩ := x_bestL (u := u) (n := x + 1) (h := h) (s := s) (r1 := r1) (v0 := 12 * r1) (by rw [eP]; exact P0) (by rw [eP]; exact P6) (fun f p hf hp => by
    rw [eP] at hp
    obtain ⟨w, hw, _⟩ := tr f p hf hp
    exact ⟨w, hw⟩)
  obtain ⟨m, z2, hm, zz2, J⟩ := m_byL hY (n := y + 1) (l := l) (h := h) (a4 := 12 * m2) zz1 (fun t p cd => by
    obtain ⟨f, w, m, _, _, g2, _⟩ := sl t p cd
    exact ⟨m, g2⟩)
  rw [eP] at G
  have uq : ∀ {f p : Nat} {w w' : Int32}, TRw u (x + 1) h s r1 f p w → TRw u (x + 1) h s r1 f p w' → w' = w := fun h1 h2 => by
    unfold TRw at h1 h2
    rw [h1] at h2
    exact (congrArg Prod.fst (Option.some.inj h2)).symm
  have bs := BB_s q L
  have le1 : m.toInt ≤ BB q (L + 1) - v.toInt ∧ 0 ≤ v.toInt ∧ v.toInt ≤ BB q (L + 1) := by
    rcases G.2.2 with e | ⟨f, p, hf, hp, hw⟩
    · have := J.1
      rw [e]
      omega
    · obtain ⟨w', hw', hc⟩ := tr f p hf hp
      have this2 := uq hw hw'
      rcases hc with e | ⟨t, m', cd, s1, s2, s3⟩
      · have := J.1
        rw [show v = 12 * r1 from (show w' = v from this2).symm.trans e]
        omega
      · have j := J.2.1 t p cd trivial m' s1
        rw [show w' = v from this2] at s2 s3
        omega
  have le2 : BB q (L + 1) - v.toInt ≤ m.toInt := by
    rcases J.2.2 with e | ⟨t, p, cd, s1⟩
    · have := G.1
      rw [e]
      omega
    · obtain ⟨f, w', m', hf, g1, g2, g3, g4⟩ := sl t p cd
      have j := G.2.1 f p hf cd.2.1 trivial w' g1
      have em := SLm_u zz1 s1 g2
      rw [em] at g4
      omega
  refine ⟨v, m, z2, ?_, ?_, le1.2, by omega, zz2⟩
  · show fb_X6_best (g_X6_best (x + 1)) u (Int32.ofNat h) (Int32.ofNat s) = _
    unfold fb_X6_best
    rw [u7, if_neg (fun c => by have := Int32.le_iff_toInt_le.mp c; omega), if_pos (Int32.lt_iff_toInt_lt.mpr (by omega)), oa, e1, bind_s]
    exact e_n hv
  · show fb_X12_leftOf (g_X12_leftBy (y + 2)) z a l (Int32.ofNat h) = _
    unfold fb_X12_leftOf
    rw [if_neg (fun e => by rw [e] at hl'; have l0 : (0 : Int32).toInt = 0 := rfl; omega), oa, e2, bind_s, hm, bind_s]
/-! ===== rid ===== -/
theorem part1 (q : SS) {c : Int32} (hc : 0 ≤ c.toInt ∧ c.toInt ≤ 1) : f_X11_partOf q ((1 : Int32).toInt64) ((1 : Int32).toInt64) c = some 1 := by
  obtain ⟨k, hk, rfl⟩ := ofN (a := c) (n := 2) hc.1 (by omega)
  have e : k = 0 ∨ k = 1 := by omega
  rcases e with rfl | rfl
  · rfl
  · rfl
theorem RLt_0 {q r y z : SS} (h : INV q) {a b : Int32} (b3 : b.toInt ≤ 3) (f : MC q y) (hy : INV y) (bg : BG q a b r) (m : NWM y z) : RLt q a b r z 0 := by
  have hY := INV_RY h
  obtain ⟨rx, ⟨c6, c7, c8, c9⟩, c45, c43, tb⟩ := bg
  have P6 := RY_p6 hY
  have y60 := f.1 60 (by decide)
  have y65 := f.1 65 (by decide)
  have kn : (kN q : Int) = (q.1 60 6).toInt := by
    have := RY_k0 hY
    unfold kN
    omega
  have e81 : ∀ t : Nat, t < kN q → z.1 81 t = q.1 65 t := fun t ht => by
    rw [m.2.2.2.2 t, y60, y65, if_pos (by omega)]
  have ek : ∀ j, cntN (kZ q z a j) (kN q) = cntN (kF q a j) (kN q) := fun j => cntN_c (fun t ht => by
    unfold kZ kF
    rw [e81 t ht, Bool.and_assoc])
  refine ⟨⟨⟨fun k h0 h1 h2 h3 h4 => (m.2.1 k h3 h4).trans (f.1 k h0), fun i hi => (m.2.2.1 i hi).trans (by rw [y60]), NWM_I hy m⟩, fun t ht => by rw [e81 t (by omega)]; exact RY_rholder hY t ht⟩, ⟨c6, c7, c9, by rw [RX_k rx (by decide)]; exact RY_p hY⟩, fun i p g j h1 h2 h3 h4 h5 => ?_, fun j hj => ?_, fun t ht hx => by rw [← e81 t ht]; exact hx, fun p hp => ?_, ?_⟩
  · obtain ⟨t, ht, hk⟩ := h5
    exact tb i p g j (by omega) h2 h3 h4 (by rw [(c43 j h4).1]; have := cnt_pos ht hk; omega) h1
  · rw [ek]
    exact (c43 j hj).1
  · refine ⟨0, Nat.le_refl _, c45 p (by omega), fun _ => rfl, fun _ => ?_⟩
    rw [Nat.add_zero]
    exact cntN_c (fun t ht => by
      unfold hZ hB
      rw [e81 t ht])
  · rw [Nat.add_zero]
    exact cntN_c (fun t ht => by
      show (decide (z.1 81 t = a) && decide (q.1 66 t = 0)) = (decide (q.1 65 t = a) && decide (q.1 66 t = 0))
      rw [e81 t ht])
theorem BL_all {q : SS} (hI : INV q) (w : RLW q) {a b : Int32} (ha : 0 ≤ a.toInt ∧ a.toInt < (q.1 60 1).toInt) (b3 : b.toInt ≤ 3) : ∀ L, BL q a b L
  | 0 => BL_0 hI b3
  | L + 1 => BL_s hI w ha b3 (BL_all hI w ha b3 L)
theorem x_most {q r : SS} (hY : RY q) {b : Int32} (hb : 0 ≤ b.toInt ∧ b.toInt ≤ 3) (c7 : r.1 42 7 = b) (c8 : r.1 42 8 = Int32.ofNat (rlN q)) (R0 : 0 < rlN q) : T (f_X6_freeAtMost r) (fun v => v.toInt = BB q b.toInt.toNat) := by
  have r12 := rl12 hY
  have l0 : (0 : Int32).toInt = 0 := rfl
  have l1 : (1 : Int32).toInt = 1 := rfl
  have l12 : (12 : Int32).toInt = 12 := rfl
  have ri : (Int32.ofNat (rlN q)).toInt = (rlN q : Int) := onI (by omega)
  unfold f_X6_freeAtMost
  refine T_nm ?_
  rw [c8, (jmax_E 1 (Int32.ofNat (rlN q))).1 (by omega)]
  unfold b_X6_freeAtMost_11
  refine T_fx2 (fun l1 l2 => ∃ i : Nat, l2 = Int32.ofNat i ∧ (i : Int) ≤ b.toInt ∧ l1.toInt = BB q i) (fun _ l2 => (3 - l2.toInt).toNat) ?_ _ _ _ ⟨0, rfl, by omega, by rw [BB_0, ri]⟩ (by unfold FU; decide)
  rintro rec l1 l2 ⟨i, rfl, hi, e⟩ hr
  have ii : (Int32.ofNat i).toInt = (i : Int) := onI (by omega)
  rw [c7, c8]
  refine T_le (fun c => T_some.mpr ?_) (fun c => T_len (by omega) (T_nm ?_))
  · rw [e, show b.toInt.toNat = i by omega]
  · have i1 : (Int32.ofNat (i + 1)).toInt = ((i + 1 : Nat) : Int) := onI (by omega)
    have B := BB_b hY (L := i) (by omega)
    rw [oa]
    refine hr _ _ ⟨i + 1, rfl, by omega, ?_⟩ (by omega)
    rw [BB_s, tmul (by rw [l12]; omega) (by rw [l12]; omega), l12, e]
    omega
theorem sim_rid {q y : SS} (h : INV q) (w : RLW q) (f : MC q y) (hy : INV y) (a b c : Int32) : T2 (f_X11_rid q a b c) (f_X12_rid y a b c) (fun r s => r.1 = s.1) := by
  have hY := INV_RY h
  have hZ := INV_RY hy
  have l0 : (0 : Int32).toInt = 0 := rfl
  have l3 : (3 : Int32).toInt = 3 := rfl
  have y60 : y.1 60 = q.1 60 := f.1 60 (by decide)
  have rf : T2 (some ((-9223372036854775808 : Int64), q)) (some ((-9223372036854775808 : Int64), y)) (fun r s => r.1 = s.1) := T2_s rfl
  unfold f_X11_rid f_X12_rid
  refine T2_le (x_isPerson q a) (T2_re (m_isOne (RY_p0 hZ) a) ?_)
  rw [RY_p hY, y60]
  by_cases ha : 0 ≤ a.toInt ∧ a.toInt < (q.1 60 1).toInt
  rotate_left
  · exact T2_pl (bI_f ha) (T2_pr (bI_f ha) rf)
  refine T2_ql (by rw [bI_t ha]; decide) (T2_qr (by rw [bI_t ha]; decide) (T2_re (m_in y b 0 3) ?_))
  by_cases hb : (0 : Int32).toInt ≤ b.toInt ∧ b.toInt ≤ (3 : Int32).toInt
  rotate_left
  · refine T2_pr (bI_f hb) ?_
    by_cases b0 : b < 0
    · exact T2_pl b0 rf
    · have b0' := Int32.le_iff_toInt_le.mp (Int32.not_lt.mp b0)
      exact T2_ql b0 (T2_pl (Int32.lt_iff_toInt_lt.mpr (by omega)) rf)
  have hb3 : 0 ≤ b.toInt ∧ b.toInt ≤ 3 := hb
  refine T2_ql (fun x => by have := Int32.lt_iff_toInt_lt.mp x; omega) (T2_ql (fun x => by have := Int32.lt_iff_toInt_lt.mp x; omega) (T2_qr (by rw [bI_t hb]; decide) (T2_le (isPart_x q c) (T2_re (m_in y c 0 1) ?_))))
  by_cases hc : 0 ≤ c.toInt ∧ c.toInt ≤ 1
  rotate_left
  · exact T2_pl (bI_f hc) (T2_pr (bI_f (show ¬ ((0 : Int32).toInt ≤ c.toInt ∧ c.toInt ≤ (1 : Int32).toInt) from hc)) rf)
  refine T2_ql (by rw [bI_t hc]; decide) (T2_qr (by rw [bI_t (show (0 : Int32).toInt ≤ c.toInt ∧ c.toInt ≤ (1 : Int32).toInt from hc)]; decide) (T2_l (x_ridBE hY hb3) (fun r bg => T2_r (m_now hZ) (fun z hm => ?_))))
  have R := RLt_0 h hb3.2 f hy bg hm
  have r12 := rl12 hY
  have k0 := RY_k0 hY
  have k12 := RY_k12 hY
  have z6 : z.1 60 6 = q.1 60 6 := R.1.1.2.1 6 (by decide)
  have z66 : z.1 66 = q.1 66 := R.1.1.1 66 (by decide) (by decide) (by decide) (by decide) (by decide)
  have ri : (Int32.ofNat (rlN q)).toInt = (rlN q : Int) := onI (by omega)
  have em : f_X12_allReal z = some (Int32.ofNat (rlN q)) := by
    rw [m_allReal (by rw [z6]; exact k0) (by rw [z6]; exact k12), z6, z66]
    rfl
  obtain ⟨_, ⟨_, c7, c8, _⟩, _⟩ := bg
  refine T2_re em (T2_nr ?_)
  have L0 : (0 : Int64).toInt = 0 := rfl
  by_cases R0 : rlN q = 0
  · have ef : f_X6_freeAtBest r = some (1, r) := by
      unfold f_X6_freeAtBest
      rw [c8, R0]
      rfl
    have eM : f_X6_freeAtMost r = some 1 := by
      unfold f_X6_freeAtMost b_X6_freeAtMost_11
      rw [c8, R0]
      show (if r.1 42 7 ≤ 0 then some (jmax (1 : Int32) (Int32.ofNat 0)) else (if Int32.ofNat 0 ≤ 0 then some (jmax (1 : Int32) (Int32.ofNat 0)) else _)) = _
      by_cases d : r.1 42 7 ≤ 0
      · rw [if_pos d]
        rfl
      · rw [if_neg d, if_pos (by decide)]
        rfl
    refine T2_le ef (T2_le eM (T2_le (part1 r hc) (T2_pr (lgc_z.mpr (by rw [R0]; rfl)) (T2_s rfl))))
  · have Rn : ¬ (Int32.ofNat (rlN q)).toInt64 = 0 := fun x => by
      have e := i64 (Int32.ofNat (rlN q))
      rw [x, L0, ri] at e
      omega
    obtain ⟨v, m, z', h1, h2, h3, h4, h5⟩ := BL_all h w ha hb3.2 b.toInt.toNat 60 60 r z 0 0 b (by omega) (by omega) (by omega) (Nat.le_refl _) (by omega) R
    have ef : f_X6_freeAtBest r = some (v, r) := by
      unfold f_X6_freeAtBest
      rw [c8, if_neg (fun x => by rw [x, l0] at ri; omega)]
      show (f_X6_best r (Int32.ofNat 0) (Int32.ofNat 0)).bind _ = _
      rw [show f_X6_best r (Int32.ofNat 0) (Int32.ofNat 0) = some (v, r) from h1, bind_s]
    obtain ⟨M, hM, eM⟩ := x_most hY hb3 c7 c8 (by omega)
    refine T2_le ef (T2_le hM (T2_qr (fun x => Rn (lgc_z.mp x)) ?_))
    have loop : T (b_X12_rid_53 z a b c (Int32.ofNat (rlN q)).toInt64 0) (fun s => f_X11_partOf r v.toInt64 M.toInt64 c = some s.1) := by
      unfold b_X12_rid_53
      refine T_fx6 (fun z1 k1 k2 k3 k4 k6 => z1 = z ∧ k1 = a ∧ k2 = b ∧ k3 = c ∧ ∃ i : Nat, k6 = Int32.ofNat i ∧ (i : Int) ≤ b.toInt ∧ k4.toInt = BB q i) (fun _ _ _ _ _ k6 => (3 - k6.toInt).toNat) ?_ _ _ _ _ _ _ _ ⟨rfl, rfl, rfl, rfl, 0, rfl, by omega, by rw [i64, BB_0, ri]⟩ (by unfold FU; decide)
      rintro rec z1 k1 k2 k3 k4 k6 ⟨rfl, rfl, rfl, rfl, i, rfl, hi, e4⟩ hr
      have ii : (Int32.ofNat i).toInt = (i : Int) := onI (by omega)
      refine T_le (fun d => ?_) (fun d => ?_)
      · have ei : k2.toInt.toNat = i := by omega
        rw [ei] at h3 h4 eM
        refine T_rw (show f_X12_leftOf z1 k1 k2 0 = some (m, z') from h2) ?_
        have B : BB q i ≤ 20736 := by
          have c : i = 0 ∨ i = 1 ∨ i = 2 ∨ i = 3 := by omega
          rcases c with rfl | rfl | rfl | rfl
          · rw [BB_0]; omega
          · rw [BB_s, BB_0]; omega
          · rw [BB_s, BB_s, BB_0]; omega
          · rw [BB_s, BB_s, BB_s, BB_0]; omega
        have es : k4 - m = v.toInt64 := Int64.toInt_inj.mp (by
          rw [Int64.toInt_sub, i64, e4, h4]
          have : BB q i - (BB q i - v.toInt) = v.toInt := by omega
          rw [this]
          exact Int.bmod_eq_of_le (by omega) (by omega))
        have e5 : k4 = M.toInt64 := Int64.toInt_inj.mp (by rw [i64, e4, eM])
        rw [es, e5]
        have Bp : 0 < BB q i := by
          have c : i = 0 ∨ i = 1 ∨ i = 2 ∨ i = 3 := by omega
          rcases c with rfl | rfl | rfl | rfl
          · rw [BB_0]; omega
          · rw [BB_s, BB_0]; omega
          · rw [BB_s, BB_s, BB_0]; omega
          · rw [BB_s, BB_s, BB_s, BB_0]; omega
        obtain ⟨p, g1, g2⟩ := low_eq (q := r) (r := z') (a := v.toInt64) (b := M.toInt64) (by rw [i64]; exact h3.1) (by rw [i64, eM]; omega) (fun x => by rw [i64, eM] at x; omega) k3
        refine T_rw g2 (T_some.mpr ?_)
        exact g1
      · have i1 : (Int32.ofNat (i + 1)).toInt = ((i + 1 : Nat) : Int) := onI (by omega)
        have B := BB_b hY (L := i) (by omega)
        have L12 : (12 : Int64).toInt = 12 := rfl
        refine T_nm ?_
        rw [oa]
        refine hr _ _ _ _ _ _ ⟨rfl, rfl, rfl, rfl, i + 1, rfl, by omega, ?_⟩ (by omega)
        rw [BB_s, lmul (by rw [L12]; omega) (by rw [L12]; omega), L12, e4]
        omega
    obtain ⟨s, hs, ep⟩ := loop
    exact ⟨(s.1, r), s, by rw [ep, bind_s], hs, rfl⟩
theorem opq_rid {q : SS} (h : INV q) (w : RLW q) (a b c : Int32) : T (f_X11_rid q a b c) (fun r => T (f_X12_rid r.2 a b c) (fun s => INV s.2 ∧ r.1 = s.1)) := opw_of (g := fun y => f_X12_rid y a b c) (xo_rid h a b c) (kc_f_X11_rid q q a b c (Fr_refl q)) (fun y hy => mo_rid hy a b c) (fun y f hy => sim_rid h w f hy a b c)

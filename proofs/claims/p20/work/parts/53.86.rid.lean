/-! ===== hire ===== -/
theorem P_fx5 {A0 A1 A2 A3 A4 ρ : Type} (Q : Option ρ → Prop) {F : (A0 → A1 → A2 → A3 → A4 → Option ρ) → A0 → A1 → A2 → A3 → A4 → Option ρ} (I : A0 → A1 → A2 → A3 → A4 → Prop) (μ : A0 → A1 → A2 → A3 → A4 → Nat) (h : ∀ rec a0 a1 a2 a3 a4, I a0 a1 a2 a3 a4 → (∀ b0 b1 b2 b3 b4, I b0 b1 b2 b3 b4 → μ b0 b1 b2 b3 b4 < μ a0 a1 a2 a3 a4 → Q (rec b0 b1 b2 b3 b4)) → Q (F rec a0 a1 a2 a3 a4)) : ∀ n a0 a1 a2 a3 a4, I a0 a1 a2 a3 a4 → μ a0 a1 a2 a3 a4 < n → Q (fx5 F n a0 a1 a2 a3 a4)
  | 0, _, _, _, _, _, _, hm => absurd hm (Nat.not_lt_zero _)
  | n + 1, a0, a1, a2, a3, a4, hI, hm => h _ a0 a1 a2 a3 a4 hI (fun b0 b1 b2 b3 b4 hb hl => P_fx5 Q I μ h n b0 b1 b2 b3 b4 hb (by omega))
theorem P_fx6 {A0 A1 A2 A3 A4 A5 ρ : Type} (Q : Option ρ → Prop) {F : (A0 → A1 → A2 → A3 → A4 → A5 → Option ρ) → A0 → A1 → A2 → A3 → A4 → A5 → Option ρ} (I : A0 → A1 → A2 → A3 → A4 → A5 → Prop) (μ : A0 → A1 → A2 → A3 → A4 → A5 → Nat) (h : ∀ rec a0 a1 a2 a3 a4 a5, I a0 a1 a2 a3 a4 a5 → (∀ b0 b1 b2 b3 b4 b5, I b0 b1 b2 b3 b4 b5 → μ b0 b1 b2 b3 b4 b5 < μ a0 a1 a2 a3 a4 a5 → Q (rec b0 b1 b2 b3 b4 b5)) → Q (F rec a0 a1 a2 a3 a4 a5)) : ∀ n a0 a1 a2 a3 a4 a5, I a0 a1 a2 a3 a4 a5 → μ a0 a1 a2 a3 a4 a5 < n → Q (fx6 F n a0 a1 a2 a3 a4 a5)
  | 0, _, _, _, _, _, _, _, hm => absurd hm (Nat.not_lt_zero _)
  | n + 1, a0, a1, a2, a3, a4, a5, hI, hm => h _ a0 a1 a2 a3 a4 a5 hI (fun b0 b1 b2 b3 b4 b5 hb hl => P_fx6 Q I μ h n b0 b1 b2 b3 b4 b5 hb (by omega))
theorem P_fx7 {A0 A1 A2 A3 A4 A5 A6 ρ : Type} (Q : Option ρ → Prop) {F : (A0 → A1 → A2 → A3 → A4 → A5 → A6 → Option ρ) → A0 → A1 → A2 → A3 → A4 → A5 → A6 → Option ρ} (I : A0 → A1 → A2 → A3 → A4 → A5 → A6 → Prop) (μ : A0 → A1 → A2 → A3 → A4 → A5 → A6 → Nat) (h : ∀ rec a0 a1 a2 a3 a4 a5 a6, I a0 a1 a2 a3 a4 a5 a6 → (∀ b0 b1 b2 b3 b4 b5 b6, I b0 b1 b2 b3 b4 b5 b6 → μ b0 b1 b2 b3 b4 b5 b6 < μ a0 a1 a2 a3 a4 a5 a6 → Q (rec b0 b1 b2 b3 b4 b5 b6)) → Q (F rec a0 a1 a2 a3 a4 a5 a6)) : ∀ n a0 a1 a2 a3 a4 a5 a6, I a0 a1 a2 a3 a4 a5 a6 → μ a0 a1 a2 a3 a4 a5 a6 < n → Q (fx7 F n a0 a1 a2 a3 a4 a5 a6)
  | 0, _, _, _, _, _, _, _, _, hm => absurd hm (Nat.not_lt_zero _)
  | n + 1, a0, a1, a2, a3, a4, a5, a6, hI, hm => h _ a0 a1 a2 a3 a4 a5 a6 hI (fun b0 b1 b2 b3 b4 b5 b6 hb hl => P_fx7 Q I μ h n b0 b1 b2 b3 b4 b5 b6 hb (by omega))
theorem e_p {β : Type} {c : Prop} [Decidable c] {x y t : β} (h : c) (k : x = t) : (if c then x else y) = t := by
  rw [if_pos h]
  exact k
theorem e_q {β : Type} {c : Prop} [Decidable c] {x y t : β} (h : ¬ c) (k : y = t) : (if c then x else y) = t := by
  rw [if_neg h]
  exact k
theorem e_v {β : Type} {i : Int32} {n : Nat} {x t : Option β} (h0 : 0 ≤ i.toInt) (h : i.toInt < (n : Int)) (k : x = t) : (if vin i n then x else none) = t := e_p ⟨h0, h⟩ k
theorem e_n {α β : Type} {e : α} {f : α → Option β} {t : Option β} (k : f e = t) : nm e f = t := k
theorem jmin_E (a b : Int32) : (a.toInt ≤ b.toInt → jmin a b = a) ∧ (b.toInt ≤ a.toInt → jmin a b = b) := by
  unfold jmin
  simp only [Int32.lt_iff_toInt_lt]
  constructor <;> intro h <;> split <;> first | rfl | (apply Int32.toInt_inj.mp; omega)
/-- the cheapest, the lowest of these, that still takes -/
def bestH (z : SS) (P : Int) (p : Nat) : Prop := ∀ j : Nat, (j : Int) < P → 0 < (z.1 82 j).toInt → j = p ∨ (z.1 63 p).toInt < (z.1 63 j).toInt ∨ ((z.1 63 p).toInt = (z.1 63 j).toInt ∧ p < j)
theorem m_pass {rec : SS → Int32 → Int32 → Int32 → Int32 → Int32 → Option (Int32 × SS)} {z : SS} {l2 l3 l5 l7 p : Int32} (P6 : (z.1 60 1).toInt ≤ 6) (hp : 0 ≤ p.toInt ∧ p.toInt < (z.1 60 1).toInt) (cp : 0 < (z.1 82 p.toNatClampNeg).toInt) (hb : bestH z (z.1 60 1).toInt p.toNatClampNeg) : b_X12_hire_160 rec z l2 l3 l5 l7 (-2) 0 = rec (sI z 82 p.toNatClampNeg (z.1 82 p.toNatClampNeg - 1)) l2 l3 (l5 + z.1 63 p.toNatClampNeg) p (l7 + 1) := by
  have l0 : (0 : Int32).toInt = 0 := rfl
  have lm2 : (-2 : Int32).toInt = -2 := rfl
  have pn : ((p.toNatClampNeg : Nat) : Int) = p.toInt := by
    show ((p.toInt.toNat : Nat) : Int) = _
    omega
  unfold b_X12_hire_160 b_X12_hire_201 b_X12_hire_205
  refine P_fx7 (fun o => o = rec (sI z 82 p.toNatClampNeg (z.1 82 p.toNatClampNeg - 1)) l2 l3 (l5 + z.1 63 p.toNatClampNeg) p (l7 + 1)) (fun z' m2 m3 m5 m7 l8 l9 => z' = z ∧ m2 = l2 ∧ m3 = l3 ∧ m5 = l5 ∧ m7 = l7 ∧ (0 ≤ l9.toInt ∧ l9.toInt ≤ (z.1 60 1).toInt) ∧ (l8 = -2 ∨ ((0 ≤ l8.toInt ∧ l8.toInt < l9.toInt) ∧ 0 < (z.1 82 l8.toNatClampNeg).toInt)) ∧ (p.toInt < l9.toInt → l8 = p)) (fun _ _ _ _ _ _ l9 => (6 - l9.toInt).toNat) ?_ _ _ _ _ _ _ _ _ ⟨rfl, rfl, rfl, rfl, rfl, ⟨by decide, by rw [l0]; omega⟩, Or.inl rfl, fun x => absurd x (by rw [l0]; omega)⟩ (by unfold FU; decide)
  rintro rf z' m2 m3 m5 m7 l8 l9 ⟨rfl, rfl, rfl, rfl, rfl, ⟨b0, b1⟩, hc, hd⟩ hr
  by_cases c : z'.1 60 1 ≤ l9
  · have c' := Int32.le_iff_toInt_le.mp c
    have e := hd (by omega)
    subst e
    exact e_p c (e_p (Int32.le_iff_toInt_le.mpr hp.1) (e_v hp.1 (by show l8.toInt < 6; omega) (e_v hp.1 (by show l8.toInt < 6; omega) (e_n (e_v hp.1 (by show l8.toInt < 6; omega) (e_n rfl))))))
  · have c' := Int32.lt_iff_toInt_lt.mp (Int32.not_le.mp c)
    have i := inc1 (a := l9) (by omega) (by omega)
    have n9 : ((l9.toNatClampNeg : Nat) : Int) = l9.toInt := by
      show ((l9.toInt.toNat : Nat) : Int) = _
      omega
    have k9 : l9.toInt < ((6 : Nat) : Int) := by show l9.toInt < 6; omega
    refine e_q c (e_v b0 k9 ?_)
    by_cases c0 : z'.1 82 l9.toNatClampNeg ≤ 0
    · have c0' := Int32.le_iff_toInt_le.mp c0
      have ne : p.toInt ≠ l9.toInt := fun x => by
        rw [Int32.toInt_inj.mp x] at cp
        omega
      refine e_p c0 (hr _ _ _ _ _ _ _ ⟨rfl, rfl, rfl, rfl, rfl, ⟨by omega, by omega⟩, ?_, fun x => hd (by omega)⟩ (by omega))
      rcases hc with x | ⟨x, y⟩
      · exact Or.inl x
      · exact Or.inr ⟨⟨x.1, by omega⟩, y⟩
    · have c0' := Int32.lt_iff_toInt_lt.mp (Int32.not_le.mp c0)
      have take : (p.toInt < (l9 + 1).toInt → l9 = p) → rf z' m2 m3 m5 m7 l9 (l9 + 1) = rec (sI z' 82 p.toNatClampNeg (z'.1 82 p.toNatClampNeg - 1)) m2 m3 (m5 + z'.1 63 p.toNatClampNeg) p (m7 + 1) := fun x => hr _ _ _ _ _ _ _ ⟨rfl, rfl, rfl, rfl, rfl, ⟨by omega, by omega⟩, Or.inr ⟨⟨b0, by omega⟩, by omega⟩, x⟩ (by omega)
      refine e_q c0 ?_
      by_cases c8 : l8 < 0
      · have c8' := Int32.lt_iff_toInt_lt.mp c8
        refine e_p c8 (take (fun x => ?_))
        apply Int32.toInt_inj.mp
        by_cases y : p.toInt < l9.toInt
        · have := hd y
          rw [this] at c8'
          omega
        · omega
      · have c8' := Int32.le_iff_toInt_le.mp (Int32.not_lt.mp c8)
        rcases hc with x | ⟨⟨x0, x1⟩, y⟩
        · rw [x] at c8'
          omega
        have n8 : ((l8.toNatClampNeg : Nat) : Int) = l8.toInt := by
          show ((l8.toInt.toNat : Nat) : Int) = _
          omega
        refine e_q c8 (e_v b0 k9 (e_v x0 (by show l8.toInt < 6; omega) ?_))
        have b8 := hb l8.toNatClampNeg (by omega) y
        have b9 := hb l9.toNatClampNeg (by omega) (by omega)
        by_cases cc : z'.1 63 l8.toNatClampNeg ≤ z'.1 63 l9.toNatClampNeg
        · have cc' := Int32.le_iff_toInt_le.mp cc
          refine e_p cc (hr _ _ _ _ _ _ _ ⟨rfl, rfl, rfl, rfl, rfl, ⟨by omega, by omega⟩, Or.inr ⟨⟨x0, by omega⟩, y⟩, fun u => ?_⟩ (by omega))
          by_cases v : p.toInt < l9.toInt
          · exact hd v
          · have v' : p = l9 := Int32.toInt_inj.mp (by omega)
            rw [v'] at b8
            rcases b8 with w | w | w <;> omega
        · have cc' := Int32.lt_iff_toInt_lt.mp (Int32.not_le.mp cc)
          refine e_q cc (take (fun u => ?_))
          by_cases v : p.toInt < l9.toInt
          · have v' := hd v
            rw [v'] at cc'
            rcases b9 with w | w | w <;> omega
          · exact Int32.toInt_inj.mp (by omega)
theorem m_none {rec : SS → Int32 → Int32 → Int32 → Int32 → Int32 → Option (Int32 × SS)} {z : SS} {l2 l3 l5 l7 : Int32} (P0 : 0 ≤ (z.1 60 1).toInt) (P6 : (z.1 60 1).toInt ≤ 6) (hb : ∀ j : Nat, (j : Int) < (z.1 60 1).toInt → (z.1 82 j).toInt ≤ 0) : b_X12_hire_160 rec z l2 l3 l5 l7 (-2) 0 = some (-2, z) := by
  have l0 : (0 : Int32).toInt = 0 := rfl
  unfold b_X12_hire_160 b_X12_hire_201 b_X12_hire_205
  refine P_fx7 (fun o => o = some (-2, z)) (fun z' _ _ _ _ l8 l9 => z' = z ∧ l8 = -2 ∧ (0 ≤ l9.toInt ∧ l9.toInt ≤ (z.1 60 1).toInt)) (fun _ _ _ _ _ _ l9 => (6 - l9.toInt).toNat) ?_ _ _ _ _ _ _ _ _ ⟨rfl, rfl, ⟨by decide, by rw [l0]; omega⟩⟩ (by unfold FU; decide)
  rintro rf z' m2 m3 m5 m7 l8 l9 ⟨rfl, rfl, ⟨b0, b1⟩⟩ hr
  by_cases c : z'.1 60 1 ≤ l9
  · exact e_p c (e_q (by decide) rfl)
  · have c' := Int32.lt_iff_toInt_lt.mp (Int32.not_le.mp c)
    have i := inc1 (a := l9) (by omega) (by omega)
    have h9 := hb l9.toNatClampNeg (by show ((l9.toInt.toNat : Nat) : Int) < _; omega)
    exact e_q c (e_v b0 (by show l9.toInt < 6; omega) (e_p (Int32.le_iff_toInt_le.mpr (by omega)) (hr _ _ _ _ _ _ _ ⟨rfl, rfl, by omega, by omega⟩ (by omega))))
/-- the model's payments, one after another -/
def mH : (SS → Int32 → Int32 → Int32 → Int32 → Int32 → Option (Int32 × SS)) → SS → Int32 → Int32 → Int32 → Int32 → Int32 → Option (Int32 × SS) := fun rec_147 q l2 l3 l5 l6 l7 => if l2 ≤ l7 then (if l3 = 0 then (some (l5, q)) else (some (l6, q))) else (b_X12_hire_160 rec_147 q l2 l3 l5 l7 (-2 : Int32) (0 : Int32))
theorem mH_147 (z : SS) (l2 l3 l5 l6 l7 : Int32) : b_X12_hire_147 z l2 l3 l5 l6 l7 = fx6 mH FU z l2 l3 l5 l6 l7 := rfl
theorem m_takes {l2 l3 : Int32} {s : Int32 × SS} (h2 : l2.toInt ≤ 12) : ∀ (k n : Nat) (z : SS) (l5 l6 l7 p : Int32), (z.1 60 1).toInt ≤ 6 → (0 ≤ p.toInt ∧ p.toInt < (z.1 60 1).toInt) → bestH z (z.1 60 1).toInt p.toNatClampNeg → (k : Int) ≤ (z.1 82 p.toNatClampNeg).toInt → (z.1 82 p.toNatClampNeg).toInt ≤ 9 → 0 ≤ l7.toInt → l7.toInt + k ≤ l2.toInt → k < n → fx6 mH n z l2 l3 l5 l6 l7 = some s → ∃ (z' : SS) (l7' : Int32), fx6 mH (n - k) z' l2 l3 (l5 + Int32.ofNat k * z.1 63 p.toNatClampNeg) (if k = 0 then l6 else p) l7' = some s ∧ l7'.toInt = l7.toInt + k ∧ z'.1 60 = z.1 60 ∧ z'.1 63 = z.1 63 ∧ (∀ j, j ≠ p.toNatClampNeg → z'.1 82 j = z.1 82 j) ∧ (z'.1 82 p.toNatClampNeg).toInt = (z.1 82 p.toNatClampNeg).toInt - k
  | 0, n, z, l5, l6, l7, p, P6, hp, hb, h1, h9, h7, h72, hn, hs => ⟨z, l7, by rw [show Int32.ofNat 0 = 0 from rfl, Int32.zero_mul, Int32.add_zero, if_pos rfl]; exact hs, by omega, rfl, rfl, fun _ _ => rfl, by omega⟩
  | k + 1, 0, _, _, _, _, _, _, _, _, _, _, _, _, hn, _ => absurd hn (Nat.not_lt_zero _)
  | k + 1, n + 1, z, l5, l6, l7, p, P6, hp, hb, h1, h9, h7, h72, hn, hs => by
    have l1 : (1 : Int32).toInt = 1 := rfl
    have e : fx6 mH n (sI z 82 p.toNatClampNeg (z.1 82 p.toNatClampNeg - 1)) l2 l3 (l5 + z.1 63 p.toNatClampNeg) p (l7 + 1) = some s := by
      rw [← hs]
      show _ = (if l2 ≤ l7 then (if l3 = 0 then (some (l5, z)) else (some (l6, z))) else b_X12_hire_160 (fx6 mH n) z l2 l3 l5 l7 (-2) 0)
      rw [if_neg (fun x => by have := Int32.le_iff_toInt_le.mp x; omega), m_pass P6 hp (by omega) hb]
    have i := inc1 (a := l7) (by omega) (by omega)
    have d : (z.1 82 p.toNatClampNeg - 1).toInt = (z.1 82 p.toNatClampNeg).toInt - 1 := dec1 (by omega)
    have r82 : (sI z 82 p.toNatClampNeg (z.1 82 p.toNatClampNeg - 1)).1 82 p.toNatClampNeg = z.1 82 p.toNatClampNeg - 1 := by
      rw [sI_rd, if_pos ⟨rfl, rfl⟩]
    have o82 : ∀ j, j ≠ p.toNatClampNeg → (sI z 82 p.toNatClampNeg (z.1 82 p.toNatClampNeg - 1)).1 82 j = z.1 82 j := fun j hj => by
      rw [sI_rd, if_neg (fun x => hj x.2)]
    have r60 : (sI z 82 p.toNatClampNeg (z.1 82 p.toNatClampNeg - 1)).1 60 = z.1 60 := sI_ro (by decide)
    have r63 : (sI z 82 p.toNatClampNeg (z.1 82 p.toNatClampNeg - 1)).1 63 = z.1 63 := sI_ro (by decide)
    have hb2 : bestH (sI z 82 p.toNatClampNeg (z.1 82 p.toNatClampNeg - 1)) (z.1 60 1).toInt p.toNatClampNeg := fun j hj hc => by
      by_cases c : j = p.toNatClampNeg
      · exact Or.inl c
      · rw [o82 j c] at hc
        rw [r63]
        exact hb j hj hc
    obtain ⟨z', l7', g1, g2, g3, g4, g5, g6⟩ := m_takes h2 k n (sI z 82 p.toNatClampNeg (z.1 82 p.toNatClampNeg - 1)) (l5 + z.1 63 p.toNatClampNeg) p (l7 + 1) p (by rw [r60]; exact P6) (by rw [r60]; exact hp) (by rw [r60]; exact hb2) (by rw [r82, d]; omega) (by rw [r82, d]; omega) (by omega) (by omega) (by omega) e
    refine ⟨z', l7', ?_, by omega, g3.trans r60, g4.trans r63, fun j hj => (g5 j hj).trans (o82 j hj), by rw [g6, r82, d]; omega⟩
    rw [show n + 1 - (k + 1) = n - k by omega, if_neg (by omega), ← oa, Int32.add_mul, Int32.one_mul, Int32.add_comm (Int32.ofNat k * z.1 63 p.toNatClampNeg), ← Int32.add_assoc]
    rw [r63] at g1
    rw [← g1]
    by_cases k0 : k = 0
    · rw [if_pos k0]
    · rw [if_neg k0]
/-- what a person takes at the price told -/
def tkH (q : SS) (a : Int32) (i : Nat) : Int32 := if (i : Int) = a.toInt ∨ q.1 62 i = 1 then 0 else q.1 64 i
theorem x_takesE {q r : SS} (hY : RY q) (h1 : r.1 1 1 = q.1 60 1) (h4 : r.1 4 = q.1 62) (h5 : r.1 5 = q.1 5) (h6 : r.1 6 = q.1 64) {a p L : Int32} (ha : 0 ≤ a.toInt) (hp : 0 ≤ p.toInt ∧ p.toInt < (q.1 60 1).toInt) : f_X11_takesFor r a p L = some (if q.1 63 p.toNatClampNeg = L then tkH q a p.toNatClampNeg else 0) := by
  have p6 : (r.1 1 1).toInt ≤ 6 := by rw [h1]; exact RY_p6 hY
  have pn : ((p.toNatClampNeg : Nat) : Int) = p.toInt := by
    show ((p.toInt.toNat : Nat) : Int) = _
    omega
  have rp := RY_price hY p.toNatClampNeg (by omega)
  have rc := RY_rchild hY p.toNatClampNeg (by omega)
  have g1 := x_get1 p6 p
  have g2 := x_get2 p6 p
  have g3 := x_get3 p6 p
  rw [if_pos (by rw [h1]; exact hp), h4] at g1
  rw [if_pos (by rw [h1]; exact hp), h5, rp] at g2
  rw [if_pos (by rw [h1]; exact hp), h6] at g3
  unfold f_X11_takesFor b_X11_takesFor_34 b_X11_takesFor_35 tkH
  by_cases c : p = a
  · rw [if_pos c, if_pos rfl, if_pos (Or.inl (by rw [pn, c]))]
    split <;> rfl
  · have c' : p.toInt ≠ a.toInt := fun x => c (Int32.toInt_inj.mp x)
    rw [if_neg c, g1, bind_s]
    by_cases d : q.1 62 p.toNatClampNeg = 0
    · have nd : ¬ (((p.toNatClampNeg : Nat) : Int) = a.toInt ∨ q.1 62 p.toNatClampNeg = 1) := fun x => by
        rcases x with x | x
        · omega
        · rw [d] at x
          exact absurd x (by decide)
      rw [if_pos d, g2, bind_s, if_neg nd]
      by_cases e : q.1 63 p.toNatClampNeg = L
      · rw [if_pos e, if_pos e, if_neg (by decide), g3, bind_s]
      · rw [if_neg e, if_neg e, if_pos rfl]
    · have d1 : q.1 62 p.toNatClampNeg = 1 := Int32.toInt_inj.mp (by
        have : (q.1 62 p.toNatClampNeg).toInt ≠ 0 := fun x => d (Int32.toInt_inj.mp x)
        show _ = (1 : Int)
        omega)
      rw [if_neg d, if_pos rfl, if_pos (Or.inr d1)]
      split <;> rfl
/-- the class at a price and a person, the model after as many payments -/
def HSt (q : SS) (a l2 l3 : Int32) (s : Int32 × SS) (L pn : Int) (l4 l5 l6 : Int32) : Prop := (l4 = 0 ∧ s.1 = if l3 = 0 then l5 else l6) ∨ (0 < l4.toInt ∧ ∃ (n : Nat) (z : SS) (l7 : Int32), fx6 mH n z l2 l3 l5 l6 l7 = some s ∧ l7.toInt = l2.toInt - l4.toInt ∧ l4.toInt < (n : Int) ∧ z.1 60 = q.1 60 ∧ z.1 63 = q.1 63 ∧ ∀ j : Nat, (j : Int) < (q.1 60 1).toInt → z.1 82 j = if (q.1 63 j).toInt < L ∨ ((q.1 63 j).toInt = L ∧ (j : Int) < pn) then 0 else tkH q a j)
theorem m_fin {l2 l3 l5 l6 l7 : Int32} {s : Int32 × SS} {n : Nat} {z : SS} (hn : 0 < n) (e : fx6 mH n z l2 l3 l5 l6 l7 = some s) (h : l2.toInt ≤ l7.toInt) : s.1 = if l3 = 0 then l5 else l6 := by
  obtain ⟨m, rfl⟩ : ∃ m, n = m + 1 := ⟨n - 1, by omega⟩
  have x : (if l2 ≤ l7 then (if l3 = 0 then (some (l5, z)) else (some (l6, z))) else b_X12_hire_160 (fx6 mH m) z l2 l3 l5 l7 (-2) 0) = some s := e
  rw [if_pos (Int32.le_iff_toInt_le.mpr h)] at x
  by_cases c : l3 = 0
  · rw [if_pos c] at x
    rw [if_pos c, ← Option.some.inj x]
  · rw [if_neg c] at x
    rw [if_neg c, ← Option.some.inj x]
theorem tkH_b {q : SS} (hY : RY q) {a : Int32} {i : Nat} (hi : (i : Int) < (q.1 60 1).toInt) : 0 ≤ (tkH q a i).toInt ∧ (tkH q a i).toInt ≤ 9 := by
  unfold tkH
  split
  · exact ⟨by decide, by decide⟩
  · exact RY_rtakes hY i hi
theorem HSt_next {q : SS} (hY : RY q) {a l2 l3 l4 l5 l6 : Int32} {s : Int32 × SS} {L : Int} {m : Int} (hm : (q.1 60 1).toInt ≤ m) (h : HSt q a l2 l3 s L m l4 l5 l6) : HSt q a l2 l3 s (L + 1) 0 l4 l5 l6 := by
  rcases h with h | ⟨h1, n, z, l7, h2, h3, h4, h5, h6, h7⟩
  · exact Or.inl h
  · refine Or.inr ⟨h1, n, z, l7, h2, h3, h4, h5, h6, fun j hj => ?_⟩
    rw [h7 j hj]
    by_cases c : (q.1 63 j).toInt < L ∨ ((q.1 63 j).toInt = L ∧ (j : Int) < m)
    · rw [if_pos c, if_pos (Or.inl (by omega))]
    · rw [if_neg c, if_neg (by omega)]
theorem HSt_end {q : SS} (hY : RY q) {a l2 l3 l4 l5 l6 : Int32} {s : Int32 × SS} {L m : Int} (hL : 99 < L) (h : HSt q a l2 l3 s L m l4 l5 l6) (h4 : 0 < l4.toInt) (h12 : l4.toInt ≤ l2.toInt) : s.1 = -2 := by
  have l0 : (0 : Int32).toInt = 0 := rfl
  rcases h with h | ⟨_, n, z, l7, h2, h3, hn, h5, h6, h7⟩
  · rw [h.1] at h4
    omega
  · obtain ⟨m, rfl⟩ : ∃ m, n = m + 1 := ⟨n - 1, by omega⟩
    have x : (if l2 ≤ l7 then (if l3 = 0 then (some (l5, z)) else (some (l6, z))) else b_X12_hire_160 (fx6 mH m) z l2 l3 l5 l7 (-2) 0) = some s := h2
    rw [if_neg (fun y => by have := Int32.le_iff_toInt_le.mp y; omega), m_none (by rw [h5]; exact RY_p0 hY) (by rw [h5]; exact RY_p6 hY) (fun j hj => by
      rw [h5] at hj
      rw [h7 j hj, if_pos (Or.inl (by have := (RY_rprice hY j hj).2; omega))]
      decide)] at x
    rw [← Option.some.inj x]
theorem HSt_skip {q : SS} {a l2 l3 l4 l5 l6 p L' : Int32} {s : Int32 × SS} (hp : 0 ≤ p.toInt ∧ p.toInt < (q.1 60 1).toInt) (h : HSt q a l2 l3 s L'.toInt p.toInt l4 l5 l6) (hv : (if q.1 63 p.toNatClampNeg = L' then tkH q a p.toNatClampNeg else 0) = 0) : HSt q a l2 l3 s L'.toInt (p.toInt + 1) l4 l5 l6 := by
  rcases h with h | ⟨h1, n, z, l7, h2, h3, h4, h5, h6, h7⟩
  · exact Or.inl h
  · refine Or.inr ⟨h1, n, z, l7, h2, h3, h4, h5, h6, fun j hj => ?_⟩
    rw [h7 j hj]
    by_cases c : (q.1 63 j).toInt < L'.toInt ∨ ((q.1 63 j).toInt = L'.toInt ∧ (j : Int) < p.toInt)
    · rw [if_pos c, if_pos (by omega)]
    · rw [if_neg c]
      by_cases d : (q.1 63 j).toInt = L'.toInt ∧ (j : Int) = p.toInt
      · have ej : j = p.toNatClampNeg := by
          show j = p.toInt.toNat
          omega
        rw [if_pos (Or.inr ⟨d.1, by omega⟩)]
        rw [← ej, if_pos (Int32.toInt_inj.mp d.1)] at hv
        exact hv
      · rw [if_neg (fun x => by
          rcases x with x | x
          · exact c (Or.inl x)
          · exact d ⟨x.1, by
              by_cases y : (j : Int) < p.toInt
              · exact absurd (Or.inr ⟨x.1, y⟩) c
              · omega⟩)]
theorem HSt_take {q : SS} (hY : RY q) {a l2 l3 l4 l5 l6 p L' v : Int32} {s : Int32 × SS} (h12 : l2.toInt ≤ 12) (h42 : l4.toInt ≤ l2.toInt) (h4 : 0 < l4.toInt) (hp : 0 ≤ p.toInt ∧ p.toInt < (q.1 60 1).toInt) (h : HSt q a l2 l3 s L'.toInt p.toInt l4 l5 l6) (eL : q.1 63 p.toNatClampNeg = L') (ev : tkH q a p.toNatClampNeg = v) (hv : 0 < v.toInt) : HSt q a l2 l3 s L'.toInt (p.toInt + 1) (l4 - jmin l4 v) (l5 + jmin l4 v * L') p := by
  have l0 : (0 : Int32).toInt = 0 := rfl
  have pn : ((p.toNatClampNeg : Nat) : Int) = p.toInt := by
    show ((p.toInt.toNat : Nat) : Int) = _
    omega
  rcases h with h | ⟨_, n, z, l7, h2, h3, hn, h5, h6, h7⟩
  · rw [h.1] at h4
    omega
  have v9 := tkH_b hY (a := a) (i := p.toNatClampNeg) (by omega)
  rw [ev] at v9
  have z82 : z.1 82 p.toNatClampNeg = v := by
    rw [h7 _ (by omega), if_neg (by rw [eL]; omega), ev]
  have hb : bestH z (z.1 60 1).toInt p.toNatClampNeg := fun j hj hc => by
    rw [h5] at hj
    rw [h6, eL]
    rw [h7 j hj] at hc
    by_cases c : (q.1 63 j).toInt < L'.toInt ∨ ((q.1 63 j).toInt = L'.toInt ∧ (j : Int) < p.toInt)
    · rw [if_pos c, l0] at hc
      omega
    · omega
  have jm := jmin_E l4 v
  obtain ⟨k, ek, k1, k2, k3⟩ : ∃ k : Nat, jmin l4 v = Int32.ofNat k ∧ 0 < k ∧ (k : Int) ≤ l4.toInt ∧ (k : Int) ≤ v.toInt ∧ ((k : Int) = l4.toInt ∨ (k : Int) = v.toInt) := by
    by_cases c : l4.toInt ≤ v.toInt
    · obtain ⟨k, hk, e⟩ := ofN (a := l4) (n := 13) (by omega) (by omega)
      have ei : l4.toInt = (k : Int) := by rw [e]; exact onI (by omega)
      exact ⟨k, (jm.1 c).trans e, by omega, by omega, by omega, by omega⟩
    · obtain ⟨k, hk, e⟩ := ofN (a := v) (n := 13) (by omega) (by omega)
      have ei : v.toInt = (k : Int) := by rw [e]; exact onI (by omega)
      exact ⟨k, (jm.2 (by omega)).trans e, by omega, by omega, by omega, by omega⟩
  have ki : (Int32.ofNat k).toInt = (k : Int) := onI (by omega)
  have s4 : (l4 - Int32.ofNat k).toInt = l4.toInt - k := by rw [tsub (by omega) (by omega), ki]
  obtain ⟨z', l7', g1, g2, g3, g4, g5, g6⟩ := m_takes h12 k n z l5 l6 l7 p (by rw [h5]; exact RY_p6 hY) (by rw [h5]; exact hp) hb (by rw [z82]; omega) (by rw [z82]; omega) (by omega) (by omega) (by omega) h2
  rw [h6, eL, if_neg (by omega)] at g1
  rw [ek]
  by_cases c : (k : Int) = l4.toInt
  · refine Or.inl ⟨Int32.toInt_inj.mp (by rw [s4, l0]; omega), m_fin (by omega) g1 (by omega)⟩
  · refine Or.inr ⟨by omega, n - k, z', l7', g1, by omega, by omega, g3.trans h5, g4.trans h6, fun j hj => ?_⟩
    by_cases d : j = p.toNatClampNeg
    · rw [d, eL, if_pos (Or.inr ⟨rfl, by omega⟩)]
      exact Int32.toInt_inj.mp (by rw [g6, z82, l0]; omega)
    · have d' : (j : Int) ≠ p.toInt := fun x => d (by show j = p.toInt.toNat; omega)
      rw [g5 j d, h7 j hj]
      by_cases e : (q.1 63 j).toInt < L'.toInt ∨ ((q.1 63 j).toInt = L'.toInt ∧ (j : Int) < p.toInt)
      · rw [if_pos e, if_pos (by omega)]
      · rw [if_neg e, if_neg (by omega)]
/-! ===== hire: the calls ===== -/
theorem q_p {β : Type} (Q : β → Prop) {c : Prop} [Decidable c] {x y : β} (h : c) (k : Q x) : Q (if c then x else y) := by
  rw [if_pos h]
  exact k
theorem q_q {β : Type} (Q : β → Prop) {c : Prop} [Decidable c] {x y : β} (h : ¬ c) (k : Q y) : Q (if c then x else y) := by
  rw [if_neg h]
  exact k
theorem q_v {β : Type} (Q : Option β → Prop) {i : Int32} {n : Nat} {x : Option β} (h0 : 0 ≤ i.toInt) (h : i.toInt < (n : Int)) (k : Q x) : Q (if vin i n then x else none) := q_p Q ⟨h0, h⟩ k
theorem q_n {α β : Type} (Q : Option β → Prop) {e : α} {f : α → Option β} (k : Q (f e)) : Q (nm e f) := k
/-- the model has noted what each takes -/
def QC (y : SS) (a l2 l3 : Int32) (o : Option (Int32 × SS)) : Prop := ∃ z : SS, o = b_X12_hire_147 z l2 l3 0 (-2) 0 ∧ z.1 60 = y.1 60 ∧ z.1 63 = y.1 63 ∧ ∀ j : Nat, (j : Int) < (y.1 60 1).toInt → z.1 82 j = tkH y a j
theorem m_caps {y : SS} (hY : RY y) {a l2 l3 : Int32} : QC y a l2 l3 (b_X12_hire_87 y a l2 l3 0) := by
  have l0 : (0 : Int32).toInt = 0 := rfl
  have P0 := RY_p0 hY
  have P6 := RY_p6 hY
  unfold b_X12_hire_87 b_X12_hire_119 b_X12_hire_130
  refine P_fx5 (QC y a l2 l3) (fun z m1 m2 m3 m5 => m1 = a ∧ m2 = l2 ∧ m3 = l3 ∧ (0 ≤ m5.toInt ∧ m5.toInt ≤ (y.1 60 1).toInt) ∧ z.1 60 = y.1 60 ∧ z.1 62 = y.1 62 ∧ z.1 63 = y.1 63 ∧ z.1 64 = y.1 64 ∧ ∀ j : Nat, (j : Int) < m5.toInt → z.1 82 j = tkH y a j) (fun _ _ _ _ m5 => (6 - m5.toInt).toNat) ?_ _ _ _ _ _ _ ⟨rfl, rfl, rfl, ⟨by decide, by rw [l0]; omega⟩, rfl, rfl, rfl, rfl, fun j hj => by rw [l0] at hj; omega⟩ (by unfold FU; decide)
  rintro rf z m1 m2 m3 m5 ⟨rfl, rfl, rfl, ⟨b0, b1⟩, z60, z62, z63, z64, hj⟩ hr
  by_cases c : z.1 60 1 ≤ m5
  · have c' := Int32.le_iff_toInt_le.mp c
    rw [z60] at c'
    exact q_p (QC y m1 m2 m3) c ⟨z, rfl, z60, z63, fun j h => hj j (by omega)⟩
  · have c' := Int32.lt_iff_toInt_lt.mp (Int32.not_le.mp c)
    rw [z60] at c'
    have i := inc1 (a := m5) (by omega) (by omega)
    have n5 : ((m5.toNatClampNeg : Nat) : Int) = m5.toInt := by
      show ((m5.toInt.toNat : Nat) : Int) = _
      omega
    have v5 : m5.toInt < ((6 : Nat) : Int) := by show m5.toInt < 6; omega
    have go : ∀ v : Int32, v = tkH y m1 m5.toNatClampNeg → QC y m1 m2 m3 (rf (sI z 82 m5.toNatClampNeg v) m1 m2 m3 (m5 + 1)) := fun v hv => hr _ _ _ _ _ ⟨rfl, rfl, rfl, ⟨by omega, by omega⟩, (sI_ro (by decide)).trans z60, (sI_ro (by decide)).trans z62, (sI_ro (by decide)).trans z63, (sI_ro (by decide)).trans z64, fun j h => by
      rw [sI_rd]
      by_cases e : j = m5.toNatClampNeg
      · rw [if_pos ⟨rfl, e⟩, hv, e]
      · rw [if_neg (fun x => e x.2)]
        exact hj j (by omega)⟩ (by omega)
    refine q_q (QC y m1 m2 m3) c ?_
    by_cases e : m5 = m1
    · refine q_p (QC y m1 m2 m3) e (q_v (QC y m1 m2 m3) b0 v5 (q_n (QC y m1 m2 m3) (go 0 ?_)))
      unfold tkH
      rw [if_pos (Or.inl (by rw [n5, e]))]
    · have e' : m5.toInt ≠ m1.toInt := fun x => e (Int32.toInt_inj.mp x)
      refine q_q (QC y m1 m2 m3) e (q_v (QC y m1 m2 m3) b0 v5 ?_)
      by_cases d : z.1 62 m5.toNatClampNeg = 1
      · refine q_p (QC y m1 m2 m3) d (q_v (QC y m1 m2 m3) b0 v5 (q_n (QC y m1 m2 m3) (go 0 ?_)))
        unfold tkH
        rw [if_pos (Or.inr (by rw [← z62]; exact d))]
      · refine q_q (QC y m1 m2 m3) d (q_v (QC y m1 m2 m3) b0 v5 (q_v (QC y m1 m2 m3) b0 v5 (q_n (QC y m1 m2 m3) (go _ ?_))))
        unfold tkH
        rw [if_neg (fun x => by
          rcases x with x | x
          · omega
          · rw [← z62] at x
            exact d x), z64]
/-- the loose tickets of a person -/
def looH (y : SS) (a : Int32) (t : Nat) : Bool := decide (y.1 65 t = a) && decide ((y.1 67 t).toInt < 4)
theorem m_lcnt {y : SS} (hY : RY y) {a l2 l3 : Int32} : b_X12_hire_35 y a l2 l3 0 0 = (if l2 ≤ Int32.ofNat (cntN (looH y a) (y.1 60 6).toInt.toNat) then b_X12_hire_87 y a l2 l3 0 else some (-2, y)) := by
  have k0 := RY_k0 hY
  have k12 := RY_k12 hY
  unfold b_X12_hire_35
  refine P_fx6 (fun o => o = (if l2 ≤ Int32.ofNat (cntN (looH y a) (y.1 60 6).toInt.toNat) then b_X12_hire_87 y a l2 l3 0 else some (-2, y))) (fun z m1 m2 m3 m4 m5 => z = y ∧ m1 = a ∧ m2 = l2 ∧ m3 = l3 ∧ ∃ i : Nat, m5 = Int32.ofNat i ∧ (i : Int) ≤ (y.1 60 6).toInt ∧ m4 = Int32.ofNat (cntN (looH y a) i)) (fun _ _ _ _ _ m5 => (12 - m5.toInt).toNat) ?_ _ _ _ _ _ _ _ ⟨rfl, rfl, rfl, rfl, 0, rfl, by omega, rfl⟩ (by unfold FU; decide)
  rintro rf z m1 m2 m3 m4 m5 ⟨rfl, rfl, rfl, rfl, i, rfl, hi, rfl⟩ hr
  have ei : (Int32.ofNat i).toInt = (i : Int) := onI (by omega)
  have ci : (Int32.ofNat i).toNatClampNeg = i := onC (by omega)
  by_cases c : z.1 60 6 ≤ Int32.ofNat i
  · have c' := Int32.le_iff_toInt_le.mp c
    rw [show (z.1 60 6).toInt.toNat = i by omega]
    exact e_p c rfl
  · have c' := Int32.lt_iff_toInt_lt.mp (Int32.not_le.mp c)
    have e2 : (Int32.ofNat (i + 1)).toInt = ((i + 1 : Nat) : Int) := onI (by omega)
    have v5 : (Int32.ofNat i).toInt < ((12 : Nat) : Int) := by rw [ei]; show (i : Int) < 12; omega
    have v0 : 0 ≤ (Int32.ofNat i).toInt := by omega
    have rf4 := RY_rfolds hY i (by omega)
    unfold b_X12_hire_69
    have no : looH z m1 i = false → rf z m1 m2 m3 (Int32.ofNat (cntN (looH z m1) i)) (Int32.ofNat i + 1) = (if m2 ≤ Int32.ofNat (cntN (looH z m1) (z.1 60 6).toInt.toNat) then b_X12_hire_87 z m1 m2 m3 0 else some (-2, z)) := fun x => by
      rw [cnt0 x, oa]
      exact hr _ _ _ _ _ _ ⟨rfl, rfl, rfl, rfl, i + 1, rfl, by omega, rfl⟩ (by omega)
    have up : looH z m1 i = true → rf z m1 m2 m3 (Int32.ofNat (cntN (looH z m1) i) + 1) (Int32.ofNat i + 1) = (if m2 ≤ Int32.ofNat (cntN (looH z m1) (z.1 60 6).toInt.toNat) then b_X12_hire_87 z m1 m2 m3 0 else some (-2, z)) := fun x => by
      rw [cnt1 x, oa]
      exact hr _ _ _ _ _ _ ⟨rfl, rfl, rfl, rfl, i + 1, rfl, by omega, rfl⟩ (by omega)
    refine e_q c (e_v v0 v5 ?_)
    rw [ci]
    by_cases d : z.1 65 i = m1
    · refine e_p d (e_v v0 v5 ?_)
      by_cases e : z.1 67 i = 4
      · refine e_p e (no ?_)
        unfold looH
        rw [e]
        simp
      · have e' : (z.1 67 i).toInt ≠ 4 := fun x => e (Int32.toInt_inj.mp x)
        refine e_q e (up ?_)
        unfold looH
        simp only [d, decide_true, Bool.true_and, decide_eq_true_eq]
        omega
    · refine e_q d (no ?_)
      unfold looH
      simp [d]
theorem m_hireG {y : SS} (hY : RY y) {a b c : Int32} (ha : 0 ≤ a.toInt ∧ a.toInt < (y.1 60 1).toInt) (hb : 0 ≤ b.toInt ∧ b.toInt ≤ 12) (hc : 0 ≤ c.toInt ∧ c.toInt ≤ 1) : ∃ z : SS, (z.1 60 = y.1 60 ∧ z.1 63 = y.1 63 ∧ ∀ j : Nat, (j : Int) < (y.1 60 1).toInt → z.1 82 j = tkH y a j) ∧ f_X12_hire y a b c = (if b ≤ Int32.ofNat (cntN (looH y a) (y.1 60 6).toInt.toNat) then fx6 mH FU z b c 0 (-2) 0 else some (-2, y)) := by
  obtain ⟨z, e, h1, h2, h3⟩ := m_caps hY (a := a) (l2 := b) (l3 := c)
  refine ⟨z, ⟨h1, h2, h3⟩, ?_⟩
  unfold f_X12_hire
  rw [m_isOne (RY_p0 hY) a, bind_s, if_neg (by rw [bI_t ha]; decide), m_in, bind_s, if_neg (by rw [bI_t (show (0 : Int32).toInt ≤ b.toInt ∧ b.toInt ≤ (12 : Int32).toInt from hb)]; decide), m_in, bind_s, if_neg (by rw [bI_t (show (0 : Int32).toInt ≤ c.toInt ∧ c.toInt ≤ (1 : Int32).toInt from hc)]; decide), m_lcnt hY, e, mH_147]
theorem m_hireR {y : SS} (hY : RY y) {a b c : Int32} (h : ¬ ((0 ≤ a.toInt ∧ a.toInt < (y.1 60 1).toInt) ∧ (0 ≤ b.toInt ∧ b.toInt ≤ 12) ∧ (0 ≤ c.toInt ∧ c.toInt ≤ 1))) : f_X12_hire y a b c = some (-1, y) := by
  unfold f_X12_hire
  rw [m_isOne (RY_p0 hY) a, bind_s]
  by_cases ha : 0 ≤ a.toInt ∧ a.toInt < (y.1 60 1).toInt
  · rw [if_neg (by rw [bI_t ha]; decide), m_in, bind_s]
    by_cases hb : (0 : Int32).toInt ≤ b.toInt ∧ b.toInt ≤ (12 : Int32).toInt
    · rw [if_neg (by rw [bI_t hb]; decide), m_in, bind_s]
      rw [if_pos (bI_f (show ¬ ((0 : Int32).toInt ≤ c.toInt ∧ c.toInt ≤ (1 : Int32).toInt) from fun hc => h ⟨ha, hb, hc⟩))]
    · rw [if_pos (bI_f hb)]
  · rw [if_pos (bI_f ha)]
theorem sim_hire {q y : SS} (h : INV q) (f : MC q y) (hy : INV y) (a b c : Int32) : T2 (f_X11_hire q a b c) (f_X12_hire y a b c) (fun r s => r.1 = s.1) := by
  have hY := INV_RY h
  have hZ := INV_RY hy
  have l0 : (0 : Int32).toInt = 0 := rfl
  have l1 : (1 : Int32).toInt = 1 := rfl
  have l12 : (12 : Int32).toInt = 12 := rfl
  have l99 : (99 : Int32).toInt = 99 := rfl
  have y60 : y.1 60 = q.1 60 := f.1 60 (by decide)
  have P6 := RY_p6 hY
  by_cases G : (0 ≤ a.toInt ∧ a.toInt < (y.1 60 1).toInt) ∧ (0 ≤ b.toInt ∧ b.toInt ≤ 12) ∧ (0 ≤ c.toInt ∧ c.toInt ≤ 1)
  rotate_left
  · rw [m_hireR hZ G]
    unfold f_X11_hire
    refine T2_le (x_isPerson q a) ?_
    rw [RY_p hY, ← y60]
    by_cases ha : 0 ≤ a.toInt ∧ a.toInt < (y.1 60 1).toInt
    · refine T2_ql (by rw [bI_t ha]; decide) ?_
      by_cases b0 : b < 0
      · exact T2_pl b0 (T2_s rfl)
      refine T2_ql b0 ?_
      by_cases b12 : (12 : Int32) < b
      · exact T2_pl b12 (T2_s rfl)
      refine T2_ql b12 ?_
      by_cases c0 : c < 0
      · exact T2_pl c0 (T2_s rfl)
      refine T2_ql c0 ?_
      have b0' := Int32.le_iff_toInt_le.mp (Int32.not_lt.mp b0)
      have b12' := Int32.le_iff_toInt_le.mp (Int32.not_lt.mp b12)
      have c0' := Int32.le_iff_toInt_le.mp (Int32.not_lt.mp c0)
      exact T2_ql (fun x => by
        have x' := Int32.le_iff_toInt_le.mp x
        exact G ⟨ha, ⟨by omega, by omega⟩, ⟨by omega, by omega⟩⟩) (T2_s rfl)
    · exact T2_pl (bI_f ha) (T2_s rfl)
  obtain ⟨ha, hb, hc⟩ := G
  obtain ⟨s, hs, _⟩ := mo_hire hy a b c
  obtain ⟨z, ⟨z60, z63, z82⟩, e⟩ := m_hireG hZ ha hb hc
  have main : T (f_X11_hire q a b c) (fun r => r.1 = s.1) := by
    rw [e] at hs
    have a0 := ha.1
    rw [y60] at ha
    unfold f_X11_hire
    refine T_rw (x_isPerson q a) (T_q (by rw [RY_p hY, bI_t ha]; decide) (T_q (fun x => by have := Int32.lt_iff_toInt_lt.mp x; omega) (T_q (fun x => by have := Int32.lt_iff_toInt_lt.mp x; omega) (T_q (fun x => by have := Int32.lt_iff_toInt_lt.mp x; omega) (T_p (Int32.le_iff_toInt_le.mpr (by omega)) (T_b (x_now hY) (fun r hn => ?_)))))))
    have r1 : ∀ k, k ≠ 25 → r.1 k = q.1 k := hn.2.1
    have rP : r.1 1 1 = q.1 60 1 := by rw [r1 1 (by decide)]; exact RY_p hY
    have rK : r.1 1 2 = q.1 60 6 := by rw [r1 1 (by decide)]; exact RY_k hY
    have k0 := RY_k0 hY
    have k12 := RY_k12 hY
    have ec : cntN (fun t => decide (r.1 25 t = a) && decide ((r.1 9 t).toInt < 4)) (r.1 1 2).toInt.toNat = cntN (looH y a) (y.1 60 6).toInt.toNat := by
      rw [rK, y60]
      refine cntN_c (fun t ht => ?_)
      unfold looH
      rw [hn.2.2 t (by omega), r1 9 (by decide), RY_folds hY, f.1 65 (by decide), f.1 67 (by decide)]
    refine T_rw (x_looseOf (by rw [rK]; exact k0) (by rw [rK]; exact k12) a) ?_
    rw [ec]
    by_cases d : b ≤ Int32.ofNat (cntN (looH y a) (y.1 60 6).toInt.toNat)
    rotate_left
    · rw [if_neg d] at hs
      refine T_q d (T_some.mpr ?_)
      rw [← Option.some.inj hs]
    rw [if_pos d] at hs
    refine T_p d ?_
    have et : ∀ j, tkH y a j = tkH q a j := fun j => by
      unfold tkH
      rw [f.1 62 (by decide), f.1 64 (by decide)]
    have hst : HSt q a b c s 0 0 b 0 (-2) := by
      by_cases b0 : b = 0
      · exact Or.inl ⟨b0, m_fin (by unfold FU; decide) hs (by rw [b0]; exact Int.le_refl _)⟩
      · have b0' : b.toInt ≠ 0 := fun x => b0 (Int32.toInt_inj.mp x)
        refine Or.inr ⟨by omega, FU, z, 0, hs, by rw [l0]; omega, by unfold FU; omega, z60.trans y60, z63.trans (f.1 63 (by decide)), fun j hj => ?_⟩
        have rp := RY_rprice hY j hj
        rw [if_neg (by omega), z82 j (by rw [y60]; exact hj), et]
    have fin : ∀ (m4 m5 m6 : Int32) (L m : Int), HSt q a b c s L m m4 m5 m6 → 0 ≤ m4.toInt → m4.toInt ≤ b.toInt → (99 < L ∨ m4.toInt ≤ 0) → T (b_X11_hire_146 r c m4 m5 m6) (fun r => r.1 = s.1) := fun m4 m5 m6 L m H h0 h1 hl => by
      unfold b_X11_hire_146
      by_cases g : m4 ≤ 0
      · have g' := Int32.le_iff_toInt_le.mp g
        rcases H with ⟨_, H⟩ | ⟨H, _⟩
        · refine T_p g ?_
          by_cases c0 : c = 0
          · rw [if_pos c0] at H
            exact T_p c0 (T_some.mpr H.symm)
          · rw [if_neg c0] at H
            exact T_q c0 (T_some.mpr H.symm)
        · omega
      · have g' := Int32.lt_iff_toInt_lt.mp (Int32.not_le.mp g)
        refine T_q g (T_some.mpr ?_)
        exact (HSt_end hY (by omega) H (by omega) h1).symm
    unfold b_X11_hire_60
    refine T_fx7 (fun u k1 m3 m4 m5 m6 L => u = r ∧ k1 = a ∧ m3 = c ∧ (0 ≤ L.toInt ∧ L.toInt ≤ 100) ∧ (0 ≤ m4.toInt ∧ m4.toInt ≤ b.toInt) ∧ HSt q a b c s L.toInt 0 m4 m5 m6) (fun _ _ _ _ _ _ L => (100 - L.toInt).toNat) ?_ _ _ _ _ _ _ _ _ ⟨rfl, rfl, rfl, by decide, ⟨hb.1, Int.le_refl _⟩, hst⟩ (by unfold FU; decide)
    rintro rec u k1 m3 m4 m5 m6 L ⟨rfl, rfl, rfl, ⟨g0, g1⟩, ⟨j0, j1⟩, H⟩ hrec
    by_cases g : (99 : Int32) < L
    · have g' := Int32.lt_iff_toInt_lt.mp g
      exact T_p g (fin _ _ _ _ _ H j0 j1 (Or.inl (by omega)))
    have g' := Int32.le_iff_toInt_le.mp (Int32.not_lt.mp g)
    refine T_q g ?_
    by_cases g4 : m4 ≤ 0
    · have g4' := Int32.le_iff_toInt_le.mp g4
      exact T_p g4 (fin _ _ _ _ _ H j0 j1 (Or.inr (by omega)))
    refine T_q g4 ?_
    have e7 := inc1 (a := L) (by omega) (by omega)
    unfold b_X11_hire_75
    refine T_fx8 (fun w n1 n3 n4 n5 n6 n7 n8 => w = u ∧ n1 = k1 ∧ n3 = m3 ∧ n7 = L ∧ (0 ≤ n8.toInt ∧ n8.toInt ≤ (q.1 60 1).toInt) ∧ (0 ≤ n4.toInt ∧ n4.toInt ≤ b.toInt) ∧ HSt q k1 b m3 s L.toInt n8.toInt n4 n5 n6) (fun _ _ _ _ _ _ _ n8 => (6 - n8.toInt).toNat) ?_ _ _ _ _ _ _ _ _ _ ⟨rfl, rfl, rfl, rfl, ⟨by decide, by rw [l0]; omega⟩, ⟨j0, j1⟩, H⟩ (by unfold FU; decide)
    rintro rec2 w n1 n3 n4 n5 n6 n7 n8 ⟨rfl, rfl, rfl, rfl, ⟨f0, f1⟩, ⟨i0, i1⟩, H2⟩ hrec2
    unfold b_X11_hire_140 b_X11_hire_134
    have next : HSt q n1 b n3 s (n7.toInt + 1) 0 n4 n5 n6 → T (rec w n1 n3 n4 n5 n6 (n7 + 1)) (fun r => r.1 = s.1) := fun X => hrec _ _ _ _ _ _ _ ⟨rfl, rfl, rfl, by omega, ⟨i0, i1⟩, by rw [e7]; exact X⟩ (by omega)
    refine T_rw (show f_X10_people w = some (w.1 1 1) from rfl) ?_
    rw [rP]
    by_cases p8 : q.1 60 1 ≤ n8
    · exact T_p p8 (next (HSt_next hY (Int32.le_iff_toInt_le.mp p8) H2))
    have p8' := Int32.lt_iff_toInt_lt.mp (Int32.not_le.mp p8)
    refine T_q p8 ?_
    by_cases z4 : n4 ≤ 0
    · have z4' := Int32.le_iff_toInt_le.mp z4
      refine T_p z4 (next ?_)
      rcases H2 with X | ⟨X, _⟩
      · exact Or.inl X
      · omega
    have z4' := Int32.lt_iff_toInt_lt.mp (Int32.not_le.mp z4)
    have e8 := inc1 (a := n8) (by omega) (by omega)
    have hp8 : 0 ≤ n8.toInt ∧ n8.toInt < (q.1 60 1).toInt := ⟨f0, p8'⟩
    refine T_q z4 (T_rw (x_takesE hY rP ((r1 4 (by decide)).trans (RY_child hY)) (r1 5 (by decide)) ((r1 6 (by decide)).trans (RY_takes hY)) a0 hp8) (T_nm ?_))
    have tb := tkH_b hY (a := n1) (i := n8.toNatClampNeg) (by show ((n8.toInt.toNat : Nat) : Int) < _; omega)
    have skip : (if q.1 63 n8.toNatClampNeg = n7 then tkH q n1 n8.toNatClampNeg else 0) = 0 → T (rec2 w n1 n3 n4 n5 n6 n7 (n8 + 1)) (fun r => r.1 = s.1) := fun X => hrec2 _ _ _ _ _ _ _ _ ⟨rfl, rfl, rfl, rfl, ⟨by omega, by omega⟩, ⟨i0, i1⟩, by rw [e8]; exact HSt_skip hp8 H2 X⟩ (by omega)
    by_cases v0 : (if q.1 63 n8.toNatClampNeg = n7 then tkH q n1 n8.toNatClampNeg else 0) = 0
    · rw [v0]
      refine T_p ?_ (skip v0)
      rw [(jmin_E n4 0).2 (by omega)]
      decide
    · have eL : q.1 63 n8.toNatClampNeg = n7 := by
        by_cases X : q.1 63 n8.toNatClampNeg = n7
        · exact X
        · rw [if_neg X] at v0
          exact absurd rfl v0
      rw [if_pos eL] at v0 ⊢
      have tn : (tkH q n1 n8.toNatClampNeg).toInt ≠ 0 := fun X => v0 (Int32.toInt_inj.mp X)
      have H3 := HSt_take hY hb.2 i1 (by omega) hp8 H2 eL rfl (by omega)
      have jm := jmin_E n4 (tkH q n1 n8.toNatClampNeg)
      have jb : 0 < (jmin n4 (tkH q n1 n8.toNatClampNeg)).toInt ∧ (jmin n4 (tkH q n1 n8.toNatClampNeg)).toInt ≤ n4.toInt := by
        by_cases X : n4.toInt ≤ (tkH q n1 n8.toNatClampNeg).toInt
        · rw [jm.1 X]
          omega
        · rw [jm.2 (by omega)]
          omega
      generalize jmin n4 (tkH q n1 n8.toNatClampNeg) = v at H3 jb ⊢
      have sv : (n4 - v).toInt = n4.toInt - v.toInt := tsub (by omega) (by omega)
      exact T_q (fun X => by have := Int32.le_iff_toInt_le.mp X; omega) (T_nm (T_nm (hrec2 _ _ _ _ _ _ _ _ ⟨rfl, rfl, rfl, rfl, ⟨by omega, by omega⟩, ⟨by omega, by omega⟩, by rw [e8]; exact H3⟩ (by omega))))
  obtain ⟨r, hr, er⟩ := main
  exact ⟨r, s, hr, hs, er⟩
theorem opq_hire {q : SS} (h : INV q) (w : RLW q) (a b c : Int32) : T (f_X11_hire q a b c) (fun r => T (f_X12_hire r.2 a b c) (fun s => INV s.2 ∧ r.1 = s.1)) := opw_of (g := fun y => f_X12_hire y a b c) (xo_hire h a b c) (kc_f_X11_hire q q a b c (Fr_refl q)) (fun y hy => mo_hire hy a b c) (fun y f hy => sim_hire h f hy a b c)

theorem of_nat {v : Int32} {n : Nat} (h0 : 0 ≤ v) (h : v.toInt < n) : ∃ m, m < n ∧ v = Int32.ofNat m := by
  rw [Int32.le_iff_toInt_le] at h0
  have e0 : (0 : Int32).toInt = 0 := rfl
  refine ⟨v.toNatClampNeg, vin_cn ⟨by omega, h⟩, ?_⟩
  have : Int32.ofNat v.toNatClampNeg = v := Int32.ofNat_toNatClampNeg v (Int32.le_iff_toInt_le.mpr (by omega))
  exact this.symm
theorem x_mayBe78 {q : SS} (k v : Int32) (n : Int32) (h : (k = 7 ∧ n = 11) ∨ (k = 8 ∧ n = 9)) : f_X10_mayBe q k v = some (if 0 ≤ v ∧ v ≤ n then 1 else 0) := by
  unfold f_X10_mayBe
  have key : (if v < 0 then some (0 : Int32) else if n < v then some 0 else some 1) = some (if 0 ≤ v ∧ v ≤ n then 1 else 0) := by
    by_cases g : v < 0
    · rw [if_pos g, if_neg (fun h => absurd g (Int32.not_lt.mpr h.1))]
    · rw [if_neg g]
      by_cases g2 : n < v
      · rw [if_pos g2, if_neg (fun h => absurd g2 (Int32.not_lt.mpr h.2))]
      · rw [if_neg g2, if_pos ⟨neg_or_le v g, Int32.not_lt.mp g2⟩]
  obtain ⟨rfl, rfl⟩ | ⟨rfl, rfl⟩ := h
  · exact key
  · exact key
theorem m_mayHave78 {q : SS} (k v : Int32) (n : Int32) (h : (k = 7 ∧ n = 11) ∨ (k = 8 ∧ n = 9)) : f_X12_mayHave q k v = some (if 0 ≤ v ∧ v ≤ n then 1 else 0) := by
  unfold f_X12_mayHave
  obtain ⟨rfl, rfl⟩ | ⟨rfl, rfl⟩ := h
  · show (f_X12_in q v 0 11).bind _ = _
    rw [m_in, bind_s, b01]
  · show (f_X12_in q v 0 9).bind _ = _
    rw [m_in, bind_s, b01]
theorem op_mend {q : SS} (hq : q = qof σM) (hX : FX q) (hM : FM q) (a b c : Int32) : T (f_X11_mend q a b c) (fun r => T (f_X12_mend r.2 a b c) (fun s => r.1 = s.1)) := by
  by_cases g : (b = 7 ∨ b = 8) ∧ a = 0
  · obtain ⟨g1, rfl⟩ := g
    obtain ⟨n, hn⟩ : ∃ n : Int32, (b = 7 ∧ n = 11) ∨ (b = 8 ∧ n = 9) := by
      rcases g1 with rfl | rfl
      · exact ⟨11, Or.inl ⟨rfl, rfl⟩⟩
      · exact ⟨9, Or.inr ⟨rfl, rfl⟩⟩
    by_cases g2 : 0 ≤ c ∧ c ≤ n
    · rw [hq]
      obtain ⟨h0, h1⟩ := g2
      rw [Int32.le_iff_toInt_le] at h1
      obtain ⟨rfl, rfl⟩ | ⟨rfl, rfl⟩ := hn
      · have e : (11 : Int32).toInt = 11 := rfl
        obtain ⟨m, hm, rfl⟩ := of_nat (n := 12) h0 (by omega)
        exact ch0_T (c_mend7 m hm)
      · have e : (9 : Int32).toInt = 9 := rfl
        obtain ⟨m, hm, rfl⟩ := of_nat (n := 10) h0 (by omega)
        exact ch0_T (c_mend8 m hm)
    · refine T_of (r := (-1, q)) ?_ ?_
      · unfold f_X11_mend
        rw [x_hasNumber (fx_1_1 hX) (fx_1_2 hX), bind_s, if_pos (show (b = 7 ∨ b = 8) ∧ (0 : Int32) = 0 from ⟨g1, rfl⟩), if_neg (by decide), x_mayBe78 b c n hn, bind_s, if_neg g2, if_pos rfl]
      · unfold f_X12_mend
        rw [m_isPlace (fm_60_1 hM) (fm_60_6 hM), bind_s, if_pos (show (b = 7 ∨ b = 8) ∧ (0 : Int32) = 0 from ⟨g1, rfl⟩), if_neg (by decide), m_mayHave78 b c n hn, bind_s, if_neg g2, if_pos rfl]
        exact T_some.mpr rfl
  · refine T_of (r := (-1, q)) ?_ ?_
    · unfold f_X11_mend
      rw [x_hasNumber (fx_1_1 hX) (fx_1_2 hX), bind_s, if_neg g, if_pos rfl]
    · unfold f_X12_mend
      rw [m_isPlace (fm_60_1 hM) (fm_60_6 hM), bind_s, if_neg g, if_pos rfl]
      exact T_some.mpr rfl
theorem nine {b : Int32} : (9 ≤ b ∧ b ≤ 10) = (b = 9 ∨ b = 10) := by
  apply propext
  rw [Int32.le_iff_toInt_le, Int32.le_iff_toInt_le, ← Int32.toInt_inj, ← Int32.toInt_inj]
  have e1 : (9 : Int32).toInt = 9 := rfl
  have e2 : (10 : Int32).toInt = 10 := rfl
  omega
theorem op_of {q : SS} (hq : q = qof σM) (hX : FX q) (hM : FM q) (a b : Int32) : T (f_X11_of q a b) (fun r => T (f_X12_of r.2 a b) (fun s => r.1 = s.1)) := by
  by_cases g0 : b = 9 ∨ b = 10
  · refine T_of (r := (-1, q)) ?_ ?_
    · unfold f_X11_of b_X11_of_12
      rw [x_isPerson (fx_p hX), bind_s, if_pos rfl]
      rcases g0 with g0 | g0
      · rw [if_pos g0]
      · subst g0; rfl
    · unfold f_X12_of
      rw [m_in, bind_s]
      simp only [nine]
      rw [if_pos g0, if_neg (by decide), m_isOne (fm_60_1 hM), bind_s, if_pos rfl]
      exact T_some.mpr rfl
  · have n9 : ¬ b = 9 := fun h => g0 (Or.inl h)
    have n10 : ¬ b = 10 := fun h => g0 (Or.inr h)
    by_cases g : (b = 7 ∨ b = 8) ∧ a = 0
    · rw [hq]
      obtain ⟨rfl | rfl, rfl⟩ := g
      · exact ch0_T c_of7
      · exact ch0_T c_of8
    · refine T_of (r := (-1, q)) ?_ ?_
      · unfold f_X11_of
        rw [if_neg n9, if_neg n10, x_hasNumber (fx_1_1 hX) (fx_1_2 hX), bind_s, if_neg g, if_pos rfl]
      · unfold f_X12_of
        rw [m_in, bind_s]
        simp only [nine]
        rw [if_neg g0, if_pos rfl, m_isPlace (fm_60_1 hM) (fm_60_6 hM), bind_s, if_neg g, if_pos rfl]
        exact T_some.mpr rfl
/-! put together -/
theorem opA {α : Type} {q : SS} {f : Option (α × SS)} {g : α × SS → Option (α × SS)} {v : α} (hM : FM q) (hf : f = some (v, q)) (hg : ∀ r, FM r → T (g (v, r)) (fun s => s.1 = v)) : T f (fun r => T (g r) (fun s => r.1 = s.1)) := by
  obtain ⟨s, h1, h2⟩ := hg q hM
  exact ⟨_, hf, s, h1, h2.symm⟩
theorem opB {α : Type} {q : SS} {f : Option (α × SS)} {g : SS → Option (α × SS)} {v : α} (hM : FM q) (hf : T f (fun r => r.1 = v ∧ K60 q r.2)) (hg : ∀ r, FM r → T (g r) (fun s => s.1 = v)) : T f (fun r => T (g r.2) (fun s => r.1 = s.1)) := by
  obtain ⟨r, h1, h2, h3⟩ := hf
  obtain ⟨s, h4, h5⟩ := hg r.2 (fm_k h3 hM)
  exact ⟨r, h1, s, h4, h2.trans h5.symm⟩
theorem opP {α : Type} {f g : Option α} {v : α} (hf : T f (fun r => r = v)) (hg : T g (fun s => s = v)) : T f (fun r => T g (fun s => r = s)) := by
  obtain ⟨r, h1, h2⟩ := hf
  obtain ⟨s, h3, h4⟩ := hg
  exact ⟨r, h1, s, h3, h2.trans h4.symm⟩
theorem lg_self (x : Int64) : lg_cmp x x = 0 := by
  unfold lg_cmp
  simp
theorem T_cI {ρ : Type} {P : ρ → Prop} {f : Option (Int32 × SS)} {g : Int32 × SS → Option (Int32 × SS)} {c : Int32 × SS → Int32 × SS → Option ρ} {e : Int32 × SS → Int32 × SS → Option ρ} (h : T f (fun r => T (g r) (fun s => r.1 = s.1))) (hc : ∀ r s, T (c r s) P) : T (f.bind fun r => (g r).bind fun s => if r.1 = s.1 then c r s else e r s) P := by
  obtain ⟨r, h1, s, h2, h3⟩ := h
  rw [h1, bind_s, h2, bind_s, if_pos h3]
  exact hc r s
theorem T_cL {ρ : Type} {P : ρ → Prop} {f : Option (Int64 × SS)} {g : Int64 × SS → Option (Int64 × SS)} {c : Int64 × SS → Int64 × SS → Option ρ} {e : Int64 × SS → Int64 × SS → Option ρ} (h : T f (fun r => T (g r) (fun s => r.1 = s.1))) (hc : ∀ r s, T (c r s) P) : T (f.bind fun r => (g r).bind fun s => if lg_cmp r.1 s.1 = 0 then c r s else e r s) P := by
  obtain ⟨r, h1, s, h2, h3⟩ := h
  rw [h1, bind_s, h2, bind_s, h3, if_pos (lg_self _)]
  exact hc r s
theorem T_ci {ρ : Type} {P : ρ → Prop} {f : Option Int32} {g : Int32 → Option Int32} {c e : Int32 → Int32 → Option ρ} (h : T f (fun r => T (g r) (fun s => r = s))) (hc : ∀ r s, T (c r s) P) : T (f.bind fun r => (g r).bind fun s => if r = s then c r s else e r s) P := by
  obtain ⟨r, h1, s, h2, h3⟩ := h
  rw [h1, bind_s, h2, bind_s, if_pos h3]
  exact hc r s
theorem T_cl {ρ : Type} {P : ρ → Prop} {f : Option Int64} {g : Int64 → Option Int64} {c e : Int64 → Int64 → Option ρ} (h : T f (fun r => T (g r) (fun s => r = s))) (hc : ∀ r s, T (c r s) P) : T (f.bind fun r => (g r).bind fun s => if lg_cmp r s = 0 then c r s else e r s) P := by
  obtain ⟨r, h1, s, h2, rfl⟩ := h
  rw [h1, bind_s, h2, bind_s, if_pos (lg_self _)]
  exact hc r r
theorem T_sw {ρ : Type} {P : ρ → Prop} {x : Int32} {k : Int} {o1 d : Option ρ} {t : List (Int × Option ρ)} (h : T o1 P) (h2 : T (sw x t d) P) : T (sw x ((k, o1) :: t) d) P := by
  show T (if x.toInt = k then o1 else sw x t d) P
  by_cases g : x.toInt = k
  · rw [if_pos g]; exact h
  · rw [if_neg g]; exact h2
theorem law_sw {q : SS} (hq : q = qof σM) (hX : FX q) (hM : FM q) {xs : Nat → Int32} {rec : SS → Int32 → Option (Int32 × SS)} (hrec : ∀ q, T (rec q (0 + 6)) (fun r => r.1 = 1)) : T (nm ((xs (0 : Int32).toNatClampNeg) &&& (63 : Int32)) fun v1 => sw v1 [(0, (if vin ((0 : Int32) + (1 : Int32)) 6 then (f_X11_person q (xs ((0 : Int32) + (1 : Int32)).toNatClampNeg)).bind fun r3 => if vin ((0 : Int32) + (1 : Int32)) 6 then (f_X12_person r3.2 (xs ((0 : Int32) + (1 : Int32)).toNatClampNeg)).bind fun r4 => if r3.1 = r4.1 then (b_L_law_1517 6 xs rec r4.2 (0 : Int32)) else (some ((0 : Int32), r4.2)) else none else none)), (1, (if vin ((0 : Int32) + (1 : Int32)) 6 then if vin ((0 : Int32) + (2 : Int32)) 6 then (f_X11_ticket q (xs ((0 : Int32) + (1 : Int32)).toNatClampNeg) (xs ((0 : Int32) + (2 : Int32)).toNatClampNeg)).bind fun r7 => if vin ((0 : Int32) + (1 : Int32)) 6 then if vin ((0 : Int32) + (2 : Int32)) 6 then (f_X12_ticket r7.2 (xs ((0 : Int32) + (1 : Int32)).toNatClampNeg) (xs ((0 : Int32) + (2 : Int32)).toNatClampNeg)).bind fun r8 => if r7.1 = r8.1 then (b_L_law_1517 6 xs rec r8.2 (0 : Int32)) else (some ((0 : Int32), r8.2)) else none else none else none else none)), (2, (if vin ((0 : Int32) + (1 : Int32)) 6 then if vin ((0 : Int32) + (2 : Int32)) 6 then if vin ((0 : Int32) + (3 : Int32)) 6 then (f_X11_tickets q (xs ((0 : Int32) + (1 : Int32)).toNatClampNeg) (xs ((0 : Int32) + (2 : Int32)).toNatClampNeg) (xs ((0 : Int32) + (3 : Int32)).toNatClampNeg)).bind fun r11 => if vin ((0 : Int32) + (1 : Int32)) 6 then if vin ((0 : Int32) + (2 : Int32)) 6 then if vin ((0 : Int32) + (3 : Int32)) 6 then (f_X12_tickets r11.2 (xs ((0 : Int32) + (1 : Int32)).toNatClampNeg) (xs ((0 : Int32) + (2 : Int32)).toNatClampNeg) (xs ((0 : Int32) + (3 : Int32)).toNatClampNeg)).bind fun r12 => if r11.1 = r12.1 then (b_L_law_1517 6 xs rec r12.2 (0 : Int32)) else (some ((0 : Int32), r12.2)) else none else none else none else none else none else none)), (3, (if vin ((0 : Int32) + (1 : Int32)) 6 then if vin ((0 : Int32) + (2 : Int32)) 6 then if vin ((0 : Int32) + (3 : Int32)) 6 then (f_X11_mend q (xs ((0 : Int32) + (1 : Int32)).toNatClampNeg) (xs ((0 : Int32) + (2 : Int32)).toNatClampNeg) (xs ((0 : Int32) + (3 : Int32)).toNatClampNeg)).bind fun r15 => if vin ((0 : Int32) + (1 : Int32)) 6 then if vin ((0 : Int32) + (2 : Int32)) 6 then if vin ((0 : Int32) + (3 : Int32)) 6 then (f_X12_mend r15.2 (xs ((0 : Int32) + (1 : Int32)).toNatClampNeg) (xs ((0 : Int32) + (2 : Int32)).toNatClampNeg) (xs ((0 : Int32) + (3 : Int32)).toNatClampNeg)).bind fun r16 => if r15.1 = r16.1 then (b_L_law_1517 6 xs rec r16.2 (0 : Int32)) else (some ((0 : Int32), r16.2)) else none else none else none else none else none else none)), (4, (if vin ((0 : Int32) + (1 : Int32)) 6 then if vin ((0 : Int32) + (2 : Int32)) 6 then (f_X11_of q (xs ((0 : Int32) + (1 : Int32)).toNatClampNeg) (xs ((0 : Int32) + (2 : Int32)).toNatClampNeg)).bind fun r19 => if vin ((0 : Int32) + (1 : Int32)) 6 then if vin ((0 : Int32) + (2 : Int32)) 6 then (f_X12_of r19.2 (xs ((0 : Int32) + (1 : Int32)).toNatClampNeg) (xs ((0 : Int32) + (2 : Int32)).toNatClampNeg)).bind fun r20 => if r19.1 = r20.1 then (b_L_law_1517 6 xs rec r20.2 (0 : Int32)) else (some ((0 : Int32), r20.2)) else none else none else none else none)), (5, (if vin ((0 : Int32) + (1 : Int32)) 6 then (f_X11_feed q (xs ((0 : Int32) + (1 : Int32)).toNatClampNeg)).bind fun r23 => if vin ((0 : Int32) + (1 : Int32)) 6 then (f_X12_feed r23.2 (xs ((0 : Int32) + (1 : Int32)).toNatClampNeg)).bind fun r24 => if r23.1 = r24.1 then (b_L_law_1517 6 xs rec r24.2 (0 : Int32)) else (some ((0 : Int32), r24.2)) else none else none)), (6, ((f_X11_law q).bind fun r27 => (f_X12_law r27.2).bind fun r28 => if r27.1 = r28.1 then (b_L_law_1517 6 xs rec r28.2 (0 : Int32)) else (some ((0 : Int32), r28.2)))), (7, (if vin ((0 : Int32) + (1 : Int32)) 6 then (f_X11_odds q (xs ((0 : Int32) + (1 : Int32)).toNatClampNeg)).bind fun r31 => if vin ((0 : Int32) + (1 : Int32)) 6 then (f_X12_odds r31.2 (xs ((0 : Int32) + (1 : Int32)).toNatClampNeg)).bind fun r32 => if r31.1 = r32.1 then (b_L_law_1517 6 xs rec r32.2 (0 : Int32)) else (some ((0 : Int32), r32.2)) else none else none)), (8, (if vin ((0 : Int32) + (1 : Int32)) 6 then if vin ((0 : Int32) + (2 : Int32)) 6 then if vin ((0 : Int32) + (3 : Int32)) 6 then (f_X11_later q (xs ((0 : Int32) + (1 : Int32)).toNatClampNeg) (xs ((0 : Int32) + (2 : Int32)).toNatClampNeg) (xs ((0 : Int32) + (3 : Int32)).toNatClampNeg)).bind fun r35 => if vin ((0 : Int32) + (1 : Int32)) 6 then if vin ((0 : Int32) + (2 : Int32)) 6 then if vin ((0 : Int32) + (3 : Int32)) 6 then (f_X12_later r35.2 (xs ((0 : Int32) + (1 : Int32)).toNatClampNeg) (xs ((0 : Int32) + (2 : Int32)).toNatClampNeg) (xs ((0 : Int32) + (3 : Int32)).toNatClampNeg)).bind fun r36 => if r35.1 = r36.1 then (b_L_law_1517 6 xs rec r36.2 (0 : Int32)) else (some ((0 : Int32), r36.2)) else none else none else none else none else none else none)), (9, (if vin ((0 : Int32) + (1 : Int32)) 6 then if vin ((0 : Int32) + (2 : Int32)) 6 then if vin ((0 : Int32) + (3 : Int32)) 6 then (f_X11_eve q (xs ((0 : Int32) + (1 : Int32)).toNatClampNeg) (xs ((0 : Int32) + (2 : Int32)).toNatClampNeg) (xs ((0 : Int32) + (3 : Int32)).toNatClampNeg)).bind fun r39 => if vin ((0 : Int32) + (1 : Int32)) 6 then if vin ((0 : Int32) + (2 : Int32)) 6 then if vin ((0 : Int32) + (3 : Int32)) 6 then (f_X12_eve r39.2 (xs ((0 : Int32) + (1 : Int32)).toNatClampNeg) (xs ((0 : Int32) + (2 : Int32)).toNatClampNeg) (xs ((0 : Int32) + (3 : Int32)).toNatClampNeg)).bind fun r40 => if r39.1 = r40.1 then (b_L_law_1517 6 xs rec r40.2 (0 : Int32)) else (some ((0 : Int32), r40.2)) else none else none else none else none else none else none)), (10, (if vin ((0 : Int32) + (1 : Int32)) 6 then if vin ((0 : Int32) + (2 : Int32)) 6 then if vin ((0 : Int32) + (3 : Int32)) 6 then (f_X11_likely q (xs ((0 : Int32) + (1 : Int32)).toNatClampNeg) (xs ((0 : Int32) + (2 : Int32)).toNatClampNeg) (xs ((0 : Int32) + (3 : Int32)).toNatClampNeg)).bind fun r43 => if vin ((0 : Int32) + (1 : Int32)) 6 then if vin ((0 : Int32) + (2 : Int32)) 6 then if vin ((0 : Int32) + (3 : Int32)) 6 then (f_X12_likely r43.2 (xs ((0 : Int32) + (1 : Int32)).toNatClampNeg) (xs ((0 : Int32) + (2 : Int32)).toNatClampNeg) (xs ((0 : Int32) + (3 : Int32)).toNatClampNeg)).bind fun r44 => if (lg_cmp r43.1 r44.1) = 0 then (b_L_law_1517 6 xs rec r44.2 (0 : Int32)) else (some ((0 : Int32), r44.2)) else none else none else none else none else none else none)), (11, (if vin ((0 : Int32) + (1 : Int32)) 6 then if vin ((0 : Int32) + (2 : Int32)) 6 then (f_X11_all q (xs ((0 : Int32) + (1 : Int32)).toNatClampNeg) (xs ((0 : Int32) + (2 : Int32)).toNatClampNeg)).bind fun r47 => if vin ((0 : Int32) + (1 : Int32)) 6 then if vin ((0 : Int32) + (2 : Int32)) 6 then (f_X12_all r47.2 (xs ((0 : Int32) + (1 : Int32)).toNatClampNeg) (xs ((0 : Int32) + (2 : Int32)).toNatClampNeg)).bind fun r48 => if (lg_cmp r47.1 r48.1) = 0 then (b_L_law_1517 6 xs rec r48.2 (0 : Int32)) else (some ((0 : Int32), r48.2)) else none else none else none else none)), (12, (if vin ((0 : Int32) + (1 : Int32)) 6 then if vin ((0 : Int32) + (2 : Int32)) 6 then (f_X11_king q (xs ((0 : Int32) + (1 : Int32)).toNatClampNeg) (xs ((0 : Int32) + (2 : Int32)).toNatClampNeg)).bind fun r51 => if vin ((0 : Int32) + (1 : Int32)) 6 then if vin ((0 : Int32) + (2 : Int32)) 6 then (f_X12_king r51.2 (xs ((0 : Int32) + (1 : Int32)).toNatClampNeg) (xs ((0 : Int32) + (2 : Int32)).toNatClampNeg)).bind fun r52 => if (lg_cmp r51.1 r52.1) = 0 then (b_L_law_1517 6 xs rec r52.2 (0 : Int32)) else (some ((0 : Int32), r52.2)) else none else none else none else none)), (13, ((f_X11_safe q).bind fun r55 => (f_X12_safe r55.2).bind fun r56 => if r55.1 = r56.1 then (b_L_law_1517 6 xs rec r56.2 (0 : Int32)) else (some ((0 : Int32), r56.2)))), (14, ((f_X11_likeliest q).bind fun r59 => (f_X12_likeliest r59.2).bind fun r60 => if r59.1 = r60.1 then (b_L_law_1517 6 xs rec r60.2 (0 : Int32)) else (some ((0 : Int32), r60.2)))), (15, (if vin ((0 : Int32) + (1 : Int32)) 6 then (f_X11_watch q (xs ((0 : Int32) + (1 : Int32)).toNatClampNeg)).bind fun r63 => if vin ((0 : Int32) + (1 : Int32)) 6 then (f_X12_watch r63.2 (xs ((0 : Int32) + (1 : Int32)).toNatClampNeg)).bind fun r64 => if r63.1 = r64.1 then (b_L_law_1517 6 xs rec r64.2 (0 : Int32)) else (some ((0 : Int32), r64.2)) else none else none)), (16, (if vin ((0 : Int32) + (1 : Int32)) 6 then if vin ((0 : Int32) + (2 : Int32)) 6 then if vin ((0 : Int32) + (3 : Int32)) 6 then (f_X11_rid q (xs ((0 : Int32) + (1 : Int32)).toNatClampNeg) (xs ((0 : Int32) + (2 : Int32)).toNatClampNeg) (xs ((0 : Int32) + (3 : Int32)).toNatClampNeg)).bind fun r67 => if vin ((0 : Int32) + (1 : Int32)) 6 then if vin ((0 : Int32) + (2 : Int32)) 6 then if vin ((0 : Int32) + (3 : Int32)) 6 then (f_X12_rid r67.2 (xs ((0 : Int32) + (1 : Int32)).toNatClampNeg) (xs ((0 : Int32) + (2 : Int32)).toNatClampNeg) (xs ((0 : Int32) + (3 : Int32)).toNatClampNeg)).bind fun r68 => if (lg_cmp r67.1 r68.1) = 0 then (b_L_law_1517 6 xs rec r68.2 (0 : Int32)) else (some ((0 : Int32), r68.2)) else none else none else none else none else none else none)), (17, (if vin ((0 : Int32) + (1 : Int32)) 6 then if vin ((0 : Int32) + (2 : Int32)) 6 then (f_X11_first q (xs ((0 : Int32) + (1 : Int32)).toNatClampNeg) (xs ((0 : Int32) + (2 : Int32)).toNatClampNeg)).bind fun r71 => if vin ((0 : Int32) + (1 : Int32)) 6 then if vin ((0 : Int32) + (2 : Int32)) 6 then (f_X12_first r71.2 (xs ((0 : Int32) + (1 : Int32)).toNatClampNeg) (xs ((0 : Int32) + (2 : Int32)).toNatClampNeg)).bind fun r72 => if r71.1 = r72.1 then (b_L_law_1517 6 xs rec r72.2 (0 : Int32)) else (some ((0 : Int32), r72.2)) else none else none else none else none)), (18, (if vin ((0 : Int32) + (1 : Int32)) 6 then if vin ((0 : Int32) + (2 : Int32)) 6 then if vin ((0 : Int32) + (3 : Int32)) 6 then (f_X11_hire q (xs ((0 : Int32) + (1 : Int32)).toNatClampNeg) (xs ((0 : Int32) + (2 : Int32)).toNatClampNeg) (xs ((0 : Int32) + (3 : Int32)).toNatClampNeg)).bind fun r75 => if vin ((0 : Int32) + (1 : Int32)) 6 then if vin ((0 : Int32) + (2 : Int32)) 6 then if vin ((0 : Int32) + (3 : Int32)) 6 then (f_X12_hire r75.2 (xs ((0 : Int32) + (1 : Int32)).toNatClampNeg) (xs ((0 : Int32) + (2 : Int32)).toNatClampNeg) (xs ((0 : Int32) + (3 : Int32)).toNatClampNeg)).bind fun r76 => if r75.1 = r76.1 then (b_L_law_1517 6 xs rec r76.2 (0 : Int32)) else (some ((0 : Int32), r76.2)) else none else none else none else none else none else none)), (19, (if vin ((0 : Int32) + (1 : Int32)) 6 then if vin ((0 : Int32) + (2 : Int32)) 6 then (f_X11_friend q (xs ((0 : Int32) + (1 : Int32)).toNatClampNeg) (xs ((0 : Int32) + (2 : Int32)).toNatClampNeg)).bind fun r79 => if vin ((0 : Int32) + (1 : Int32)) 6 then if vin ((0 : Int32) + (2 : Int32)) 6 then (f_X12_friend r79.2 (xs ((0 : Int32) + (1 : Int32)).toNatClampNeg) (xs ((0 : Int32) + (2 : Int32)).toNatClampNeg)).bind fun r80 => if r79.1 = r80.1 then (b_L_law_1517 6 xs rec r80.2 (0 : Int32)) else (some ((0 : Int32), r80.2)) else none else none else none else none)), (20, (if vin ((0 : Int32) + (1 : Int32)) 6 then if vin ((0 : Int32) + (2 : Int32)) 6 then (f_X11_share q (xs ((0 : Int32) + (1 : Int32)).toNatClampNeg) (xs ((0 : Int32) + (2 : Int32)).toNatClampNeg)).bind fun r83 => if vin ((0 : Int32) + (1 : Int32)) 6 then if vin ((0 : Int32) + (2 : Int32)) 6 then (f_X12_share r83.2 (xs ((0 : Int32) + (1 : Int32)).toNatClampNeg) (xs ((0 : Int32) + (2 : Int32)).toNatClampNeg)).bind fun r84 => if r83.1 = r84.1 then (b_L_law_1517 6 xs rec r84.2 (0 : Int32)) else (some ((0 : Int32), r84.2)) else none else none else none else none)), (21, ((f_X11_half q).bind fun r87 => (f_X12_half r87.2).bind fun r88 => if r87.1 = r88.1 then (b_L_law_1517 6 xs rec r88.2 (0 : Int32)) else (some ((0 : Int32), r88.2)))), (22, (if vin ((0 : Int32) + (1 : Int32)) 6 then if vin ((0 : Int32) + (2 : Int32)) 6 then if vin ((0 : Int32) + (3 : Int32)) 6 then (f_X11_behind q (xs ((0 : Int32) + (1 : Int32)).toNatClampNeg) (xs ((0 : Int32) + (2 : Int32)).toNatClampNeg) (xs ((0 : Int32) + (3 : Int32)).toNatClampNeg)).bind fun r91 => if vin ((0 : Int32) + (1 : Int32)) 6 then if vin ((0 : Int32) + (2 : Int32)) 6 then if vin ((0 : Int32) + (3 : Int32)) 6 then (f_X12_behind r91.2 (xs ((0 : Int32) + (1 : Int32)).toNatClampNeg) (xs ((0 : Int32) + (2 : Int32)).toNatClampNeg) (xs ((0 : Int32) + (3 : Int32)).toNatClampNeg)).bind fun r92 => if r91.1 = r92.1 then (b_L_law_1517 6 xs rec r92.2 (0 : Int32)) else (some ((0 : Int32), r92.2)) else none else none else none else none else none else none)), (23, (if vin ((0 : Int32) + (1 : Int32)) 6 then if vin ((0 : Int32) + (2 : Int32)) 6 then if vin ((0 : Int32) + (3 : Int32)) 6 then (f_X11_drawn q (xs ((0 : Int32) + (1 : Int32)).toNatClampNeg) (xs ((0 : Int32) + (2 : Int32)).toNatClampNeg) (xs ((0 : Int32) + (3 : Int32)).toNatClampNeg)).bind fun r95 => if vin ((0 : Int32) + (1 : Int32)) 6 then if vin ((0 : Int32) + (2 : Int32)) 6 then if vin ((0 : Int32) + (3 : Int32)) 6 then (f_X12_drawn r95.2 (xs ((0 : Int32) + (1 : Int32)).toNatClampNeg) (xs ((0 : Int32) + (2 : Int32)).toNatClampNeg) (xs ((0 : Int32) + (3 : Int32)).toNatClampNeg)).bind fun r96 => if r95.1 = r96.1 then (b_L_law_1517 6 xs rec r96.2 (0 : Int32)) else (some ((0 : Int32), r96.2)) else none else none else none else none else none else none)), (24, (if vin ((0 : Int32) + (1 : Int32)) 6 then if vin ((0 : Int32) + (2 : Int32)) 6 then (f_X11_slip q (xs ((0 : Int32) + (1 : Int32)).toNatClampNeg) (xs ((0 : Int32) + (2 : Int32)).toNatClampNeg)).bind fun r99 => if vin ((0 : Int32) + (1 : Int32)) 6 then if vin ((0 : Int32) + (2 : Int32)) 6 then (f_X12_slip r99.2 (xs ((0 : Int32) + (1 : Int32)).toNatClampNeg) (xs ((0 : Int32) + (2 : Int32)).toNatClampNeg)).bind fun r100 => if r99.1 = r100.1 then (b_L_law_1517 6 xs rec r100.2 (0 : Int32)) else (some ((0 : Int32), r100.2)) else none else none else none else none)), (25, (if vin ((0 : Int32) + (1 : Int32)) 6 then (f_X11_fold q (xs ((0 : Int32) + (1 : Int32)).toNatClampNeg)).bind fun r103 => if vin ((0 : Int32) + (1 : Int32)) 6 then (f_X12_fold r103.2 (xs ((0 : Int32) + (1 : Int32)).toNatClampNeg)).bind fun r104 => if r103.1 = r104.1 then (b_L_law_1517 6 xs rec r104.2 (0 : Int32)) else (some ((0 : Int32), r104.2)) else none else none)), (26, ((f_X11_hour q).bind fun r107 => (f_X12_hour r107.2).bind fun r108 => if r107.1 = r108.1 then (b_L_law_1517 6 xs rec r108.2 (0 : Int32)) else (some ((0 : Int32), r108.2)))), (27, (if vin ((0 : Int32) + (1 : Int32)) 6 then (f_X11_led q (xs ((0 : Int32) + (1 : Int32)).toNatClampNeg)).bind fun r111 => if vin ((0 : Int32) + (1 : Int32)) 6 then (f_X12_led q (xs ((0 : Int32) + (1 : Int32)).toNatClampNeg)).bind fun r112 => if r111 = r112 then (b_L_law_1517 6 xs rec q (0 : Int32)) else (some ((0 : Int32), q)) else none else none)), (28, ((f_X11_image q).bind fun r115 => (f_X12_image r115.2).bind fun r116 => if r115.1 = r116.1 then (b_L_law_1517 6 xs rec r116.2 (0 : Int32)) else (some ((0 : Int32), r116.2)))), (29, ((f_X11_back q).bind fun r119 => (f_X12_back r119.2).bind fun r120 => if r119.1 = r120.1 then (b_L_law_1517 6 xs rec r120.2 (0 : Int32)) else (some ((0 : Int32), r120.2)))), (30, ((f_X11_undo q).bind fun r123 => (f_X12_undo r123.2).bind fun r124 => if r123.1 = r124.1 then (b_L_law_1517 6 xs rec r124.2 (0 : Int32)) else (some ((0 : Int32), r124.2)))), (31, ((f_X11_redo q).bind fun r127 => (f_X12_redo r127.2).bind fun r128 => if r127.1 = r128.1 then (b_L_law_1517 6 xs rec r128.2 (0 : Int32)) else (some ((0 : Int32), r128.2)))), (32, (if vin ((0 : Int32) + (1 : Int32)) 6 then (f_X11_body q (xs ((0 : Int32) + (1 : Int32)).toNatClampNeg)).bind fun r131 => if vin ((0 : Int32) + (1 : Int32)) 6 then (f_X12_body r131.2 (xs ((0 : Int32) + (1 : Int32)).toNatClampNeg)).bind fun r132 => if r131.1 = r132.1 then (b_L_law_1517 6 xs rec r132.2 (0 : Int32)) else (some ((0 : Int32), r132.2)) else none else none)), (33, (if vin ((0 : Int32) + (1 : Int32)) 6 then if vin ((0 : Int32) + (2 : Int32)) 6 then if vin ((0 : Int32) + (3 : Int32)) 6 then (f_X11_act q (xs ((0 : Int32) + (1 : Int32)).toNatClampNeg) (xs ((0 : Int32) + (2 : Int32)).toNatClampNeg) (xs ((0 : Int32) + (3 : Int32)).toNatClampNeg)).bind fun r135 => if vin ((0 : Int32) + (1 : Int32)) 6 then if vin ((0 : Int32) + (2 : Int32)) 6 then if vin ((0 : Int32) + (3 : Int32)) 6 then (f_X12_act r135.2 (xs ((0 : Int32) + (1 : Int32)).toNatClampNeg) (xs ((0 : Int32) + (2 : Int32)).toNatClampNeg) (xs ((0 : Int32) + (3 : Int32)).toNatClampNeg)).bind fun r136 => if r135.1 = r136.1 then (b_L_law_1517 6 xs rec r136.2 (0 : Int32)) else (some ((0 : Int32), r136.2)) else none else none else none else none else none else none)), (34, (if vin ((0 : Int32) + (1 : Int32)) 6 then (f_X11_trace q (xs ((0 : Int32) + (1 : Int32)).toNatClampNeg)).bind fun r139 => if vin ((0 : Int32) + (1 : Int32)) 6 then (f_X12_trace q (xs ((0 : Int32) + (1 : Int32)).toNatClampNeg)).bind fun r140 => if r139 = r140 then (b_L_law_1517 6 xs rec q (0 : Int32)) else (some ((0 : Int32), q)) else none else none)), (35, (if vin ((0 : Int32) + (1 : Int32)) 6 then if vin ((0 : Int32) + (2 : Int32)) 6 then (f_X11_keep q (xs ((0 : Int32) + (1 : Int32)).toNatClampNeg) (xs ((0 : Int32) + (2 : Int32)).toNatClampNeg)).bind fun r143 => if vin ((0 : Int32) + (1 : Int32)) 6 then if vin ((0 : Int32) + (2 : Int32)) 6 then (f_X12_keep r143.2 (xs ((0 : Int32) + (1 : Int32)).toNatClampNeg) (xs ((0 : Int32) + (2 : Int32)).toNatClampNeg)).bind fun r144 => if r143.1 = r144.1 then (b_L_law_1517 6 xs rec r144.2 (0 : Int32)) else (some ((0 : Int32), r144.2)) else none else none else none else none)), (36, (if vin ((0 : Int32) + (1 : Int32)) 6 then if vin ((0 : Int32) + (2 : Int32)) 6 then if vin ((0 : Int32) + (3 : Int32)) 6 then (f_X11_row q (xs ((0 : Int32) + (1 : Int32)).toNatClampNeg) (xs ((0 : Int32) + (2 : Int32)).toNatClampNeg) (xs ((0 : Int32) + (3 : Int32)).toNatClampNeg)).bind fun r147 => if vin ((0 : Int32) + (1 : Int32)) 6 then if vin ((0 : Int32) + (2 : Int32)) 6 then if vin ((0 : Int32) + (3 : Int32)) 6 then (f_X12_row r147.2 (xs ((0 : Int32) + (1 : Int32)).toNatClampNeg) (xs ((0 : Int32) + (2 : Int32)).toNatClampNeg) (xs ((0 : Int32) + (3 : Int32)).toNatClampNeg)).bind fun r148 => if r147.1 = r148.1 then (b_L_law_1517 6 xs rec r148.2 (0 : Int32)) else (some ((0 : Int32), r148.2)) else none else none else none else none else none else none)), (37, (if vin ((0 : Int32) + (1 : Int32)) 6 then if vin ((0 : Int32) + (2 : Int32)) 6 then if vin ((0 : Int32) + (3 : Int32)) 6 then if vin ((0 : Int32) + (4 : Int32)) 6 then (f_X11_put q (xs ((0 : Int32) + (1 : Int32)).toNatClampNeg) (xs ((0 : Int32) + (2 : Int32)).toNatClampNeg) ((jlshl ((xs ((0 : Int32) + (3 : Int32)).toNatClampNeg).toInt64) (32 : Int32)) ||| (((xs ((0 : Int32) + (4 : Int32)).toNatClampNeg).toInt64) &&& (4294967295 : Int64)))).bind fun r151 => if vin ((0 : Int32) + (1 : Int32)) 6 then if vin ((0 : Int32) + (2 : Int32)) 6 then if vin ((0 : Int32) + (3 : Int32)) 6 then if vin ((0 : Int32) + (4 : Int32)) 6 then (f_X12_put r151.2 (xs ((0 : Int32) + (1 : Int32)).toNatClampNeg) (xs ((0 : Int32) + (2 : Int32)).toNatClampNeg) ((jlshl ((xs ((0 : Int32) + (3 : Int32)).toNatClampNeg).toInt64) (32 : Int32)) ||| (((xs ((0 : Int32) + (4 : Int32)).toNatClampNeg).toInt64) &&& (4294967295 : Int64)))).bind fun r152 => if r151.1 = r152.1 then (b_L_law_1517 6 xs rec r152.2 (0 : Int32)) else (some ((0 : Int32), r152.2)) else none else none else none else none else none else none else none else none)), (38, (if vin ((0 : Int32) + (1 : Int32)) 6 then if vin ((0 : Int32) + (2 : Int32)) 6 then (f_X11_element q (xs ((0 : Int32) + (1 : Int32)).toNatClampNeg) (xs ((0 : Int32) + (2 : Int32)).toNatClampNeg)).bind fun r155 => if vin ((0 : Int32) + (1 : Int32)) 6 then if vin ((0 : Int32) + (2 : Int32)) 6 then (f_X12_element q (xs ((0 : Int32) + (1 : Int32)).toNatClampNeg) (xs ((0 : Int32) + (2 : Int32)).toNatClampNeg)).bind fun r156 => if (lg_cmp r155 r156) = 0 then (b_L_law_1517 6 xs rec q (0 : Int32)) else (some ((0 : Int32), q)) else none else none else none else none)), (39, (if vin ((0 : Int32) + (1 : Int32)) 6 then if vin ((0 : Int32) + (2 : Int32)) 6 then if vin ((0 : Int32) + (3 : Int32)) 6 then if vin ((0 : Int32) + (4 : Int32)) 6 then if vin ((0 : Int32) + (5 : Int32)) 6 then (f_X11_shift q (xs ((0 : Int32) + (1 : Int32)).toNatClampNeg) (xs ((0 : Int32) + (2 : Int32)).toNatClampNeg) (xs ((0 : Int32) + (3 : Int32)).toNatClampNeg) (xs ((0 : Int32) + (4 : Int32)).toNatClampNeg) (xs ((0 : Int32) + (5 : Int32)).toNatClampNeg)).bind fun r159 => if vin ((0 : Int32) + (1 : Int32)) 6 then if vin ((0 : Int32) + (2 : Int32)) 6 then if vin ((0 : Int32) + (3 : Int32)) 6 then if vin ((0 : Int32) + (4 : Int32)) 6 then if vin ((0 : Int32) + (5 : Int32)) 6 then (f_X12_shift r159.2 (xs ((0 : Int32) + (1 : Int32)).toNatClampNeg) (xs ((0 : Int32) + (2 : Int32)).toNatClampNeg) (xs ((0 : Int32) + (3 : Int32)).toNatClampNeg) (xs ((0 : Int32) + (4 : Int32)).toNatClampNeg) (xs ((0 : Int32) + (5 : Int32)).toNatClampNeg)).bind fun r160 => if r159.1 = r160.1 then (b_L_law_1517 6 xs rec r160.2 (0 : Int32)) else (some ((0 : Int32), r160.2)) else none else none else none else none else none else none else none else none else none else none)), (40, (if vin ((0 : Int32) + (1 : Int32)) 6 then if vin ((0 : Int32) + (2 : Int32)) 6 then (f_X11_taken q (xs ((0 : Int32) + (1 : Int32)).toNatClampNeg) (xs ((0 : Int32) + (2 : Int32)).toNatClampNeg)).bind fun r163 => if vin ((0 : Int32) + (1 : Int32)) 6 then if vin ((0 : Int32) + (2 : Int32)) 6 then (f_X12_taken q (xs ((0 : Int32) + (1 : Int32)).toNatClampNeg) (xs ((0 : Int32) + (2 : Int32)).toNatClampNeg)).bind fun r164 => if r163 = r164 then (b_L_law_1517 6 xs rec q (0 : Int32)) else (some ((0 : Int32), q)) else none else none else none else none)), (41, (if vin ((0 : Int32) + (1 : Int32)) 6 then (f_X11_count q (xs ((0 : Int32) + (1 : Int32)).toNatClampNeg)).bind fun r167 => if vin ((0 : Int32) + (1 : Int32)) 6 then (f_X12_count q (xs ((0 : Int32) + (1 : Int32)).toNatClampNeg)).bind fun r168 => if r167 = r168 then (b_L_law_1517 6 xs rec q (0 : Int32)) else (some ((0 : Int32), q)) else none else none))] (b_L_law_1517 6 xs rec q (0 : Int32))) (fun r => r.1 = 1) := by
  have v1 : vin ((0 : Int32) + 1) 6 := by decide
  have v2 : vin ((0 : Int32) + 2) 6 := by decide
  have v3 : vin ((0 : Int32) + 3) 6 := by decide
  have v4 : vin ((0 : Int32) + 4) 6 := by decide
  have v5 : vin ((0 : Int32) + 5) 6 := by decide
  simp only [if_pos v1, if_pos v2, if_pos v3, if_pos v4, if_pos v5]
  unfold nm
  refine T_sw (T_cI (opB (g := fun r => f_X12_person r _) hM (x_person hX _) (fun r hr => m_person hr _)) (fun _ _ => hrec _)) ?_
  refine T_sw (T_cI (opA hM (x_ticket hX _ _) (fun r hr => m_ticket hr _ _)) (fun _ _ => hrec _)) ?_
  refine T_sw (T_cI (opA hM (x_tickets hX _ _ _) (fun r hr => m_tickets hr _ _ _)) (fun _ _ => hrec _)) ?_
  refine T_sw (T_cI (op_mend hq hX hM _ _ _) (fun _ _ => hrec _)) ?_
  refine T_sw (T_cI (op_of hq hX hM _ _) (fun _ _ => hrec _)) ?_
  refine T_sw (T_cI (opB (g := fun r => f_X12_feed r _) hM (x_feed hX _) (fun r hr => m_feed hr _)) (fun _ _ => hrec _)) ?_
  refine T_sw (T_cI (by rw [hq]; exact ch0_T c_law) (fun _ _ => hrec _)) ?_
  refine T_sw (T_cI (opA hM (x_odds hX _) (fun r hr => m_odds hr _)) (fun _ _ => hrec _)) ?_
  refine T_sw (T_cI (opA hM (x_later hX _ _ _) (fun r hr => m_later hr _ _ _)) (fun _ _ => hrec _)) ?_
  refine T_sw (T_cI (opA hM (x_eve hX _ _ _) (fun r hr => m_eve hr _ _ _)) (fun _ _ => hrec _)) ?_
  refine T_sw (T_cL (opA hM (x_likely hX _ _ _) (fun r hr => m_likely hr _ _ _)) (fun _ _ => hrec _)) ?_
  refine T_sw (T_cL (opA hM (x_all hX _ _) (fun r hr => m_all hr _ _)) (fun _ _ => hrec _)) ?_
  refine T_sw (T_cL (opA hM (x_king hX _ _) (fun r hr => m_king hr _ _)) (fun _ _ => hrec _)) ?_
  refine T_sw (T_cI (by rw [hq]; exact ch0_T c_safe) (fun _ _ => hrec _)) ?_
  refine T_sw (T_cI (by rw [hq]; exact ch0_T c_likeliest) (fun _ _ => hrec _)) ?_
  refine T_sw (T_cI (opA hM (x_watch hX _) (fun r hr => m_watch hr _)) (fun _ _ => hrec _)) ?_
  refine T_sw (T_cL (opA hM (x_rid hX _ _ _) (fun r hr => m_rid hr _ _ _)) (fun _ _ => hrec _)) ?_
  refine T_sw (T_cI (opA hM (x_first hX _ _) (fun r hr => m_first hr _ _)) (fun _ _ => hrec _)) ?_
  refine T_sw (T_cI (opA hM (x_hire hX _ _ _) (fun r hr => m_hire hr _ _ _)) (fun _ _ => hrec _)) ?_
  refine T_sw (T_cI (opA hM (x_friend hX _ _) (fun r hr => m_friend hr _ _)) (fun _ _ => hrec _)) ?_
  refine T_sw (T_cI (opA hM (x_share hX _ _) (fun r hr => m_share hr _ _)) (fun _ _ => hrec _)) ?_
  refine T_sw (T_cI (by rw [hq]; exact ch0_T c_half) (fun _ _ => hrec _)) ?_
  refine T_sw (T_cI (opA hM (x_behind hX _ _ _) (fun r hr => m_behind hr _ _ _)) (fun _ _ => hrec _)) ?_
  refine T_sw (T_cI (opB (g := fun r => f_X12_drawn r _ _ _) hM (x_drawn hX _ _ _) (fun r hr => m_drawn hr _ _ _)) (fun _ _ => hrec _)) ?_
  refine T_sw (T_cI (opA hM (x_slip hX _ _) (fun r hr => m_slip hr _ _)) (fun _ _ => hrec _)) ?_
  refine T_sw (T_cI (opA hM (x_fold hX _) (fun r hr => m_fold hr _)) (fun _ _ => hrec _)) ?_
  refine T_sw (T_cI (by rw [hq]; exact ch0_T c_hour) (fun _ _ => hrec _)) ?_
  refine T_sw (T_ci (opP (T_of (x_led hX _) rfl) (m_led hM _)) (fun _ _ => hrec _)) ?_
  refine T_sw (T_cI (by rw [hq]; exact ch0_T c_image) (fun _ _ => hrec _)) ?_
  refine T_sw (T_cI (by rw [hq]; exact ch0_T c_back) (fun _ _ => hrec _)) ?_
  refine T_sw (T_cI (by rw [hq]; exact ch0_T c_undo) (fun _ _ => hrec _)) ?_
  refine T_sw (T_cI (by rw [hq]; exact ch0_T c_redo) (fun _ _ => hrec _)) ?_
  refine T_sw (T_cI (opB (g := fun r => f_X12_body r _) hM (x_body hX _) (fun r hr => m_body hr _)) (fun _ _ => hrec _)) ?_
  refine T_sw (T_cI (opB (g := fun r => f_X12_act r _ _ _) hM (x_act hX _ _ _) (fun r hr => m_act hr _ _ _)) (fun _ _ => hrec _)) ?_
  refine T_sw (T_ci (opP (T_of (x_trace hX _) rfl) (m_trace hM _)) (fun _ _ => hrec _)) ?_
  refine T_sw (T_cI (opB (g := fun r => f_X12_keep r _ _) hM (x_keep hX _ _) (fun r hr => m_keep hr _ _)) (fun _ _ => hrec _)) ?_
  refine T_sw (T_cI (opB (g := fun r => f_X12_row r _ _ _) hM (x_row _ _ _) (fun r hr => m_row _ _ _)) (fun _ _ => hrec _)) ?_
  refine T_sw (T_cI (opA hM (x_put hX _ _ _) (fun r hr => m_put hr _ _ _)) (fun _ _ => hrec _)) ?_
  refine T_sw (T_cl (opP (T_of (x_element hX _ _) rfl) (m_element hM _ _)) (fun _ _ => hrec _)) ?_
  refine T_sw (T_cI (opA hM (x_shift hX _ _ _ _ _) (fun r hr => m_shift hr _ _ _ _ _)) (fun _ _ => hrec _)) ?_
  refine T_sw (T_ci (opP (T_of (x_taken hX _ _) rfl) (m_taken hM _ _)) (fun _ _ => hrec _)) ?_
  refine T_sw (T_ci (opP (x_count hX _) (m_count hM _)) (fun _ _ => hrec _)) ?_
  exact hrec _
theorem law_fresh {L : Nat} (hL : L ≤ 6) (xs : Nat → Int32) : ∃ q', f_L_law L xs (qof σM) 0 = some (1, q') := by
  have key : ∀ q0 : SS, q0 = qof σM → FX q0 → FM q0 → T (f_L_law L xs q0 0) (fun r => r.1 = 1) := by
    intro q0 hq hX hM
    unfold f_L_law b_L_law_18
    refine T_fx2 (fun q l => (q = q0 ∧ l = 0) ∨ (L = 6 ∧ l = 6)) (fun _ l => if l = 0 then 1 else 0) ?_ _ _ _ (Or.inl ⟨rfl, rfl⟩) (by decide)
    rintro rec q l (⟨rfl, rfl⟩ | ⟨rfl, rfl⟩) hrec
    · by_cases h6 : L = 6
      · subst h6
        rw [if_neg (show ¬ Int32.ofNat 6 - 6 < 0 by decide), if_pos (show vin 0 6 by decide)]
        exact law_sw hq hX hM (fun q => hrec q 6 (Or.inr ⟨rfl, rfl⟩) (by decide))
      · have h5 : L = 0 ∨ L = 1 ∨ L = 2 ∨ L = 3 ∨ L = 4 ∨ L = 5 := by omega
        rw [if_pos (by rcases h5 with rfl | rfl | rfl | rfl | rfl | rfl <;> decide)]
        exact T_some.mpr rfl
    · rw [if_pos (show Int32.ofNat 6 - 6 < 6 by decide)]
      exact T_some.mpr rfl
  obtain ⟨r, h1, h2⟩ := key _ rfl fx_0 fm_0
  obtain ⟨v, q'⟩ := r
  have h2 : v = 1 := h2
  subst h2
  exact ⟨q', h1⟩

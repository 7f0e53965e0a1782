/-! ===== a text taken over, and how it is laid on either side ===== -/
theorem lineAl_lt {A W A' W' : Nat → Int32} {c c' : Nat} {s t e : Int} (h : lineAl A W c c' A' W' s t e) : c < c' := by
  rcases h with ⟨_, _, _, h⟩ | ⟨_, _, _, _, _, h⟩
  · omega
  · omega
theorem segAl_c {A W A2 W2 A' W' A2' W2' : Nat → Int32} {c : Nat} {s e u : Int} (h : segAl A W c A' W' (u + s) (u + e)) (h0 : 0 ≤ s) (hu : 0 ≤ u) (hA : ∀ k : Nat, (k : Int) < c + (e - s) → A2 k = A k ∧ W2 k = W k) (hB : ∀ k : Nat, (k : Int) < e → A2' k = A' (u.toNat + k) ∧ W2' k = W' (u.toNat + k)) : segAl A2 W2 c A2' W2' s e := fun k hk => by
  have a := h k (by omega)
  have b := hA (c + k) (by omega)
  have d := hB (s.toNat + k) (by omega)
  rw [b.1, b.2, d.1, d.2, show u.toNat + (s.toNat + k) = (u + s).toNat + k by omega]
  exact a
theorem lineAl_c {A W A2 W2 A' W' A2' W2' : Nat → Int32} {c c' : Nat} {s t e u : Int} (h : lineAl A W c c' A' W' (u + s) (u + t) (u + e)) (h0 : 0 ≤ s) (st : s ≤ t) (te : t ≤ e) (hu : 0 ≤ u) (hA : ∀ k : Nat, k < c' → A2 k = A k ∧ W2 k = W k) (hB : ∀ k : Nat, (k : Int) < e → A2' k = A' (u.toNat + k) ∧ W2' k = W' (u.toNat + k)) : lineAl A2 W2 c c' A2' W2' s t e := by
  have e1 : u + e - (u + s) = e - s := by omega
  have e2 : u + t - (u + s) = t - s := by omega
  have e3 : u + e - (u + t) = e - t := by omega
  unfold lineAl at h ⊢
  rw [e1, e2, e3] at h
  rcases h with ⟨h1, h2, h3, h4⟩ | ⟨h1, h2, h3, h4, h5, h6⟩
  · refine Or.inl ⟨by omega, segAl_c h2 h0 hu (fun k hk => hA k (by omega)) hB, ?_, h4⟩
    rw [(hA _ (by omega)).1]
    exact h3
  · refine Or.inr ⟨by omega, segAl_c h2 h0 hu (fun k hk => hA k (by omega)) (fun k hk => hB k (by omega)), ?_, segAl_c h4 (by omega) hu (fun k hk => hA k (by omega)) hB, ?_, h6⟩
    · rw [(hA _ (by omega)).1]
      exact h3
    · rw [(hA _ (by omega)).1]
      exact h5
def LNA (y s : SS) (m : Nat) : Prop := 0 < (y.1 19 4).toInt ∧ (y.1 19 4).toInt ≤ 121 ∧ ∃ cs : Nat → Nat, cs 0 = 0 ∧ (cs m : Int) = (y.1 19 4).toInt ∧ (∀ l : Nat, l ≤ m → (cs l : Int) ≤ (y.1 19 4).toInt) ∧ ∀ l : Nat, l < m → lineAl (y.1 20) (y.1 21) (cs l) (cs (l + 1)) (s.1 74) (s.1 75) (130 + stU s l) (130 + (s.1 77 (61 + l)).toInt) (130 + (s.1 78 (61 + l)).toInt)
theorem stU_c {s z : SS} {m l : Nat} (h : ∀ l : Nat, l < m → s.1 78 (61 + l) = z.1 78 (61 + l)) (hl : l ≤ m) : stU s l = stU z l := by
  unfold stU
  by_cases c : l = 0
  · rw [if_pos c, if_pos c]
  · rw [if_neg c, if_neg c, h (l - 1) (by omega)]
theorem LNA_step {y z r s : SS} {m : Nat} {cs : Nat → Nat} (c0 : cs 0 = 0) (cm : (cs m : Int) = (y.1 19 4).toInt) (cle : ∀ l : Nat, l ≤ m → (cs l : Int) ≤ (y.1 19 4).toInt) (hl : ∀ l : Nat, l < m → lineAl (y.1 20) (y.1 21) (cs l) (cs (l + 1)) (z.1 74) (z.1 75) (130 + stU z l) (130 + (z.1 77 (61 + l)).toInt) (130 + (z.1 78 (61 + l)).toInt)) (L : LN z m) (X : LX y z m r s) (L2 : LN s (m + 1)) : LNA r s (m + 1) := by
  obtain ⟨x1, x2, x3, x4, x5, x6⟩ := X
  obtain ⟨_, L2s, _, _⟩ := L2
  have e78 : (s.1 78 (61 + m)).toInt = (s.1 60 22).toInt := by
    have : stU s (m + 1) = (s.1 78 (61 + m)).toInt := by
      unfold stU
      rw [if_neg (by omega)]
      rfl
    rw [← this]
    exact L2s
  have lt := lineAl_lt x4
  refine ⟨x5, x6, fun l => if l ≤ m then cs l else (r.1 19 4).toInt.toNat, ?_, ?_, fun l hlm => ?_, fun l hlm => ?_⟩
  · show (if 0 ≤ m then cs 0 else _) = 0
    rw [if_pos (Nat.zero_le _), c0]
  · show (((if m + 1 ≤ m then cs (m + 1) else (r.1 19 4).toInt.toNat) : Nat) : Int) = _
    rw [if_neg (by omega)]
    omega
  · show (((if l ≤ m then cs l else (r.1 19 4).toInt.toNat) : Nat) : Int) ≤ _
    by_cases c : l ≤ m
    · rw [if_pos c]
      have := cle l c
      omega
    · rw [if_neg c]
      omega
  · show lineAl (r.1 20) (r.1 21) (if l ≤ m then cs l else (r.1 19 4).toInt.toNat) (if l + 1 ≤ m then cs (l + 1) else (r.1 19 4).toInt.toNat) _ _ _ _ _
    rw [if_pos (by omega)]
    by_cases c : l < m
    · rw [if_pos (by omega)]
      have b := L.2.2.2 l c
      obtain ⟨b1, b2, b3, b4, _⟩ := b
      have t := cle (l + 1) (by omega)
      rw [stU_c (fun j hj => (x3 j hj).2) (by omega : l ≤ m), (x3 l c).1, (x3 l c).2]
      have hh := hl l c
      refine lineAl_c (u := 0) (s := 130 + stU z l) (t := 130 + (z.1 77 (61 + l)).toInt) (e := 130 + (z.1 78 (61 + l)).toInt) (by rw [Int.zero_add, Int.zero_add, Int.zero_add]; exact hh) (by omega) (by omega) (by omega) (by omega) (fun k hk => x1 k (by omega)) (fun k hk => ?_)
      have := x2 k (by omega)
      rw [show (0 : Int).toNat + k = k by omega]
      exact this
    · obtain rfl : l = m := by omega
      rw [if_neg (by omega), stU_c (fun j hj => (x3 j hj).2) (Nat.le_refl l), L.2.1, e78]
      have e : cs l = (y.1 19 4).toInt.toNat := by omega
      rw [e]
      exact x4
def LNF (y s : SS) : Prop := 0 < (y.1 19 4).toInt ∧ (y.1 19 4).toInt ≤ 121 ∧ ∃ cs : Nat → Nat, cs 0 = 0 ∧ (cs (s.1 76 0).toInt.toNat : Int) = (y.1 19 4).toInt ∧ ∀ l : Nat, (l : Int) < (s.1 76 0).toInt → lineAl (y.1 20) (y.1 21) (cs l) (cs (l + 1)) (s.1 74) (s.1 75) (sLo s l) (s.1 77 l).toInt (s.1 78 l).toInt
theorem m_105x {y : SS} {m : Nat} (L : LN y m) (h0 : 0 ≤ (y.1 60 22).toInt) (h121 : (y.1 60 22).toInt ≤ 121) (hm : m ≤ 60) : T (b_X12_readText_105 y 0 0) (fun r => r.1 = -1 ∧ (r.2.1 76 0).toInt = (m : Int) ∧ (∀ l : Nat, l < m → r.2.1 77 l = y.1 77 (61 + l) ∧ r.2.1 78 l = y.1 78 (61 + l)) ∧ ∀ k : Nat, (k : Int) < (y.1 60 22).toInt → r.2.1 74 k = y.1 74 (130 + k) ∧ r.2.1 75 k = y.1 75 (130 + k)) := by
  have l130 : (130 : Int32).toInt = 130 := rfl
  have z0 : (0 : Int32).toNatClampNeg = 0 := rfl
  have z1 : (1 : Int32).toNatClampNeg = 1 := rfl
  unfold b_X12_readText_105
  refine T_fx3 (fun w l1 l2 => l1 = 0 ∧ 0 ≤ l2.toInt ∧ l2.toInt ≤ (y.1 60 22).toInt ∧ Fr (fun k _ => k == 74 || k == 75) v0 y w ∧ (∀ k : Nat, 130 ≤ k → w.1 74 k = y.1 74 k ∧ w.1 75 k = y.1 75 k) ∧ (∀ k : Nat, (k : Int) < l2.toInt → w.1 74 k = y.1 74 (130 + k) ∧ w.1 75 k = y.1 75 (130 + k))) (fun _ _ l2 => ((y.1 60 22).toInt - l2.toInt).toNat) ?_ _ _ _ _ ⟨rfl, by decide, h0, Fr_refl y, fun k _ => ⟨rfl, rfl⟩, fun l hl => absurd hl (by show ¬ ((l : Int) < 0); omega)⟩ (by have : (0 : Int32).toInt = 0 := rfl; unfold FU; omega)
  rintro rec w l1 l2 ⟨rfl, h1, h2, hf, hu, hl⟩ hr
  have w22 : w.1 60 22 = y.1 60 22 := hf.1 60 22 rfl
  rw [w22]
  refine T_le (fun le => T_p (by decide) (T_p (by decide) (T_nm ?_))) (fun lt => ?_)
  · have w76 : w.1 76 1 = y.1 76 1 := hf.1 76 1 rfl
    rw [z0, z1, w76]
    have f8 : Fr w6 v0 y (sI w 76 0 (y.1 76 1)) := Fr_sI (Fr_le hf (fun k i e => by
      unfold w6 at e
      simp only [Bool.or_eq_false_iff] at e
      show (k == 74 || k == 75) = false
      rw [e.1.1.1.1, e.1.1.1.2]
      rfl) (fun _ h => h)) rfl
    have a76 : ((sI w 76 0 (y.1 76 1)).1 76 0).toInt = (m : Int) := L.1
    refine T_mono (m_177 (z := sI w 76 0 (y.1 76 1)) L h121 hm a76 ((sI_ro (by decide)).trans (Fr_r hf fun _ => rfl)) ((sI_ro (by decide)).trans (Fr_r hf fun _ => rfl))) (fun r hr7 => ?_)
    obtain ⟨r1, r2, r3, r4⟩ := hr7
    refine ⟨r1, ?_, fun l hl => ⟨r3 l hl, r4 l hl⟩, fun k hk => ?_⟩
    · rw [r2.1 76 0 rfl]
      exact a76
    · rw [Fr_r r2 (k := 74) (fun _ => rfl), Fr_r r2 (k := 75) (fun _ => rfl), sI_ro (by decide), sI_ro (by decide)]
      exact hl k (by omega)
  · have i130 : ((130 : Int32) + l2).toInt = 130 + l2.toInt := by rw [tadd (by omega) (by omega), l130]
    have n130 : ((130 : Int32) + l2).toNatClampNeg = 130 + l2.toInt.toNat := by
      show ((130 : Int32) + l2).toInt.toNat = _
      omega
    have n0 : l2.toNatClampNeg = l2.toInt.toNat := rfl
    rw [Int32.mul_zero, Int32.zero_add]
    have u := hu (130 + l2.toInt.toNat) (by omega)
    have x74 : (w.1 74 (130 + l2.toInt.toNat)).toInt8.toInt32 = y.1 74 (130 + l2.toInt.toNat) := by rw [u.1, L.2.2.1 _ (by omega) (by omega)]
    refine T_vp (by omega) (by omega) (T_vp (by omega) (by omega) (T_nm (T_vp (by omega) (by omega) (T_vp (by omega) (by omega) (T_nm ?_)))))
    rw [n130, n0, x74]
    have s75 : (sI w 74 l2.toInt.toNat (y.1 74 (130 + l2.toInt.toNat))).1 75 = w.1 75 := sI_ro (by decide)
    rw [s75, u.2]
    have i := inc1 (a := l2) (by omega) (by omega)
    refine hr _ _ _ ⟨rfl, by omega, by omega, Fr_sI (Fr_sI hf rfl) rfl, fun k hk => ?_, fun l h => ?_⟩ (by omega)
    · rw [sI_ro (by decide), sI_rd, if_neg (fun c => by have := c.2; omega), sI_rd, if_neg (fun c => by have := c.2; omega), s75]
      exact hu k hk
    · rw [sI_ro (by decide), sI_rd, sI_rd, s75]
      by_cases c : l = l2.toInt.toNat
      · rw [if_pos ⟨rfl, c⟩, if_pos ⟨rfl, c⟩, c]
        exact ⟨rfl, rfl⟩
      · rw [if_neg (fun h => c h.2), if_neg (fun h => c h.2)]
        exact hl l (by omega)
theorem m_86x {y1 s : SS} {m : Nat} (e : EN s) (L : LN s m) (hm : 2 * (m : Int) ≤ (s.1 60 19).toInt + 1) (N : LNA y1 s m) : T (b_X12_readText_86 s 0) (fun r => r.1 = -1 ∧ LNF y1 r.2) := by
  obtain ⟨e1, e2, e3, e4, e5, e6, _, _⟩ := e
  obtain ⟨n1, n2, cs, c0, cm, cle, hl⟩ := N
  unfold b_X12_readText_86
  refine T_nm (T_p (by show s.1 60 20 < 0; rw [e6]; decide) (T_mono (m_105x (y := sI s 60 18 0) (m := m) L e4 (by show (s.1 60 22).toInt ≤ 121; omega) (by omega)) (fun r hr => ⟨hr.1, n1, n2, cs, c0, ?_, fun l hlm => ?_⟩)))
  · rw [hr.2.1]
    exact cm
  · rw [hr.2.1] at hlm
    obtain ⟨b1, b2, b3, b4, _⟩ := L.2.2.2 l (by omega)
    have x := hr.2.2.1 l (by omega)
    have x77 : r.2.1 77 l = s.1 77 (61 + l) := x.1
    have x78 : r.2.1 78 l = s.1 78 (61 + l) := x.2
    have st : sLo r.2 l = stU s l := by
      unfold sLo stU
      by_cases c : l = 0
      · rw [if_pos c, if_pos c]
      · have z := (hr.2.2.1 (l - 1) (by omega)).2
        have z' : r.2.1 78 (l - 1) = s.1 78 (61 + (l - 1)) := z
        rw [if_neg c, if_neg c, z']
    rw [st, x77, x78]
    exact lineAl_c (u := 130) (hl l (by omega)) b1 b2 b3 (by omega) (fun k _ => ⟨rfl, rfl⟩) (fun k hk => hr.2.2.2 k (by show (k : Int) < (s.1 60 22).toInt; omega))
theorem sim_text2 {q zz : SS} (hT : RT q) (e73 : zz.1 73 = q.1 73) (e18 : zz.1 60 18 = q.1 60 18) : T2 (f_X5_readText q) (f_X12_readText zz 0) (fun r s => r.1 = s.1 ∧ (r.1 = -1 → LNF r.2 s.2)) := by
  have l0 : (0 : Int32).toInt = 0 := rfl
  have l120 : (120 : Int32).toInt = 120 := rfl
  have z1 : (1 : Int32).toNatClampNeg = 1 := rfl
  have t0 := RT_l0 hT
  have t120 := RT_l120 hT
  have tz : (zz.1 60 18).toInt = (q.1 60 18).toInt := congrArg Int32.toInt e18
  unfold f_X5_readText f_X12_readText f_X4_clear
  refine T2_nl (T2_le rfl (T2_nr (T2_nr (T2_nr (T2_nr (T2_pr (by decide) (T2_nr ?_)))))))
  rw [z1]
  have e0 : EN (sI (sI (sI (sI (sI zz 60 19 0) 60 20 (-1)) 60 21 0) 60 22 0) 76 1 0) := ⟨Int.le_refl 0, by show (0 : Int) ≤ (zz.1 60 18).toInt; omega, by show (zz.1 60 18).toInt ≤ 120; omega, Int.le_refl 0, Int.le_refl 0, rfl, Int.le_refl 0, (by decide : (0 : Int) ≤ 6)⟩
  have L0 : LN (sI (sI (sI (sI (sI zz 60 19 0) 60 20 (-1)) 60 21 0) 60 22 0) 76 1 0) 0 := ⟨rfl, rfl, fun k k1 k2 => absurd k2 (by show ¬ ((k : Int) < 130 + 0); omega), fun l hl => absurd hl (by omega)⟩
  have x0 : XL q (sI (sI q 17 3 0) 19 4 0) := ⟨Fr_sI (Fr_sI (Fr_refl q) rfl) rfl, by show (0 : Int) ≤ 0; omega, by show (0 : Int) ≤ 121; omega⟩
  have A0 : AQ q (sI (sI q 17 3 0) 19 4 0) (sI (sI (sI (sI (sI zz 60 19 0) 60 20 (-1)) 60 21 0) 60 22 0) 76 1 0) := ⟨x0, e73, e18, e0, rfl, Int.le_refl 0⟩
  have o0 : (sI (sI (sI (sI (sI zz 60 19 0) 60 20 (-1)) 60 21 0) 60 22 0) 76 1 0).1 60 21 = 0 := rfl
  have h00 : (sI (sI (sI (sI (sI zz 60 19 0) 60 20 (-1)) 60 21 0) 60 22 0) 76 1 0).1 60 19 = 0 := rfl
  generalize (sI (sI (sI (sI (sI zz 60 19 0) 60 20 (-1)) 60 21 0) 60 22 0) 76 1 0) = z5 at e0 L0 A0 o0 h00 ⊢
  have hh0 : (z5.1 60 19).toInt = 0 := congrArg Int32.toInt h00
  refine T2_bb (T2_ar (T2_al (sim_line2 hT A0 o0 L0 (by omega)) (x_readLine x0)) (m_line e0 L0 (by omega))) (fun r3 r6 h6 => ?_)
  obtain ⟨⟨⟨hR, hLX⟩, hX, _⟩, f6, t6, ⟨p60, p61⟩, c6⟩ := h6
  have tq6 : r6.1 60 18 = q.1 60 18 := t6.trans A0.2.2.1
  have e736 : r6.1 73 = q.1 73 := (Fr_r f6 (fun _ => rfl)).trans A0.2.1
  have tz5 : (z5.1 60 18).toInt = (q.1 60 18).toInt := congrArg Int32.toInt A0.2.2.1
  unfold b_X5_readText_19 b_X12_readText_31
  refine T2_fx32 (fun y1 l1 l2 s k1 => k1 = 0 ∧ 0 ≤ l2.toInt ∧ l2.toInt ≤ 120 ∧ XL q y1 ∧ s.1 73 = q.1 73 ∧ s.1 60 18 = q.1 60 18 ∧ 0 ≤ (s.1 60 19).toInt ∧ (s.1 60 19).toInt ≤ (q.1 60 18).toInt ∧ ((s.1 60 20 = -1 ∧ l1 = 1 ∧ y1.1 17 3 = s.1 60 19 ∧ (y1.1 19 4).toInt ≤ (s.1 60 19).toInt + 1 ∧ l2.toInt ≤ (s.1 60 19).toInt ∧ s.1 60 21 = 0 ∧ ∃ m : Nat, (EN s ∧ LN s m ∧ 2 * (m : Int) ≤ (s.1 60 19).toInt + 1) ∧ LNA y1 s m) ∨ (0 ≤ (s.1 60 20).toInt ∧ y1.1 17 3 = s.1 60 20 ∧ (l1 = 0 ∨ (l1 = 1 ∧ dig (CH q (s.1 60 20).toInt)))))) (fun s => ((q.1 60 18).toInt - (s.1 60 19).toInt).toNat) ?_ _ _ _ _ _ _ _ ⟨rfl, by decide, by decide, hX, e736, tq6, by omega, by omega, ?_⟩ (by unfold FU; omega) (by unfold FU; omega)
  · rintro rf rg y1 l1 l2 s k1 ⟨rfl, h20, h2m, hX, e73, e18, p0, p1, hc⟩ hr
    have e17 : (y1.1 17 2).toInt = (q.1 60 18).toInt := congrArg Int32.toInt ((hX.1.1 17 2 rfl).trans (RT_len hT))
    have ts : (s.1 60 18).toInt = (q.1 60 18).toInt := congrArg Int32.toInt e18
    have mx := m_lookE t120 e73 e18 p0
    rcases hc with ⟨hn, rfl, hp, hl, h2h, ho, m, ⟨eN, L, hm⟩, NA⟩ | ⟨w, hp, hf⟩
    · have nw : ¬ (0 : Int32) ≤ s.1 60 20 := by rw [hn]; decide
      have ep : (y1.1 17 3).toInt = (s.1 60 19).toInt := congrArg Int32.toInt hp
      have nx := x_nextE hT hX.1 (by omega)
      rw [ep] at nx
      have cm := CM_q hT p0
      have k59 := CM_eq cm (k := 59) (by decide) (by decide)
      have fin : T2 (b_X5_readText_59 y1 1) (b_X12_readText_64 s 0) (fun r s => r.1 = s.1 ∧ (r.1 = -1 → LNF r.2 s.2)) := by
        unfold b_X5_readText_59 b_X12_readText_64
        refine T2_ql (by decide) (T2_qr nw ?_)
        by_cases lt : (s.1 60 19).toInt < (q.1 60 18).toInt
        · refine T2_pl (Int32.lt_iff_toInt_lt.mpr (by omega)) (T2_qr (fun e => by have := Int32.le_iff_toInt_le.mp e; omega) (T2_re (m_wrE hn) ?_))
          rw [m_86w (by show 0 ≤ (s.1 60 19).toInt; exact p0)]
          exact T2_s ⟨hp, fun e => absurd p0 (by have e' : y1.1 17 3 = -1 := e; rw [← hp, e', m1i]; omega)⟩
        · refine T2_ql (fun e => by have := Int32.lt_iff_toInt_lt.mp e; omega) (T2_pr (Int32.le_iff_toInt_le.mpr (by omega)) ?_)
          obtain ⟨a, ha, hpa⟩ := m_86x eN L hm NA
          exact ⟨_, a, rfl, ha, hpa.1.symm, fun _ => hpa.2⟩
      by_cases g : (120 : Int32) ≤ l2
      · have g' := Int32.le_iff_toInt_le.mp g
        have mN : MH q (s.1 60 19).toInt = -1 := by unfold MH; rw [if_neg (by omega)]
        rw [mN] at mx
        exact T2_pl g (T2_qr nw (T2_re mx (T2_qr (by decide) fin)))
      refine T2_ql g (T2_ql (by decide) (T2_le nx (T2_qr nw (T2_re mx ?_))))
      by_cases c59 : CH q (s.1 60 19).toInt = 59
      · refine T2_pl c59 (T2_pr (k59.mp c59) (T2_nl (T2_nr ?_)))
        have lt : (s.1 60 19).toInt < (q.1 60 18).toInt := by
          by_cases c : (s.1 60 19).toInt < (q.1 60 18).toInt
          · exact c
          · unfold CH at c59
            rw [if_neg c] at c59
            exact absurd c59 (by decide)
        have i := inc1 (a := s.1 60 19) (by omega) (by omega)
        have i2 := inc1 (a := l2) (by omega) (by omega)
        have e20 : EN (sI s 60 19 (s.1 60 19 + 1)) := ⟨by show 0 ≤ (s.1 60 19 + 1).toInt; omega, by show (s.1 60 19 + 1).toInt ≤ (s.1 60 18).toInt; omega, by show (s.1 60 18).toInt ≤ 120; omega, eN.2.2.2.1, by show (s.1 60 22).toInt ≤ (s.1 60 19 + 1).toInt; have := eN.2.2.2.2.1; omega, eN.2.2.2.2.2⟩
        have L20 : LN (sI s 60 19 (s.1 60 19 + 1)) m := L
        have hm2 : 2 * (m : Int) ≤ ((sI s 60 19 (s.1 60 19 + 1)).1 60 19).toInt := by
          show 2 * (m : Int) ≤ (s.1 60 19 + 1).toInt
          omega
        have A' : AQ q (sI y1 17 3 (y1.1 17 3 + 1)) (sI s 60 19 (s.1 60 19 + 1)) := ⟨XL_s hX, e73, e18, e20, congrArg (· + 1) hp, by
          show (y1.1 19 4).toInt ≤ (s.1 60 19 + 1).toInt
          omega⟩
        refine T2_bb (T2_ar (T2_al (sim_line2 hT A' ho L20 hm2) (x_readLine A'.1)) (m_line e20 L20 hm2)) (fun r8 r21 h => ?_)
        obtain ⟨⟨⟨hR, hLX⟩, hX8, _⟩, f8, t8, q8, c8⟩ := h
        have q8' : (s.1 60 19 + 1).toInt ≤ (r21.1 60 19).toInt ∧ (r21.1 60 19).toInt ≤ (s.1 60 18).toInt := q8
        have t8' : r21.1 60 18 = q.1 60 18 := t8.trans e18
        have e738 : r21.1 73 = q.1 73 := (Fr_r f8 (fun _ => rfl)).trans e73
        refine hr _ _ _ _ _ ⟨rfl, by omega, by omega, hX8, e738, t8', by omega, by omega, ?_⟩ (by omega)
        rcases hR with ⟨a1, a2, a3, a4, a5⟩ | h
        · rcases c8 with c | c
          · rw [a1, m1i] at c
            exact absurd c (by omega)
          · obtain ⟨n1, n2, cs, c0, cm, cle, hla⟩ := NA
            exact Or.inl ⟨a1, a2, a3, a4, by omega, a5, m + 1, c, LNA_step c0 cm cle hla L20 (hLX a1) c.2.1⟩
        · exact Or.inr h
      · exact T2_ql c59 (T2_qr (fun e => c59 (k59.mpr e)) fin)
    · have w' : (0 : Int32) ≤ s.1 60 20 := Int32.le_iff_toInt_le.mpr (by rw [l0]; exact w)
      have ep : (y1.1 17 3).toInt = (s.1 60 20).toInt := congrArg Int32.toInt hp
      have nx := x_nextE hT hX.1 (by omega)
      rw [ep] at nx
      have fin : T2 (b_X5_readText_59 y1 l1) (b_X12_readText_64 s 0) (fun r s => r.1 = s.1 ∧ (r.1 = -1 → LNF r.2 s.2)) := by
        unfold b_X5_readText_59 b_X12_readText_64
        refine T2_pr w' ?_
        rw [m_86w w]
        rcases hf with rfl | ⟨rfl, d⟩
        · exact T2_pl rfl (T2_s ⟨hp, fun e => absurd w (by have e' : y1.1 17 3 = -1 := e; rw [← hp, e', m1i]; omega)⟩)
        · have lt : (s.1 60 20).toInt < (q.1 60 18).toInt := by
            by_cases c : (s.1 60 20).toInt < (q.1 60 18).toInt
            · exact c
            · unfold CH at d
              rw [if_neg c] at d
              exact absurd d (by decide)
          exact T2_ql (by decide) (T2_pl (Int32.lt_iff_toInt_lt.mpr (by omega)) (T2_s ⟨hp, fun e => absurd w (by have e' : y1.1 17 3 = -1 := e; rw [← hp, e', m1i]; omega)⟩))
      refine T2_pr w' ?_
      by_cases g : (120 : Int32) ≤ l2
      · exact T2_pl g fin
      · refine T2_ql g ?_
        rcases hf with rfl | ⟨rfl, d⟩
        · exact T2_pl rfl fin
        · exact T2_ql (by decide) (T2_le nx (T2_ql (fun e => by rw [e] at d; exact absurd d (by decide)) fin))
  · rcases hR with ⟨a1, a2, a3, a4, a5⟩ | h
    · rcases c6 with c | c
      · rw [a1, m1i] at c
        exact absurd c (by omega)
      · exact Or.inl ⟨a1, a2, a3, a4, by show (0 : Int) ≤ _; omega, a5, 0 + 1, c, LNA_step (y := sI (sI q 17 3 0) 19 4 0) (z := z5) (cs := fun _ => 0) rfl rfl (fun _ _ => Int.le_refl 0) (fun l hl => absurd hl (by omega)) L0 (hLX a1) c.2.1⟩
    · exact Or.inr h

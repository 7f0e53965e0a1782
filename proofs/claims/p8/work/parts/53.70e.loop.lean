/-! ===== the class's loop beside the model's levels ===== -/
theorem T_un {ρ : Type} {o : Option ρ} {r : ρ} {P : ρ → Prop} (h : T o P) (e : o = some r) : P r := by
  obtain ⟨a, h1, h2⟩ := h
  rw [e] at h1
  cases h1
  exact h2
def FJ (r : GT_X5_readJoined) (rec : SS → Int32 → Int32 → Int32 → Int32 → Int32 → Option (Int32 × SS)) (q : SS) (l1 l2 l3 l4 l5 : Int32) : Option (Int32 × SS) :=
  if (120 : Int32) ≤ l5 then (if l4 = 0 ∨ l4 = 1 then some (l4, q) else none) else (if l4 = 0 then (if l4 = 0 ∨ l4 = 1 then some (l4, q) else none) else ((f_X5_next q).bind fun r2 => (f_X5_levelOf q r2).bind fun r3 => if r3 < l1 then (some ((1 : Int32), q)) else (if r3 ≤ l3 then (nm (sI q 17 3 ((q.1 17 3) + (1 : Int32))) fun q4 => (r.1 q4 (r3 + (1 : Int32)) l2).bind fun r5 => (f_X4_addStep r5.2 r2 (0 : Int32)).bind fun r6 => if r3 = (3 : Int32) then (b_X5_readJoined_97 r rec r6 l1 l2 r5.1 l5 (r3 - (1 : Int32))) else (b_X5_readJoined_97 r rec r6 l1 l2 r5.1 l5 r3)) else (some ((1 : Int32), q)))))
theorem FJ_e (r : GT_X5_readJoined) : b_X5_readJoined_12 r = fx6 (FJ r) FU := rfl
theorem J_end {r : GT_X5_readJoined} {k : Nat} {y : SS} {l1 l2 l3 l5 : Int32} : fx6 (FJ r) (k + 1) y l1 l2 l3 0 l5 = some (0, y) := by
  show FJ r (fx6 (FJ r) k) y l1 l2 l3 0 l5 = _
  unfold FJ
  rw [if_pos (show (0 : Int32) = 0 ∨ (0 : Int32) = 1 from Or.inl rfl), if_pos (show (0 : Int32) = 0 from rfl), ite_self]
theorem J_120 {r : GT_X5_readJoined} {k : Nat} {y : SS} {l1 l2 l3 l5 : Int32} (h : 120 ≤ l5.toInt) : fx6 (FJ r) (k + 1) y l1 l2 l3 1 l5 = some (1, y) := by
  show FJ r (fx6 (FJ r) k) y l1 l2 l3 1 l5 = _
  unfold FJ
  rw [if_pos (show (120 : Int32) ≤ l5 from Int32.le_iff_toInt_le.mpr h), if_pos (show (1 : Int32) = 0 ∨ (1 : Int32) = 1 from Or.inr rfl)]
theorem J_stop {r : GT_X5_readJoined} {k : Nat} {y : SS} {l1 l2 l3 l5 c : Int32} (hc : f_X5_next y = some c) (h : (lvc c).toInt < l1.toInt ∨ l3.toInt < (lvc c).toInt) : fx6 (FJ r) (k + 1) y l1 l2 l3 1 l5 = some (1, y) := by
  show FJ r (fx6 (FJ r) k) y l1 l2 l3 1 l5 = _
  unfold FJ
  rw [if_pos (show (1 : Int32) = 0 ∨ (1 : Int32) = 1 from Or.inr rfl), if_neg (show ¬ (1 : Int32) = 0 by decide), hc, bind_s, x_levelE, bind_s]
  by_cases a : lvc c < l1
  · rw [if_pos a, ite_self]
  · rw [if_neg a]
    have a' := Int32.le_iff_toInt_le.mp (Int32.not_lt.mp a)
    rw [if_neg (show ¬ lvc c ≤ l3 from fun e => by have := Int32.le_iff_toInt_le.mp e; omega), ite_self]
theorem J_op {r : GT_X5_readJoined} {k : Nat} {y : SS} {l1 l2 l3 l5 c : Int32} (hc : f_X5_next y = some c) (h5 : l5.toInt < 120) (h : l1.toInt ≤ (lvc c).toInt ∧ (lvc c).toInt ≤ l3.toInt) : fx6 (FJ r) (k + 1) y l1 l2 l3 1 l5 = (r.1 (sI y 17 3 (y.1 17 3 + 1)) (lvc c + 1) l2).bind fun r5 => (f_X4_addStep r5.2 c 0).bind fun r6 => fx6 (FJ r) k r6 l1 l2 (if lvc c = 3 then 2 else lvc c) r5.1 (l5 + 1) := by
  have l120 : (120 : Int32).toInt = 120 := rfl
  show FJ r (fx6 (FJ r) k) y l1 l2 l3 1 l5 = _
  unfold FJ b_X5_readJoined_97
  rw [if_neg (by rw [Int32.le_iff_toInt_le, l120]; omega), if_neg (show ¬ (1 : Int32) = 0 by decide), hc, bind_s, x_levelE, bind_s, if_neg (by rw [Int32.lt_iff_toInt_lt]; omega), if_pos (Int32.le_iff_toInt_le.mpr h.2)]
  by_cases e : lvc c = 3
  · rw [e]
    rfl
  · simp only [if_neg e]
    rfl
theorem dig_lv {c : Int32} (h : dig c) : lvc c = 0 := by
  rcases lvc_in c with ⟨_, h1⟩ | ⟨_, h1⟩ | ⟨_, h1⟩ | ⟨_, h1⟩ | ⟨_, h1⟩ | h1
  · rcases h1 with rfl | rfl | rfl <;> exact absurd h (by decide)
  · rcases h1 with rfl | rfl <;> exact absurd h (by decide)
  · rcases h1 with rfl | rfl | rfl <;> exact absurd h (by decide)
  · subst h1; exact absurd h (by decide)
  · subst h1; exact absurd h (by decide)
  · exact h1
theorem CM_op {c m : Int32} (h : CM c m) (hl : 1 ≤ (lvc c).toInt) : m = c := by
  rcases h with ⟨h, _⟩ | ⟨h1, h2⟩
  · exact h
  · exfalso
    rcases lvc_in c with ⟨_, h3⟩ | ⟨_, h3⟩ | ⟨_, h3⟩ | ⟨_, h3⟩ | ⟨_, h3⟩ | h3
    · rcases h3 with rfl | rfl | rfl <;> exact absurd h1 (by decide)
    · rcases h3 with rfl | rfl <;> exact absurd h1 (by decide)
    · rcases h3 with rfl | rfl | rfl <;> exact absurd h1 (by decide)
    · subst h3; exact absurd h1 (by decide)
    · subst h3; exact absurd h1 (by decide)
    · rw [h3] at hl; exact absurd hl (by decide)
theorem op8 {c : Int32} (hl : 1 ≤ (lvc c).toInt) : c.toInt8.toInt32 = c ∧ (∀ d : Nat, stepd c 0 (d + 2) = some (d + 1)) := by
  rcases lvc_in c with ⟨_, h3⟩ | ⟨_, h3⟩ | ⟨_, h3⟩ | ⟨_, h3⟩ | ⟨_, h3⟩ | h3
  · rcases h3 with rfl | rfl | rfl <;> exact ⟨by decide, fun d => rfl⟩
  · rcases h3 with rfl | rfl <;> exact ⟨by decide, fun d => rfl⟩
  · rcases h3 with rfl | rfl | rfl <;> exact ⟨by decide, fun d => rfl⟩
  · subst h3; exact ⟨by decide, fun d => rfl⟩
  · subst h3; exact ⟨by decide, fun d => rfl⟩
  · rw [h3] at hl; exact absurd hl (by decide)
theorem al_op {c : Int32} (hl : 1 ≤ (lvc c).toInt) : al c 0 (c.toInt8.toInt32) 0 := by
  rw [(op8 hl).1]
  exact ⟨rfl, Or.inr (Or.inr (Or.inr (Or.inr ⟨rfl, hl⟩)))⟩
theorem x_addT {q y : SS} (h : XL q y) (a b : Int32) : T (f_X4_addStep y a b) (fun r => XL q r ∧ r.1 17 3 = y.1 17 3) := by
  have t := x_addStep h a b
  by_cases c : (y.1 19 4).toInt < 121
  · have e := x_addE a b h.2.1 c
    exact T_of e ⟨T_un t e, rfl⟩
  · have l121 : (121 : Int32).toInt = 121 := rfl
    have e : f_X4_addStep y a b = some y := by
      unfold f_X4_addStep
      rw [if_pos (Int32.le_iff_toInt_le.mpr (by rw [l121]; omega))]
    exact T_of e ⟨h, rfl⟩
theorem SG_ZX {o : Int32} {c : Int} {d : Nat} {q z s : SS} (g : SG o c d z s) (e73 : z.1 73 = q.1 73) (e18 : z.1 60 18 = q.1 60 18) : s.1 73 = q.1 73 ∧ s.1 60 18 = q.1 60 18 := by
  have a : s.1 73 = z.1 73 := Fr_r g.1 (fun _ => rfl)
  exact ⟨a.trans e73, (SG_tp g).trans e18⟩
/-- what stands behind a piece: refused, both unwind -/
theorem sim_w {q y z y6 s6 : SS} {o fl l32 l3 l5 : Int32} {nC b l hi kc km : Nat} (hT : RT q) (hX : XL q y6) (h120 : (q.1 60 18).toInt ≤ 120) (e73 : s6.1 73 = q.1 73) (e18 : s6.1 60 18 = q.1 60 18) (h0 : 0 ≤ (s6.1 60 19).toInt) (hl1 : 1 ≤ l32.toInt) (w : 0 ≤ (s6.1 60 20).toInt) (p : y6.1 17 3 = s6.1 60 20) (f : fl = 0 ∨ (fl = 1 ∧ dig (CH q (s6.1 60 20).toInt))) : T2 (fx6 (FJ (g_X5_readJoined nC)) (kc + 1) y6 l32 o l3 fl l5) (ch b l hi (km + 1) s6) (RQ q y z) := by
  have cm := ch_w (b := b) (l := l) (m_lookE h120 e73 e18 h0) w hi km
  rw [cm]
  rcases f with rfl | ⟨rfl, d⟩
  · rw [J_end]
    exact T2_s (Or.inr ⟨w, p, Or.inl rfl⟩)
  · have e : (y6.1 17 3).toInt = (s6.1 60 20).toInt := congrArg Int32.toInt p
    have nx := x_nextE hT hX.1 (by omega)
    rw [e] at nx
    rw [J_stop nx (Or.inl (by rw [dig_lv d]; show (0 : Int) < _; omega))]
    exact T2_s (Or.inr ⟨w, p, Or.inr ⟨rfl, d⟩⟩)
theorem sim_loop {q y z : SS} {o : Int32} {l nC b : Nat} (hT : RT q) (A : AQ q y z) (ho : z.1 60 21 = o) (hl1 : 1 ≤ l) {l32 : Int32} (e32 : l32.toInt = (l : Int))
    (HJ : ∀ v : Nat, l ≤ v → v ≤ 5 → ∀ (v32 : Int32) (y z : SS), v32.toInt = (v : Int) + 1 → AQ q y z → z.1 60 21 = o → T2 ((g_X5_readJoined nC).1 y v32 o) (MF (g_X12_operand (b + 5 - v)) (v + 1) z) (fun r s => (RQ q y z r s ∧ PX q r) ∧ SG o 0 1 z s)) :
    ∀ (d : Nat) (y1 s : SS) (l3 l5 : Int32) (hi kc km : Nat), XL q y1 → SG o 0 1 z s → s.1 60 20 = -1 → PM y z y1 s → l3.toInt = (hi : Int) → l ≤ hi + 1 → hi ≤ 5 → (q.1 60 18).toInt - (s.1 60 19).toInt ≤ d → d ≤ kc → d ≤ km → d ≤ 999999 → 0 ≤ l5.toInt → l5.toInt ≤ (s.1 60 19).toInt → T2 (fx6 (FJ (g_X5_readJoined nC)) (kc + 1) y1 l32 o l3 1 l5) (ch b l hi (km + 1) s) (RQ q y z) := by
  obtain ⟨b1, b2, b3, b4, b5, b6, b7⟩ := AQ_b A
  have eN : EN z := A.2.2.2.1
  have o0 : 0 ≤ o.toInt ∧ o.toInt ≤ 6 := by
    have := eN.2.2.2.2.2.2
    rw [ho] at this
    exact this
  intro d
  induction d with
  | zero =>
    intro y1 s l3 l5 hi kc km hX hS hn hP hl3 hlh h5 hd _ _ _ h50 h5s
    obtain ⟨e73, e18⟩ := SG_ZX hS A.2.1 A.2.2.1
    have hr0 : 0 ≤ (s.1 60 19).toInt := by have := hS.2.1.1; omega
    have ep : (y1.1 17 3).toInt = (s.1 60 19).toInt := congrArg Int32.toInt hP.1
    have nx := x_nextE hT hX.1 (by omega)
    have mx := m_lookE b3 e73 e18 hr0
    rw [ep] at nx
    have cN : CH q (s.1 60 19).toInt = -1 := by unfold CH; rw [if_neg (by omega)]
    have mN : MH q (s.1 60 19).toInt = -1 := by unfold MH; rw [if_neg (by omega)]
    rw [cN] at nx
    rw [mN] at mx
    rw [J_stop nx (Or.inl (by show (0 : Int) < _; omega)), ch_no mx hi km h5 (fun L h1 h2 => by show (0 : Int) ≠ _; omega)]
    exact T2_s (Or.inl ⟨hn, rfl, hP⟩)
  | succ d ih =>
    intro y1 s l3 l5 hi kc km hX hS hn hP hl3 hlh h5 hd hkc hkm h9 h50 h5s
    obtain ⟨e73, e18⟩ := SG_ZX hS A.2.1 A.2.2.1
    have hr0 : 0 ≤ (s.1 60 19).toInt := by have := hS.2.1.1; omega
    have ep : (y1.1 17 3).toInt = (s.1 60 19).toInt := congrArg Int32.toInt hP.1
    have nx := x_nextE hT hX.1 (by omega)
    have mx := m_lookE b3 e73 e18 hr0
    rw [ep] at nx
    have cm := CM_q hT hr0
    have lv := CM_lvc cm
    by_cases s1 : (lvc (CH q (s.1 60 19).toInt)).toInt < l32.toInt ∨ l3.toInt < (lvc (CH q (s.1 60 19).toInt)).toInt
    · rw [J_stop nx s1, ch_no mx hi km h5 (fun L h1 h2 => by rw [← lv]; omega)]
      exact T2_s (Or.inl ⟨hn, rfl, hP⟩)
    have lt : (s.1 60 19).toInt < (q.1 60 18).toInt := by
      by_cases c : (s.1 60 19).toInt < (q.1 60 18).toInt
      · exact c
      · exfalso
        apply s1
        left
        have cN : CH q (s.1 60 19).toInt = -1 := by unfold CH; rw [if_neg c]
        rw [cN]
        show (0 : Int) < _
        omega
    have mc := CM_op cm (by omega)
    rw [mc] at mx
    generalize hcc : CH q (s.1 60 19).toInt = c at nx cm lv s1 mc mx
    obtain ⟨v, hv⟩ : ∃ v : Nat, (lvc c).toInt = (v : Int) := ⟨(lvc c).toInt.toNat, by omega⟩
    have op := op8 (c := c) (by omega)
    obtain ⟨k', hk1, hk2⟩ := ch_op (b := b) mx hn hv (by omega) (by omega : l ≤ v) hi km (d + 1) (by omega) h5 hkm h9
    rw [J_op nx (by omega) ⟨by omega, by omega⟩, hk2]
    have t3 := SG_tp hS
    have i19 := inc1 (a := s.1 60 19) (by omega) (by omega)
    have hS1 := SG_hr eN hS hn (by rw [e18]; exact lt)
    have e1 : EN (sI s 60 19 (s.1 60 19 + 1)) := SG_EN eN hS1 hn (by decide) o0
    have n3 := SG_nw hS hn
    have b1' : (s.1 60 22).toInt + 0 ≤ (z.1 60 22).toInt + ((s.1 60 19).toInt - (z.1 60 19).toInt) := n3.2.1
    have A1 : AQ q (sI y1 17 3 (y1.1 17 3 + 1)) (sI s 60 19 (s.1 60 19 + 1)) := ⟨XL_s hX, e73, e18, e1, congrArg (· + 1) hP.1, by
      show (y1.1 19 4).toInt ≤ (s.1 60 19 + 1).toInt
      have := hP.2.1
      omega⟩
    have iv := inc1 (a := lvc c) (by omega) (by omega)
    refine T2_bb (HJ v (by omega) (by omega) (lvc c + 1) _ _ (by omega) A1 n3.1) (fun r5 s5 hR => ?_)
    obtain ⟨⟨hR, hX5, _⟩, hS5⟩ := hR
    have hS6 := SG_tr eN hS1 hn hS5
    have e73' := SG_ZX hS6 A.2.1 A.2.2.1
    have aT := SG_add (c := 0) (e' := 1) (a := c) (w := 0) eN (SG_le hS6 (by decide)) (by decide) (fun _ => by rw [op.1]; exact op.2 0)
    have h5b := hS5.2.1
    have h5b' : (s.1 60 19 + 1).toInt ≤ (s5.1 60 19).toInt ∧ (s5.1 60 19).toInt ≤ (s.1 60 18).toInt := h5b
    have t3' : (s.1 60 18).toInt = (q.1 60 18).toInt := congrArg Int32.toInt e18
    rcases hR with ⟨n5, f5, P5⟩ | ⟨w5, p5, f5⟩
    · have n6 := SG_nw hS5 n5
      have b6' : (s5.1 60 22).toInt + 0 ≤ (s.1 60 22).toInt + ((s5.1 60 19).toInt - (s.1 60 19 + 1).toInt) := n6.2.1
      have PP := PM_tr b6 b4 (PM_pos hP) hS5.2.2.2.1 P5
      have l5' : (r5.2.1 19 4).toInt - (y.1 19 4).toInt = (s5.1 60 22).toInt - (z.1 60 22).toInt := PP.2.1
      have aE := m_addE (z := s5) c 0 (by have := PP.2.2.1; omega) (by omega)
      have a6 := T_un aT aE
      have i5 := inc1 (a := l5) (by omega) (by omega)
      refine T2_le (x_addE c 0 (by have := PP.2.2.1; omega) (by omega)) (T2_re aE ?_)
      rw [f5]
      have P7 := PM_add (a := c) (w := 0) (a' := c) (w' := 0) b6 (by omega) b4 (by omega) (by omega) PP (al_op (by omega))
      have X7 : XL q (xAd r5.2 c 0) := T_un (x_addStep hX5 c 0) (x_addE c 0 (by have := PP.2.2.1; omega) (by omega))
      have hr7 : (mAd s5 c 0).1 60 19 = s5.1 60 19 := rfl
      obtain ⟨kc', rfl⟩ : ∃ x, kc = x + 1 := ⟨kc - 1, by omega⟩
      obtain ⟨k'', rfl⟩ : ∃ x, k' = x + 1 := ⟨k' - 1, by omega⟩
      refine ih _ _ _ _ _ _ _ X7 a6.1 (a6.2.2.1.trans n5) P7 ?_ ?_ ?_ (by rw [hr7]; omega) (by omega) (by omega) (by omega) (by omega) (by rw [hr7]; omega)
      · by_cases e3 : lvc c = 3
        · have : v = 3 := by rw [e3] at hv; have : (3 : Int32).toInt = 3 := rfl; omega
          rw [if_pos e3, if_pos this]
          rfl
        · have : v ≠ 3 := fun e => e3 (Int32.toInt_inj.mp (by rw [hv, e]; rfl))
          rw [if_neg e3, if_neg this]
          exact hv
      · split <;> omega
      · split <;> omega
    · refine T2_l (x_addT hX5 c 0) (fun y6 h6 => T2_r aT (fun s6 g6 => ?_))
      have z6 := SG_ZX g6.1 A.2.1 A.2.2.1
      have w6 : s6.1 60 20 = s5.1 60 20 := g6.2.2.1
      obtain ⟨kc', rfl⟩ : ∃ x, kc = x + 1 := ⟨kc - 1, by omega⟩
      obtain ⟨k'', rfl⟩ : ∃ x, k' = x + 1 := ⟨k' - 1, by omega⟩
      exact sim_w hT h6.1 b3 z6.1 z6.2 (by rw [g6.2.1]; omega) (by omega) (by rw [w6]; exact w5) (by rw [h6.2, p5, w6]) (by rw [w6]; exact f5)

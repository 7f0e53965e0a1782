/-! ===== operands, and all that calls itself ===== -/
theorem MF_T {L n : Nat} (h1 : 1 ≤ L) (h6 : L ≤ 6) {z : SS} {o : Int32} (e : EN z) (ho : z.1 60 21 = o) (hb : 10 * (6 - o.toInt) + (7 - (L : Int)) ≤ (n : Int)) : T (MF (g_X12_operand n) L z) (SG o 0 1 z) := by
  have m := MJ_all n
  have c : L = 1 ∨ L = 2 ∨ L = 3 ∨ L = 4 ∨ L = 5 ∨ L = 6 := by omega
  rw [← ho]
  rw [← ho] at hb
  rcases c with rfl | rfl | rfl | rfl | rfl | rfl
  · exact m.2.2.2.2.2 z e (by omega)
  · exact m.2.2.2.2.1 z e (by omega)
  · exact m.2.2.2.1 z e (by omega)
  · exact m.2.2.1 z e (by omega)
  · exact m.2.1 z e (by omega)
  · exact m.1 z e (by omega)
def OS (q : SS) (o : Int32) : Prop := ∀ (n b : Nat) (y z : SS), AQ q y z → z.1 60 21 = o → 10 * (6 - o.toInt) + 1 ≤ (n : Int) → 10 * (6 - o.toInt) + 1 ≤ (b : Int) → T2 ((g_X5_readJoined n).2.1 y o) ((g_X12_operand b).1 z) (RQ q y z)
theorem sim_J {q : SS} {o : Int32} (hT : RT q) (o0 : 0 ≤ o.toInt ∧ o.toInt ≤ 6) (HO : OS q o) : ∀ (j : Nat), j ≤ 5 → ∀ (n b : Nat) (l32 : Int32) (y z : SS), l32.toInt = 6 - (j : Int) → AQ q y z → z.1 60 21 = o → 10 * (6 - o.toInt) + 2 + (j : Int) ≤ (n : Int) → 10 * (6 - o.toInt) + 1 ≤ (b : Int) → T2 ((g_X5_readJoined n).1 y l32 o) (MF (g_X12_operand (b + j)) (6 - j) z) (RQ q y z) := by
  intro j
  induction j using Nat.strongRecOn with
  | ind j ih =>
    intro hj n b l32 y z e32 A ho hn hb
    obtain ⟨n', rfl⟩ : ∃ x, n = x + 1 := ⟨n - 1, by omega⟩
    obtain ⟨b1, b2, b3, b4, b5, b6, b7⟩ := AQ_b A
    show T2 (fb_X5_readJoined (g_X5_readJoined n') y l32 o) _ _
    unfold fb_X5_readJoined
    rw [MF_ch b z j hj, FJ_e, fu_s]
    have hO := HO n' b y z A ho (by omega) hb
    have hOX := (LJ_all n' q y A.1).2.1 o o0 (by omega)
    have hOS : T ((g_X12_operand b).1 z) (SG o 0 1 z) := MF_T (L := 6) (by omega) (by omega) A.2.2.2.1 ho (by omega)
    refine T2_bb (T2_ar (T2_al hO hOX) hOS) (fun r1 s hR => ?_)
    obtain ⟨⟨hR, hX, _⟩, hS⟩ := hR
    have hs := hS.2.1
    have tz : (z.1 60 18).toInt = (q.1 60 18).toInt := congrArg Int32.toInt A.2.2.1
    rcases hR with ⟨n5, f5, P5⟩ | ⟨w5, p5, f5⟩
    · rw [f5]
      refine sim_loop (l := 6 - j) hT A ho (by omega) (by omega) ?_ 120 r1.2 s 5 0 5 999999 999999 hX hS n5 P5 rfl (by omega) (by omega) (by omega) (by omega) (by omega) (by omega) (by decide) (by show (0 : Int) ≤ _; omega)
      intro v h1 h2 v32 y2 z2 ev A2 ho2
      have i1 := ih (5 - v) (by omega) (by omega) n' b v32 y2 z2 (by omega) A2 ho2 (by omega) hb
      rw [show b + (5 - v) = b + 5 - v by omega, show 6 - (5 - v) = v + 1 by omega] at i1
      exact T2_ar (T2_al i1 ((LJ_all n' q y2 A2.1).1 v32 o ⟨by omega, by omega⟩ o0 (by omega))) (MF_T (by omega) (by omega) A2.2.2.2.1 ho2 (by omega))
    · have z6 := SG_ZX hS A.2.1 A.2.2.1
      exact sim_w hT hX b3 z6.1 z6.2 (by omega) (by omega) w5 p5 f5
theorem m_opE0 {z : SS} (h : z.1 60 21 = 6) (n : z.1 60 20 = -1) : f_X12_opens z = some (0, sI z 60 20 (z.1 60 19)) := by
  unfold f_X12_opens
  rw [if_pos h, m_wrE n]
  rfl
theorem m_opE1 {z : SS} (h : z.1 60 21 ≠ 6) : f_X12_opens z = some (1, sI (sI z 60 21 (z.1 60 21 + 1)) 60 19 (z.1 60 19 + 1)) := by
  unfold f_X12_opens
  rw [if_neg h]
  rfl
theorem nm_dig {c : Int32} (h : dig c) : nmc c = -1 := by
  unfold nmc
  rw [if_neg (fun e => by rw [e] at h; exact absurd h (by decide)), if_neg (fun e => by rw [e] at h; exact absurd h (by decide)), if_neg (fun e => by rw [e] at h; exact absurd h (by decide)), if_neg (fun e => by rw [e] at h; exact absurd h (by decide)), if_neg (fun e => by rw [e] at h; exact absurd h (by decide)), if_neg (fun e => by rw [e] at h; exact absurd h (by decide))]
theorem T2_wrap {q y z : SS} {o1 : Option (Int32 × SS)} {o2 : Option SS} (h : T2 o1 o2 (RQ q y z)) : T2 (o1.bind fun r => if r.1 = 0 ∨ r.1 = 1 then some (r.1, r.2) else none) o2 (RQ q y z) := by
  obtain ⟨a, b, h1, h2, hr⟩ := h
  refine ⟨a, b, ?_, h2, hr⟩
  rw [h1, bind_s, if_pos]
  rcases hr with ⟨_, f, _⟩ | ⟨_, _, f | ⟨f, _⟩⟩
  · exact Or.inr f
  · exact Or.inl f
  · exact Or.inr f
theorem sim_t23 {q y z : SS} {o : Int32} (A : AQ q y z) {rr : GT_X5_readJoined} {rm : GT_X12_operand} {r1 : Int32 × SS} {r4 : SS} {x a a' : Int32} (hR : RQ q y z r1 r4 ∧ XL q r1.2) (hS : SG o 1 1 z (sI r4 60 21 x)) (hal : al a 0 (a'.toInt8.toInt32) 0) (hst : stepd (a'.toInt8.toInt32) 0 1 = some 1) : T2 (b_X5_readTurned_23 rr r1.2 r1.1 a) (b_X12_operand_80 rm (sI r4 60 21 x) a') (RQ q y z) := by
  obtain ⟨b1, b2, b3, b4, b5, b6, b7⟩ := AQ_b A
  obtain ⟨hR, hX⟩ := hR
  have aT := SG_add (c := 0) (e' := 1) (a := a') (w := 0) A.2.2.2.1 hS (by decide) (fun _ => hst)
  unfold b_X5_readTurned_23 b_X12_operand_80
  have hb := hS.2.1
  have tz : (z.1 60 18).toInt = (q.1 60 18).toInt := congrArg Int32.toInt A.2.2.1
  rcases hR with ⟨n5, f5, P5⟩ | ⟨w5, p5, f5⟩
  · have n6 : (r4.1 60 22).toInt + 1 ≤ (z.1 60 22).toInt + ((r4.1 60 19).toInt - (z.1 60 19).toInt) := (SG_nw hS n5).2.1
    have hb' : (z.1 60 19).toInt ≤ (r4.1 60 19).toInt ∧ (r4.1 60 19).toInt ≤ (z.1 60 18).toInt := hb
    have p2 := P5.2.1
    have p3 := P5.2.2.1
    have aE := m_addE (z := sI r4 60 21 x) a' 0 (by show 0 ≤ (r4.1 60 22).toInt; omega) (by show (r4.1 60 22).toInt < 130; omega)
    have P6 : PM y z r1.2 (sI r4 60 21 x) := P5
    rw [f5]
    refine T2_le (x_addE a 0 (by omega) (by omega)) (T2_re aE (T2_pl (Or.inr rfl) (T2_s (Or.inl ⟨n5, rfl, PM_add b6 (by omega) b4 (by omega) (by show (r4.1 60 22).toInt < 130; omega) P6 hal⟩))))
  · refine T2_l (x_addT hX a 0) (fun y6 h6 => T2_r aT (fun s6 g6 => T2_pl ?_ (T2_s (Or.inr ⟨?_, ?_, ?_⟩))))
    · rcases f5 with f | ⟨f, _⟩
      · exact Or.inl f
      · exact Or.inr f
    · rw [g6.2.2.1]; exact w5
    · rw [g6.2.2.1]; exact h6.2.trans p5
    · rw [g6.2.2.1]; exact f5

/-! ===== later, eve ===== -/
theorem T2_asl {α β γ δ : Type} {o : Option α} {f : α → Option β} {g : β → Option γ} {o2 : Option δ} {R : γ → δ → Prop} (h : T2 ((o.bind f).bind g) o2 R) : T2 (o.bind fun r => (f r).bind g) o2 R := by
  cases o with
  | none => exact h
  | some x => exact h
theorem bI_t {c : Prop} [Decidable c] (h : c) : bI c = 1 := bI_1.mpr h
theorem bI_f {c : Prop} [Decidable c] (h : ¬ c) : bI c = 0 := bI_0.mpr h
theorem flt_E {q y : SS} (h : INV q) (f : MC q y) {a : Int32} (ha : 0 ≤ a.toInt ∧ a.toInt < 6) : ∃ v : Int32, (v = 0 ∨ v.toInt < 0) ∧ (v = 0 → q.1 27 a.toNatClampNeg = 0) ∧ f_X7_refusalOfBytes q a = some v ∧ f_X12_rowFault y a = some v := by
  refine ⟨_, ?_, ?_, x_refBytes q a, ?_⟩
  · rw [if_pos ha]
    split
    · exact Or.inr (by decide)
    · split
      · exact Or.inl rfl
      · exact Or.inr (by decide)
  · rw [if_pos ha]
    intro e
    by_cases c1 : q.1 27 a.toNatClampNeg = -2
    · rw [if_pos c1] at e; exact absurd e (by decide)
    · rw [if_neg c1] at e
      by_cases c2 : q.1 27 a.toNatClampNeg = 0
      · exact c2
      · rw [if_neg c2] at e; exact absurd e (by decide)
  · rw [m_rowFault ha, f.1 89 (by decide), if_pos ha, rows_E h ha]
theorem sim_later {q y : SS} (h : INV q) (w : RLW q) (f : MC q y) (hy : INV y) (a b c : Int32) : T2 (f_X11_later q a b c) (f_X12_later y a b c) (fun r s => r.1 = s.1) := by
  have hY := INV_RY h
  have l0 : (0 : Int32).toInt = 0 := rfl
  have l12 : (12 : Int32).toInt = 12 := rfl
  have y60 : y.1 60 = q.1 60 := f.1 60 (by decide)
  have rf : T2 (some ((-1 : Int32), q)) (some ((-1 : Int32), y)) (fun r s => r.1 = s.1) := T2_s rfl
  unfold f_X11_later f_X12_later
  refine T2_le (x_isShelf q a) (T2_re (m_isShelf y a) ?_)
  by_cases ha : 0 ≤ a.toInt ∧ a.toInt < 6
  rotate_left
  · rw [bI_f ha]
    exact T2_pl rfl (T2_pr rfl rf)
  rw [bI_t ha]
  refine T2_ql (by decide) (T2_qr (by decide) (T2_re (m_areMany y b) ?_))
  by_cases hb : 0 ≤ b.toInt ∧ b.toInt ≤ 12
  rotate_left
  · rw [bI_f hb]
    by_cases c0 : b < 0
    · exact T2_pl c0 (T2_pr rfl rf)
    · have c0' := Int32.le_iff_toInt_le.mp (Int32.not_lt.mp c0)
      exact T2_ql c0 (T2_pl (Int32.lt_iff_toInt_lt.mpr (by omega)) (T2_pr rfl rf))
  rw [bI_t hb]
  refine T2_ql (fun e => by have := Int32.lt_iff_toInt_lt.mp e; omega) (T2_ql (fun e => by have := Int32.lt_iff_toInt_lt.mp e; omega) (T2_le (x_isTicket q c) (T2_qr (by decide) (T2_re (m_isTicket (by rw [y60]; exact RY_k0 hY) c) ?_))))
  rw [RY_k hY, y60]
  by_cases hc : 0 ≤ c.toInt ∧ c.toInt < (q.1 60 6).toInt
  rotate_left
  · rw [bI_f hc]
    exact T2_pl rfl (T2_pr rfl rf)
  rw [bI_t hc]
  obtain ⟨v, v0, v27, xe, me⟩ := flt_E h f ha
  refine T2_ql (by decide) (T2_le xe (T2_qr (by decide) (T2_re me ?_)))
  by_cases ev : v = 0
  · refine T2_pl ev (T2_pr (by rw [ev]; decide) (T2_asl (T2_bb (sim_eve h w f hy ha (v27 ev) hb) (fun u z hW => ?_))))
    obtain ⟨H, _, _, z1, z6, _⟩ := hW
    have k := TH_K H
    have hc2 : 0 ≤ c.toInt ∧ c.toInt < (z.1 60 6).toInt := by rw [z6]; exact hc
    have b81 := TH_81 H (t := c.toNatClampNeg) (by show ((c.toInt.toNat : Nat) : Int) < _; omega)
    refine T2_le (x_holderOf (by rw [k.1.1]; omega) c) (T2_pr ⟨hc.1, by show c.toInt < 12; omega⟩ (T2_s ?_))
    show (if _ then _ else _) = _
    rw [k.1.1, if_pos hc2]
    exact b81.1
  · have vn : v.toInt < 0 := v0.resolve_left ev
    exact T2_ql ev (T2_qr (fun e => by have := Int32.le_iff_toInt_le.mp e; omega) (T2_re me (T2_s rfl)))
theorem sim_eve2 {q y : SS} (h : INV q) (w : RLW q) (f : MC q y) (hy : INV y) (a b c : Int32) : T2 (f_X11_eve q a b c) (f_X12_eve y a b c) (fun r s => r.1 = s.1) := by
  have hY := INV_RY h
  have l0 : (0 : Int32).toInt = 0 := rfl
  have l12 : (12 : Int32).toInt = 12 := rfl
  have m2 : (-2 : Int32).toInt = -2 := rfl
  have y60 : y.1 60 = q.1 60 := f.1 60 (by decide)
  have p0 := RY_p0 hY
  have rf : T2 (some ((-1 : Int32), q)) (some ((-1 : Int32), y)) (fun r s => r.1 = s.1) := T2_s rfl
  unfold f_X11_eve f_X12_eve
  refine T2_le (x_isShelf q a) (T2_re (m_isShelf y a) ?_)
  by_cases ha : 0 ≤ a.toInt ∧ a.toInt < 6
  rotate_left
  · rw [bI_f ha]
    exact T2_pl rfl (T2_pr rfl rf)
  rw [bI_t ha]
  refine T2_ql (by decide) (T2_qr (by decide) (T2_re (m_areMany y b) ?_))
  by_cases hb : 0 ≤ b.toInt ∧ b.toInt ≤ 12
  rotate_left
  · rw [bI_f hb]
    by_cases c0 : b < 0
    · exact T2_pl c0 (T2_pr rfl rf)
    · have c0' := Int32.le_iff_toInt_le.mp (Int32.not_lt.mp c0)
      exact T2_ql c0 (T2_pl (Int32.lt_iff_toInt_lt.mpr (by omega)) (T2_pr rfl rf))
  rw [bI_t hb]
  refine T2_ql (fun e => by have := Int32.lt_iff_toInt_lt.mp e; omega) (T2_ql (fun e => by have := Int32.lt_iff_toInt_lt.mp e; omega) (T2_qr (by decide) (T2_re (m_in y c _ _) ?_)))
  have ep : (y.1 60 1 - 1).toInt = (q.1 60 1).toInt - 1 := by rw [y60, dec1 p0]
  rw [ep, m2]
  have body : T2 (b_X11_eve_45 q a b c) ((f_X12_rowFault y a).bind fun r4 => if 0 ≤ r4 then ((f_X12_goEve y a b).bind fun r5 => if c = (-1 : Int32) then (some ((r5.1 60 33), r5)) else (if c = (-2 : Int32) then (some ((r5.1 60 34), r5)) else ((f_X12_realOf r5 c).bind fun r6 => some (r6, r5)))) else ((f_X12_rowFault y a).bind fun r9 => some (r9, y))) (fun r s => r.1 = s.1) := by
    obtain ⟨v, v0, v27, xe, me⟩ := flt_E h f ha
    unfold b_X11_eve_45
    refine T2_le xe (T2_re me ?_)
    by_cases ev : v = 0
    · refine T2_pl ev (T2_pr (by rw [ev]; decide) (T2_asl (T2_bb (sim_eve h w f hy ha (v27 ev) hb) (fun u z hW => ?_))))
      obtain ⟨H, w4, w5, z1, z6, w66⟩ := hW
      have k := TH_K H
      by_cases e1 : c = -1
      · exact T2_pl e1 (T2_pr e1 (T2_le (show f_X2_wells u = some (u.1 37 4) from rfl) (T2_s w4)))
      by_cases e2 : c = -2
      · exact T2_ql e1 (T2_pl e2 (T2_qr e1 (T2_pr e2 (T2_le (show f_X2_leftOut u = some (u.1 37 5) from rfl) (T2_s w5)))))
      · refine T2_ql e1 (T2_ql e2 (T2_qr e1 (T2_qr e2 (T2_le (x_realsOf (by rw [k.1.1]; omega) (by rw [k.1.1]; omega) c) (T2_re (m_realOf (by omega) (by omega) c) (T2_s ?_))))))
        show Int32.ofNat _ = Int32.ofNat _
        rw [k.1.1, w66]
        exact congrArg Int32.ofNat (cntN_c (fun t ht => by rw [(TH_81 H (t := t) (by omega)).1]))
    · have vn : v.toInt < 0 := v0.resolve_left ev
      exact T2_ql ev (T2_qr (fun e => by have := Int32.le_iff_toInt_le.mp e; omega) (T2_re me (T2_s rfl)))
  by_cases hc : -2 ≤ c.toInt ∧ c.toInt ≤ (q.1 60 1).toInt - 1
  · rw [bI_t hc]
    refine T2_qr (by decide) ?_
    by_cases e1 : c = -1
    · exact T2_pl e1 body
    by_cases e2 : c = -2
    · exact T2_ql e1 (T2_pl e2 body)
    · have n1 : c.toInt ≠ -1 := fun e => e1 (Int32.toInt_inj.mp e)
      have n2 : c.toInt ≠ -2 := fun e => e2 (Int32.toInt_inj.mp e)
      refine T2_ql e1 (T2_ql e2 (T2_le (x_isPerson q c) ?_))
      rw [RY_p hY, bI_t ⟨by omega, by omega⟩]
      exact T2_ql (by decide) body
  · rw [bI_f hc]
    refine T2_pr rfl (T2_ql (fun e => ?_) (T2_ql (fun e => ?_) (T2_le (x_isPerson q c) ?_)))
    · rw [e, m1i] at hc; omega
    · rw [e, m2] at hc; omega
    · rw [RY_p hY, bI_f (fun e => by omega)]
      exact T2_pl rfl rf
theorem opq_later {q : SS} (h : INV q) (w : RLW q) (a b c : Int32) : T (f_X11_later q a b c) (fun r => T (f_X12_later r.2 a b c) (fun s => INV s.2 ∧ r.1 = s.1)) := opw_of (g := fun y => f_X12_later y a b c) (xo_later h a b c) (kc_f_X11_later q q a b c (Fr_refl q)) (fun y hy => mo_later hy a b c) (fun y f hy => sim_later h w f hy a b c)
theorem opq_eve {q : SS} (h : INV q) (w : RLW q) (a b c : Int32) : T (f_X11_eve q a b c) (fun r => T (f_X12_eve r.2 a b c) (fun s => INV s.2 ∧ r.1 = s.1)) := opw_of (g := fun y => f_X12_eve y a b c) (xo_eve h a b c) (kc_f_X11_eve q q a b c (Fr_refl q)) (fun y hy => mo_eve hy a b c) (fun y f hy => sim_eve2 h w f hy a b c)

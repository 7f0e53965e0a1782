/-! ===== the model's behind answers ===== -/
theorem nnN {a : Int32} (h : 0 ≤ a.toInt) : (a.toBitVec.toNat : Int) = a.toInt := by
  have e := BitVec.toInt_eq_toNat_cond a.toBitVec
  rw [Int32.toInt_toBitVec] at e
  have := a.toBitVec.isLt
  split at e <;> omega
theorem ofBN {a : Int32} (h : a.toBitVec.toNat < 2147483648) : a.toInt = (a.toBitVec.toNat : Int) := by
  rw [← Int32.toInt_toBitVec, BitVec.toInt_eq_toNat_cond, if_pos (by omega)]
theorem and_nn {a b : Int32} (hb : 0 ≤ b.toInt) : 0 ≤ (a &&& b).toInt ∧ (a &&& b).toInt ≤ b.toInt := by
  have e : (a &&& b).toBitVec.toNat = a.toBitVec.toNat &&& b.toBitVec.toNat := by
    rw [Int32.toBitVec_and, BitVec.toNat_and]
  have hl : a.toBitVec.toNat &&& b.toBitVec.toNat ≤ b.toBitVec.toNat := Nat.and_le_right
  have nb := nnN hb
  have hb2 : b.toInt < 2147483648 := Int32.toInt_lt b
  have := ofBN (a := a &&& b) (by rw [e]; omega)
  rw [e] at this
  omega
theorem or_12 {a b : Int32} (ha : 0 ≤ a.toInt ∧ a.toInt < 4096) (hb : 0 ≤ b.toInt ∧ b.toInt < 4096) : 0 ≤ (a ||| b).toInt ∧ (a ||| b).toInt < 4096 := by
  have e : (a ||| b).toBitVec.toNat = a.toBitVec.toNat ||| b.toBitVec.toNat := by
    rw [Int32.toBitVec_or, BitVec.toNat_or]
  have na := nnN ha.1
  have nb := nnN hb.1
  have hl : a.toBitVec.toNat ||| b.toBitVec.toNat < 2 ^ 12 := Nat.or_lt_two_pow (by omega) (by omega)
  have := ofBN (a := a ||| b) (by rw [e]; omega)
  rw [e] at this
  omega
theorem shl_12t : ∀ n, n < 12 → 0 ≤ (jshl 1 (Int32.ofNat n)).toInt ∧ (jshl 1 (Int32.ofNat n)).toInt < 4096 := by decide +kernel
theorem shl_12 {p : Int32} (h0 : 0 ≤ p.toInt) (h : p.toInt < 12) : 0 ≤ (jshl 1 p).toInt ∧ (jshl 1 p).toInt < 4096 := by
  obtain ⟨m, hm, rfl⟩ := ofN (n := 12) h0 (by omega)
  exact shl_12t m hm
theorem m_bitsT (q : SS) {a : Int32} (h : 0 ≤ a.toInt ∧ a.toInt < 4096) : T (f_X12_bitsOf q a) (fun _ => True) := by
  unfold f_X12_bitsOf b_X12_bitsOf_4
  refine T_fx2 (fun _ l2 => 0 ≤ l2.toInt ∧ l2.toInt < 4096) (fun _ l2 => l2.toInt.toNat) ?_ _ _ _ h (by unfold FU; omega)
  rintro rec l1 l2 ⟨h0, h1⟩ hr
  have l0 : (0 : Int32).toInt = 0 := rfl
  refine T_eq (fun _ => T_some.mpr trivial) (fun ne => T_nm ?_)
  have d := dec1 (a := l2) h0
  have n := and_nn (a := l2) (b := l2 - 1) (by omega)
  exact hr _ _ ⟨n.1, by omega⟩ (by omega)
def GB (q : SS) (a b s : Int32) (z : SS) : Prop := GM q z ∧ z.1 60 36 = a ∧ z.1 60 37 = b ∧ z.1 60 38 = s
theorem GB_79 {q z y : SS} {a b s : Int32} (g : GB q a b s z) (f : F79 z y) : GB q a b s y := by
  have e := f.2 60 (by decide) (by decide)
  exact ⟨GM_79 g.1 f, (congrFun e 36).trans g.2.1, (congrFun e 37).trans g.2.2.1, (congrFun e 38).trans g.2.2.2⟩
theorem GB_81 {q z : SS} {a b s : Int32} (g : GB q a b s z) {i : Nat} {x : Int32} (hi : 0 ≤ x.toInt ∧ x.toInt ≤ 5) : GB q a b s (sI z 81 i x) := ⟨GM_81 g.1 hi, g.2.1, g.2.2.1, g.2.2.2⟩
theorem GB_60 {q z : SS} {a b s : Int32} (g : GB q a b s z) {i : Nat} {x : Int32} (h1 : 39 ≤ i) (h2 : i ≤ 44) : GB q a b s (sI z 60 i x) := by
  refine ⟨GM_60 g.1 (by omega) h2, ?_, ?_, ?_⟩
  · rw [sI_rd, if_neg (fun y => by omega)]; exact g.2.1
  · rw [sI_rd, if_neg (fun y => by omega)]; exact g.2.2.1
  · rw [sI_rd, if_neg (fun y => by omega)]; exact g.2.2.2
theorem GB_L {q z : SS} {a b s : Int32} (g : GB q a b s z) {i : Nat} {x : Int64} : GB q a b s (sL z 60 i x) := by
  have h1 := INV_sLM (q := z) g.1.1 (k := 60) (i := i) (x := x) rfl
  have h2 := g.1.2
  exact ⟨⟨h1, h2⟩, g.2.1, g.2.2.1, g.2.2.2⟩
theorem m_asTold {q z : SS} {a b s : Int32} (g : GB q a b s z) (hb : 0 ≤ b.toInt ∧ b.toInt < 6) : T (f_X12_isAsTold z) (fun _ => True) := by
  have hk := GM_K g.1
  have e37 : z.1 60 37 = b := g.2.2.1
  unfold f_X12_isAsTold b_X12_isAsTold_2 b_X12_isAsTold_56
  rw [e37]
  refine T_fx1 (fun l1 => 0 ≤ l1.toInt ∧ l1.toInt ≤ 12) (fun l1 => (12 - l1.toInt).toNat) ?_ _ _ ⟨by decide, by decide⟩ (by unfold FU; decide)
  rintro rec l1 ⟨g0, g1⟩ hrec
  refine T_le (fun _ => T_some.mpr trivial) (fun c => T_vp hb.1 hb.2 (T_le (fun _ => T_some.mpr trivial) (fun _ => ?_)))
  have e1 := inc1 (a := l1) (by omega) (by omega)
  have go : T (rec (l1 + 1)) (fun _ => True) := hrec _ ⟨by omega, by omega⟩ (by omega)
  have ea := m_at (q := z) hb (b := l1) ⟨g0, by omega⟩
  exact T_rw ea (T_i (fun _ => go) (fun _ => T_rw ea (T_vp g0 (by show l1.toInt < 12; omega) (T_i (fun _ => go) (fun _ => T_some.mpr trivial)))))
theorem m_meet {q z : SS} {a b s : Int32} (g : GB q a b s z) {m : Int32} (w : Int64) (hm : 0 ≤ m.toInt ∧ m.toInt < 4096) : T (f_X12_meetWay z m w) (fun r => GB q a b s r) := by
  have t102 : ∀ y, GB q a b s y → T (b_X12_meetWay_102 y m w) (fun r => GB q a b s r) := fun y gy => T_nm (T_nm (T_some.mpr (GB_60 (GB_L gy) (by decide) (by decide))))
  have t70 : ∀ y, GB q a b s y → T (b_X12_meetWay_70 y m w) (fun r => GB q a b s r) := fun y gy => by
    unfold b_X12_meetWay_70
    exact T_i (fun _ => t102 y gy) (fun _ => T_i (fun _ => T_i (fun _ => T_some.mpr gy) (fun _ => T_i (fun _ => T_some.mpr gy) (fun _ => t102 y gy))) (fun _ => T_some.mpr gy))
  have t59 : ∀ y v, GB q a b s y → T (b_X12_meetWay_59 y m w v) (fun r => GB q a b s r) := fun y v gy => by
    unfold b_X12_meetWay_59
    exact T_nm (T_nm (t70 _ (GB_60 (GB_60 gy (by decide) (by decide)) (by decide) (by decide))))
  unfold f_X12_meetWay
  refine T_nm (T_nm ?_)
  have g2 := GB_60 (GB_60 g (i := 39) (x := z.1 60 39 + 1) (by decide) (by decide)) (i := 42) (x := (sI z 60 39 (z.1 60 39 + 1)).1 60 42 &&& m) (by decide) (by decide)
  generalize sI (sI z 60 39 (z.1 60 39 + 1)) 60 42 ((sI z 60 39 (z.1 60 39 + 1)).1 60 42 &&& m) = y at g2 ⊢
  exact T_b (m_bitsT y hm) (fun r3 _ => T_i (fun _ => t59 _ _ g2) (fun _ => T_i (fun _ => t59 _ _ g2) (fun _ => T_i (fun _ => T_i (fun _ => t70 _ g2) (fun _ => t59 _ _ g2)) (fun _ => t70 _ g2))))
theorem m_goBehind {q : SS} {a b s : Int32} (ha : 0 ≤ a.toInt ∧ a.toInt < 6) (hb : 0 ≤ b.toInt ∧ b.toInt < 6) (hs : s.toInt ≤ 12) (hi : ∀ k : Nat, (k : Int) < s.toInt → ISl q a k) : ∀ (n : Nat) (z : SS) (l m : Int32) (w : Int64), GB q a b s z → 0 ≤ l.toInt → l.toInt ≤ s.toInt → s.toInt - l.toInt + 1 ≤ (n : Int) → (0 ≤ m.toInt ∧ m.toInt < 4096) → T (g_X12_goBehind n z l m w) (fun r => GB q a b s r)
  | 0, _, _, _, _, _, _, _, h, _ => absurd h (by omega)
  | n + 1, z, l, m, w, g, l0, ls, hn, hm => by
    show T (fb_X12_goBehind (g_X12_goBehind n) z l m w) _
    have ih := m_goBehind ha hb hs hi n
    have e36 : z.1 60 36 = a := g.2.1
    have e38 : z.1 60 38 = s := g.2.2.2
    unfold fb_X12_goBehind
    rw [e36, e38]
    refine T_eq (fun _ => T_b (m_asTold g hb) (fun r1 _ => T_i (fun _ => T_some.mpr g) (fun _ => T_b (m_meet g w hm) (fun r2 h2 => T_some.mpr h2)))) (fun ne => ?_)
    have e1 := inc1 (a := l) (by omega) (by omega)
    refine T_el g.1 ha ⟨l0, by omega⟩ (hi _ (by omega)) (fun v v8 vr _ ev => T_nm (T_rw ev (T_nm (T_b (m_slipT z v8 vr) (fun r8 _ => ?_)))))
    refine T_i (fun _ => T_b (ih z (l + 1) m _ g (by omega) (by omega) (by omega) hm) (fun r9 h9 => T_some.mpr h9)) (fun _ => T_b (m_oddsOf g.1.1 v8 vr) (fun r10 h10 => T_vp v8.1 v8.2 (T_nm ?_)))
    have g10 := GB_79 g h10.1
    have hj := RJ_h1 (INV_RJ g10.1.1) (v / 8).toNatClampNeg (by have := v8.2; show (v / 8).toInt.toNat < 12; omega)
    have hm2 := or_12 hm (shl_12 l0 (by omega))
    exact T_b (ih _ (l + 1) m _ g10 (by omega) (by omega) (by omega) hm) (fun r12 h12 => T_vp v8.1 v8.2 (T_nm (T_b (ih _ (l + 1) _ _ (GB_81 h12 ⟨vr.1, by have := vr.2; omega⟩) (by omega) (by omega) (by omega) hm2) (fun r14 h14 => T_vp v8.1 v8.2 (T_nm (T_some.mpr (GB_81 h14 hj)))))))
theorem mo_behind {q : SS} (h : INV q) (a b c : Int32) : T (f_X12_behind q a b c) (fun r => INV r.2) := by
  have hY := INV_RY h
  unfold f_X12_behind
  refine T_rw (m_isShelf q a) (T_bi (fun _ => T_some.mpr h) (fun ha => T_rw (m_isShelf q b) (T_bi (fun _ => T_some.mpr h) (fun hb => T_rw (m_in q c _ _) (T_bi (fun _ => T_some.mpr h) (fun _ => T_rw (m_rowFault ha) (T_i (fun _ => T_rw (m_rowFault hb) (T_i (fun _ => ?_) (fun _ => T_rw (m_rowFault hb) (T_some.mpr h)))) (fun _ => T_rw (m_rowFault ha) (T_some.mpr h)))))))))
  refine T_nm (T_nm ?_)
  have g7 := GM_60 (GM_60 (GM_r h) (i := 36) (x := a) (by decide) (by decide)) (i := 37) (x := b) (by decide) (by decide)
  have a7 : (sI (sI q 60 36 a) 60 37 b).1 60 36 = a := by simp [sI_rd]
  have b7 : (sI (sI q 60 36 a) 60 37 b).1 60 37 = b := by simp [sI_rd]
  generalize sI (sI q 60 36 a) 60 37 b = y at g7 a7 b7 ⊢
  refine T_b (m_longOf (GM_r g7.1) ha (m := 12) z1212) (fun s hs => ?_)
  have s12 : s.toInt ≤ 12 := hs.1.2
  have g8 : GB y a b s (sI y 60 38 s) := ⟨GM_60 (GM_r g7.1) (by decide) (by decide), by rw [rdn rfl]; exact a7, by rw [rdn rfl]; exact b7, by simp [sI_rd]⟩
  refine T_nm ?_
  generalize sI y 60 38 s = x at g8 ⊢
  refine T_nm (T_nm (T_nm (T_nm (T_nm (T_nm ?_)))))
  have g14 := GB_60 (GB_L (GB_60 (GB_60 (GB_60 (GB_60 g8 (i := 39) (x := 0) (by decide) (by decide)) (i := 40) (x := -2) (by decide) (by decide)) (i := 41) (x := -2) (by decide) (by decide)) (i := 42) (x := -1) (by decide) (by decide)) (i := 43) (x := 0)) (i := 44) (x := -2) (by decide) (by decide)
  generalize sI (sL (sI (sI (sI (sI x 60 39 0) 60 40 (-2)) 60 41 (-2)) 60 42 (-1)) 60 43 0) 60 44 (-2) = u at g14 ⊢
  refine T_b (m_now (INV_RY g14.1.1)) (fun v hv => ?_)
  have gv := GM_now g14.1.1 hv
  have gb : GB y a b s v := ⟨⟨gv.1, gv.2.1.trans g14.1.2.1, gv.2.2.1.trans g14.1.2.2.1, gv.2.2.2.1.trans g14.1.2.2.2.1, gv.2.2.2.2.trans g14.1.2.2.2.2⟩, (hv.2.2.1 36 (by decide)).trans g14.2.1, (hv.2.2.1 37 (by decide)).trans g14.2.2.1, (hv.2.2.1 38 (by decide)).trans g14.2.2.2⟩
  refine T_b (m_goBehind ha hb s12 hs.2 60 v 0 0 1 gb (by decide) (by have := hs.1.1; exact this) (by have l0 : (0 : Int32).toInt = 0 := rfl; rw [l0]; omega) ⟨by decide, by decide⟩) (fun t ht => ?_)
  have hI := ht.1.1
  exact T_sw (fun _ => T_some.mpr hI) (fun _ => T_sw (fun _ => T_some.mpr hI) (fun _ => T_sw (fun _ => T_some.mpr hI) (fun _ => T_sw (fun _ => T_i (fun _ => T_some.mpr hI) (fun _ => T_some.mpr hI)) (fun _ => T_sw0 (T_some.mpr hI)))))

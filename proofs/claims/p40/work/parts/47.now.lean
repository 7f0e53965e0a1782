/-! ===== as all stands now: of, share, safe, likeliest, friend ===== -/
def cH (q : SS) (a : Int32) : Nat := cntN (fun t => decide (q.1 65 t = a)) (q.1 60 6).toInt.toNat
def cR (q : SS) (a : Int32) : Nat := cntN (fun t => decide (q.1 65 t = a) && decide (q.1 66 t = 0)) (q.1 60 6).toInt.toNat
def cA (q : SS) : Nat := cntN (fun t => decide (q.1 66 t = 0)) (q.1 60 6).toInt.toNat
theorem K12 {q : SS} (h : RY q) : (q.1 60 6).toInt.toNat ≤ 12 := by
  have := RY_k12 h
  omega
theorem cH_le {q : SS} (h : RY q) (a : Int32) : cH q a ≤ 12 := Nat.le_trans (cntN_le _ _) (K12 h)
theorem cR_le {q : SS} (h : RY q) (a : Int32) : cR q a ≤ 12 := Nat.le_trans (cntN_le _ _) (K12 h)
theorem cA_le {q : SS} (h : RY q) : cA q ≤ 12 := Nat.le_trans (cntN_le _ _) (K12 h)
/-- the class's thought, as all stands now -/
def NWX (q r : SS) : Prop := r.2 = q.2 ∧ (∀ k, k ≠ 25 → r.1 k = q.1 k) ∧ ∀ t : Nat, (t : Int) < (q.1 60 6).toInt → r.1 25 t = q.1 65 t
def NWM (q r : SS) : Prop := r.2 = q.2 ∧ (∀ k, k ≠ 81 → k ≠ 60 → r.1 k = q.1 k) ∧ (∀ i, i ≠ 32 → r.1 60 i = q.1 60 i) ∧ r.1 60 32 = q.1 68 0 ∧ ∀ t : Nat, r.1 81 t = if (t : Int) < (q.1 60 6).toInt then q.1 65 t else q.1 81 t
theorem x_now {q : SS} (h : RY q) : T (f_X11_now q) (NWX q) := by
  unfold f_X11_now
  exact T_b (x_begin h) (fun r hr => T_some.mpr hr)
theorem NWX_I {q r : SS} (h : INV q) (n : NWX q r) : INV r := INV_begin h n.1 n.2.1
theorem NWM_I {q r : SS} (h : INV q) (n : NWM q r) : INV r := INV_lay h n.1 n.2.1 n.2.2.1 n.2.2.2.2
theorem m_now {q : SS} (h : RY q) : T (f_X12_layNow q) (NWM q) := m_layNow (RY_k0 h) (RY_k12 h)
theorem nx_K {q r : SS} (h : RY q) (n : NWX q r) : r.1 1 2 = q.1 60 6 := by rw [n.2.1 1 (by decide)]; exact RY_k h
theorem nx_P {q r : SS} (h : RY q) (n : NWX q r) : r.1 1 1 = q.1 60 1 := by rw [n.2.1 1 (by decide)]; exact RY_p h
theorem nx_heldBy {q r : SS} (h : RY q) (n : NWX q r) (a : Int32) : f_X8_heldBy r a = some (Int32.ofNat (cH q a)) := by
  have eK := nx_K h n
  rw [x_heldBy (by rw [eK]; exact RY_k0 h) (by rw [eK]; exact RY_k12 h), eK]
  unfold cH
  rw [cntN_c (fun t ht => by rw [n.2.2 t (by omega)])]
theorem nx_realsOf {q r : SS} (h : RY q) (n : NWX q r) (a : Int32) : f_X8_realsOf r a = some (Int32.ofNat (cR q a)) := by
  have eK := nx_K h n
  rw [x_realsOf (by rw [eK]; exact RY_k0 h) (by rw [eK]; exact RY_k12 h), eK]
  unfold cR
  rw [cntN_c (fun t ht => by rw [n.2.2 t (by omega), n.2.1 8 (by decide), RY_forged h])]
theorem nx_reals {q r : SS} (h : RY q) (n : NWX q r) : f_X8_reals r = some (Int32.ofNat (cA q)) := by
  have eK := nx_K h n
  rw [x_reals (by rw [eK]; exact RY_k0 h) (by rw [eK]; exact RY_k12 h), eK]
  unfold cA
  rw [cntN_c (fun t ht => by rw [n.2.1 8 (by decide), RY_forged h])]
theorem nm_K {q r : SS} (n : NWM q r) : r.1 60 6 = q.1 60 6 := n.2.2.1 6 (by decide)
theorem nm_P {q r : SS} (n : NWM q r) : r.1 60 1 = q.1 60 1 := n.2.2.1 1 (by decide)
theorem nm_manyOf {q r : SS} (h : RY q) (n : NWM q r) (a : Int32) : f_X12_manyOf r a = some (Int32.ofNat (cH q a)) := by
  have eK := nm_K n
  rw [m_manyOf (by rw [eK]; exact RY_k0 h) (by rw [eK]; exact RY_k12 h), eK]
  unfold cH
  rw [cntN_c (fun t ht => by rw [n.2.2.2.2 t, if_pos (show (t : Int) < (q.1 60 6).toInt by omega)])]
theorem nm_realOf {q r : SS} (h : RY q) (n : NWM q r) (a : Int32) : f_X12_realOf r a = some (Int32.ofNat (cR q a)) := by
  have eK := nm_K n
  rw [m_realOf (by rw [eK]; exact RY_k0 h) (by rw [eK]; exact RY_k12 h), eK]
  unfold cR
  rw [cntN_c (fun t ht => by rw [n.2.2.2.2 t, if_pos (show (t : Int) < (q.1 60 6).toInt by omega), n.2.1 66 (by decide) (by decide)])]
theorem nm_allReal {q r : SS} (h : RY q) (n : NWM q r) : f_X12_allReal r = some (Int32.ofNat (cA q)) := by
  have eK := nm_K n
  rw [m_allReal (by rw [eK]; exact RY_k0 h) (by rw [eK]; exact RY_k12 h), eK]
  unfold cA
  rw [cntN_c (fun t ht => by rw [n.2.1 66 (by decide) (by decide)])]
theorem nx_c {q r : SS} (n : NWX q r) (a : Int32) : cH r a = cH q a ∧ cR r a = cR q a ∧ cA r = cA q := by
  unfold cH cR cA
  rw [n.2.1 65 (by decide), n.2.1 66 (by decide), n.2.1 60 (by decide)]
  exact ⟨rfl, rfl, rfl⟩
theorem x_hasN2 {q : SS} (h : RY q) (w n : Int32) : f_X10_hasNumber q w n = some (bI (okN (q.1 60 1).toInt (q.1 60 6).toInt w.toInt n.toInt)) := x_hasN h w n
theorem op_of {q : SS} (h : INV q) (n w : Int32) : T (f_X11_of q n w) (fun r => T (f_X12_of r.2 n w) (fun s => INV s.2 ∧ r.1 = s.1)) := by
  have hY := INV_RY h
  have p0 := RY_p0 hY
  have k0 := RY_k0 hY
  have m1 : ∀ r, f_X12_in r w 9 10 = some (bI (9 ≤ w.toInt ∧ w.toInt ≤ 10)) := fun r => m_in r w 9 10
  unfold f_X11_of
  have ho : T (b_X11_of_12 q n w) (fun r => T (f_X12_of r.2 n w) (fun s => INV s.2 ∧ r.1 = s.1)) ∨ ¬ (w = 9 ∨ w = 10) := by
    by_cases c : w = 9 ∨ w = 10
    · refine Or.inl ?_
      have c2 : 9 ≤ w.toInt ∧ w.toInt ≤ 10 := by rcases c with rfl | rfl <;> decide
      unfold b_X11_of_12
      refine T_rw (x_isPerson q n) ?_
      rw [RY_p hY]
      refine T_bi (fun g => T_some.mpr ?_) (fun g => ?_)
      · unfold f_X12_of
        exact T_rw (m1 _) (T_bp c2 (T_rw (m_isOne p0 n) (T_bn g (T_some.mpr ⟨h, rfl⟩))))
      · by_cases e : w = 9
        · refine T_p e (T_b (x_now hY) (fun r hr => T_rw (nx_heldBy hY hr n) (T_some.mpr ?_)))
          have hI := NWX_I h hr
          unfold f_X12_of
          refine T_rw (m1 _) (T_bp c2 (T_rw (m_isOne (RY_p0 (INV_RY hI)) n) (T_bp (by rw [hr.2.1 60 (by decide)]; exact g) (T_b (m_now (INV_RY hI)) (fun s hs => T_p e (T_rw (nm_manyOf (INV_RY hI) hs n) (T_some.mpr ⟨NWM_I hI hs, ?_⟩)))))))
          rw [(nx_c hr n).1]
        · refine T_q e (T_b (x_now hY) (fun r hr => T_rw (nx_realsOf hY hr n) (T_some.mpr ?_)))
          have hI := NWX_I h hr
          unfold f_X12_of
          refine T_rw (m1 _) (T_bp c2 (T_rw (m_isOne (RY_p0 (INV_RY hI)) n) (T_bp (by rw [hr.2.1 60 (by decide)]; exact g) (T_b (m_now (INV_RY hI)) (fun s hs => T_q e (T_rw (nm_realOf (INV_RY hI) hs n) (T_some.mpr ⟨NWM_I hI hs, ?_⟩)))))))
          rw [(nx_c hr n).2.1]
    · exact Or.inr c
  by_cases e9 : w = 9
  · exact T_p e9 (ho.resolve_right (fun x => x (Or.inl e9)))
  by_cases e10 : w = 10
  · exact T_q e9 (T_p e10 (ho.resolve_right (fun x => x (Or.inr e10))))
  have nc : ¬ (9 ≤ w.toInt ∧ w.toInt ≤ 10) := by
    have a : w.toInt ≠ 9 := fun x => e9 (Int32.toInt_inj.mp x)
    have b : w.toInt ≠ 10 := fun x => e10 (Int32.toInt_inj.mp x)
    omega
  refine T_q e9 (T_q e10 (T_rw (x_hasN hY w n) (T_bi (fun g => T_some.mpr ?_) (fun g => ?_))))
  · unfold f_X12_of
    exact T_rw (m1 _) (T_bn nc (T_rw (m_isPlace p0 k0 n w) (T_bn g (T_some.mpr ⟨h, rfl⟩))))
  · obtain ⟨v, g1, g2, _⟩ := gv hY g
    refine T_rw g1 (T_some.mpr ?_)
    unfold f_X12_of
    exact T_rw (m1 _) (T_bn nc (T_rw (m_isPlace p0 k0 n w) (T_bp g (T_rw g2 (T_some.mpr ⟨h, rfl⟩)))))
theorem ofN0 {n : Nat} (h : n ≤ 12) : Int32.ofNat n = 0 ↔ n = 0 := by
  rw [← Int32.toInt_inj, onI (by omega)]
  have : (0 : Int32).toInt = 0 := rfl
  omega
theorem op_share {q : SS} (h : INV q) (a v : Int32) : T (f_X11_share q a v) (fun r => T (f_X12_share r.2 a v) (fun s => INV s.2 ∧ r.1 = s.1)) := by
  have hY := INV_RY h
  have p0 := RY_p0 hY
  have m1 : ∀ r, f_X12_in r v 0 9999 = some (bI (0 ≤ v.toInt ∧ v.toInt ≤ 9999)) := fun r => m_in r v 0 9999
  unfold f_X11_share
  refine T_rw (x_isPerson q a) ?_
  rw [RY_p hY]
  refine T_bi (fun g => T_some.mpr ?_) (fun g => ?_)
  · unfold f_X12_share
    exact T_rw (m_isOne p0 a) (T_bn g (T_some.mpr ⟨h, rfl⟩))
  · by_cases c : 0 ≤ v.toInt ∧ v.toInt ≤ 9999
    · refine T_ltn c.1 (T_lep c.2 (T_b (x_now hY) (fun r hr => T_rw (nx_reals hY hr) ?_)))
      have hI := NWX_I h hr
      obtain ⟨e1, e2, e3⟩ := nx_c hr a
      have mod : ∀ {P : Int32 × SS → Prop}, (∀ s, NWM r s → T (if Int32.ofNat (cA r) = 0 then (some ((0 : Int32), s)) else ((f_X12_realOf s a).bind fun r5 => (f_X12_allReal s).bind fun r6 => if r6 = 0 then none else some (((v * r5) / r6), s))) P) → T (f_X12_share r a v) P := by
        intro P k
        unfold f_X12_share
        exact T_rw (m_isOne (RY_p0 (INV_RY hI)) a) (T_bp (by rw [hr.2.1 60 (by decide)]; exact g) (T_rw (m1 _) (T_bp c (T_b (m_now (INV_RY hI)) (fun s hs => T_rw (nm_allReal (INV_RY hI) hs) (k s hs))))))
      by_cases z : Int32.ofNat (cA q) = 0
      · exact T_p z (T_some.mpr (mod (fun s hs => T_p (by rw [e3]; exact z) (T_some.mpr ⟨NWM_I hI hs, rfl⟩))))
      · refine T_q z (T_rw (nx_realsOf hY hr a) (T_q z (T_some.mpr (mod (fun s hs => T_q (by rw [e3]; exact z) (T_rw (nm_realOf (INV_RY hI) hs a) (T_rw (nm_allReal (INV_RY hI) hs) (T_q (by rw [e3]; exact z) (T_some.mpr ⟨NWM_I hI hs, ?_⟩)))))))))
        rw [e2, e3]
    · have key : T (f_X12_share q a v) (fun s => INV s.2 ∧ -1 = s.1) := by
        unfold f_X12_share
        exact T_rw (m_isOne p0 a) (T_bp g (T_rw (m1 _) (T_bn c (T_some.mpr ⟨h, rfl⟩))))
      exact T_lt (fun _ => T_some.mpr key) (fun g => T_le (fun g2 => absurd ⟨g, g2⟩ c) (fun _ => T_some.mpr key))
/-- bits of those of whom nothing counts -/
def sbits (f : Nat → Nat) : Nat → Int32
  | 0 => 0
  | n + 1 => if f n = 0 then sbits f n ||| jshl 1 (Int32.ofNat n) else sbits f n
theorem op_safe {q : SS} (h : INV q) : T (f_X11_safe q) (fun r => T (f_X12_safe r.2) (fun s => INV s.2 ∧ r.1 = s.1)) := by
  have hY := INV_RY h
  have p0 := RY_p0 hY
  have p6 := RY_p6 hY
  unfold f_X11_safe
  refine T_b (x_now hY) (fun r hr => ?_)
  have hI := NWX_I h hr
  have eP := nx_P hY hr
  have hc : ∀ a, cR r a = cR q a := fun a => (nx_c hr a).2.1
  have A : T (b_X11_safe_9 r 0 0) (fun z => z = (sbits (fun i => cR q (Int32.ofNat i)) (q.1 60 1).toInt.toNat, r)) := by
    unfold b_X11_safe_9
    refine T_fx3 (fun z l2 l3 => z = r ∧ ∃ i : Nat, l3 = Int32.ofNat i ∧ (i : Int) ≤ (q.1 60 1).toInt ∧ l2 = sbits (fun i => cR q (Int32.ofNat i)) i) (fun _ _ l3 => (12 - l3.toInt).toNat) ?_ _ _ _ _ ⟨rfl, 0, rfl, by omega, rfl⟩ (by unfold FU; decide)
    rintro rec z l2 l3 ⟨rfl, i, rfl, hi, rfl⟩ hrec
    have ei : (Int32.ofNat i).toInt = (i : Int) := onI (by omega)
    have e2 : (Int32.ofNat (i + 1)).toInt = ((i + 1 : Nat) : Int) := onI (by omega)
    refine T_rw rfl ?_
    rw [eP]
    refine T_le (fun g => T_some.mpr ?_) (fun g => T_rw (nx_realsOf hY hr (Int32.ofNat i)) ?_)
    · have : i = (q.1 60 1).toInt.toNat := by omega
      rw [this]
    · unfold b_X11_safe_34
      rw [oa]
      have cl := cR_le hY (Int32.ofNat i)
      by_cases c : Int32.ofNat (cR q (Int32.ofNat i)) = 0
      · refine T_p c (T_nm (hrec _ _ _ ⟨rfl, i + 1, rfl, by omega, ?_⟩ (by omega)))
        show _ = if cR q (Int32.ofNat i) = 0 then _ else _
        rw [if_pos ((ofN0 cl).mp c)]
      · refine T_q c (hrec _ _ _ ⟨rfl, i + 1, rfl, by omega, ?_⟩ (by omega))
        show _ = if cR q (Int32.ofNat i) = 0 then _ else _
        rw [if_neg (fun x => c ((ofN0 cl).mpr x))]
  refine T_mono A (fun z hz => ?_)
  subst hz
  unfold f_X12_safe
  refine T_b (m_now (INV_RY hI)) (fun s hs => ?_)
  have eP2 : s.1 60 1 = q.1 60 1 := by rw [nm_P hs, hr.2.1 60 (by decide)]
  unfold b_X12_safe_8
  refine T_fx3 (fun z l2 l3 => z = s ∧ ∃ i : Nat, l3 = Int32.ofNat i ∧ (i : Int) ≤ (q.1 60 1).toInt ∧ l2 = sbits (fun i => cR q (Int32.ofNat i)) i) (fun _ _ l3 => (12 - l3.toInt).toNat) ?_ _ _ _ _ ⟨rfl, 0, rfl, by omega, rfl⟩ (by unfold FU; decide)
  rintro rec z l2 l3 ⟨rfl, i, rfl, hi, rfl⟩ hrec
  have ei : (Int32.ofNat i).toInt = (i : Int) := onI (by omega)
  have e2 : (Int32.ofNat (i + 1)).toInt = ((i + 1 : Nat) : Int) := onI (by omega)
  rw [eP2]
  refine T_le (fun g => T_some.mpr ⟨NWM_I hI hs, ?_⟩) (fun g => T_rw (nm_realOf (INV_RY hI) hs (Int32.ofNat i)) ?_)
  · have : i = (q.1 60 1).toInt.toNat := by omega
    rw [this]
  · unfold b_X12_safe_30
    rw [oa, hc]
    have cl := cR_le hY (Int32.ofNat i)
    by_cases c : Int32.ofNat (cR q (Int32.ofNat i)) = 0
    · refine T_p c (T_nm (hrec _ _ _ ⟨rfl, i + 1, rfl, by omega, ?_⟩ (by omega)))
      show _ = if cR q (Int32.ofNat i) = 0 then _ else _
      rw [if_pos ((ofN0 cl).mp c)]
    · refine T_q c (hrec _ _ _ ⟨rfl, i + 1, rfl, by omega, ?_⟩ (by omega))
      show _ = if cR q (Int32.ofNat i) = 0 then _ else _
      rw [if_neg (fun x => c ((ofN0 cl).mpr x))]
/-- who has most, the first of like ones -/
def mst (f : Nat → Nat) : Nat → Nat × Int32
  | 0 => (0, -2)
  | n + 1 => if (mst f n).1 < f n then (f n, Int32.ofNat n) else mst f n
theorem mst_le {f : Nat → Nat} (h : ∀ i, f i ≤ 12) : ∀ n, (mst f n).1 ≤ 12
  | 0 => by show (0 : Nat) ≤ 12; decide
  | n + 1 => by
    show (if (mst f n).1 < f n then (f n, Int32.ofNat n) else mst f n).1 ≤ 12
    split
    · exact h n
    · exact mst_le h n
theorem mst_v {f : Nat → Nat} : ∀ n, ((mst f n).1 = 0 ∧ (mst f n).2 = -2) ∨ (0 < (mst f n).1 ∧ ∃ m, m < n ∧ (mst f n).2 = Int32.ofNat m ∧ (mst f n).1 = f m)
  | 0 => Or.inl ⟨rfl, rfl⟩
  | n + 1 => by
    show (((if (mst f n).1 < f n then (f n, Int32.ofNat n) else mst f n).1 = 0 ∧ (if (mst f n).1 < f n then (f n, Int32.ofNat n) else mst f n).2 = -2) ∨ (0 < (if (mst f n).1 < f n then (f n, Int32.ofNat n) else mst f n).1 ∧ ∃ m, m < n + 1 ∧ (if (mst f n).1 < f n then (f n, Int32.ofNat n) else mst f n).2 = Int32.ofNat m ∧ (if (mst f n).1 < f n then (f n, Int32.ofNat n) else mst f n).1 = f m))
    by_cases c : (mst f n).1 < f n
    · rw [if_pos c]
      exact Or.inr ⟨by show 0 < f n; omega, n, by omega, rfl, rfl⟩
    · rw [if_neg c]
      rcases mst_v n with k | ⟨k1, m, k2, k3, k4⟩
      · exact Or.inl k
      · exact Or.inr ⟨k1, m, by omega, k3, k4⟩
theorem op_likeliest {q : SS} (h : INV q) : T (f_X11_likeliest q) (fun r => T (f_X12_likeliest r.2) (fun s => INV s.2 ∧ r.1 = s.1)) := by
  have hY := INV_RY h
  have p0 := RY_p0 hY
  have p6 := RY_p6 hY
  have hf : ∀ i, (fun i => cR q (Int32.ofNat i)) i ≤ 12 := fun i => cR_le hY _
  unfold f_X11_likeliest
  refine T_b (x_now hY) (fun r hr => ?_)
  have hI := NWX_I h hr
  have eP := nx_P hY hr
  have hc : ∀ a, cR r a = cR q a := fun a => (nx_c hr a).2.1
  have A : T (b_X11_likeliest_13 r 0 (-2) 0) (fun z => z = ((mst (fun i => cR q (Int32.ofNat i)) (q.1 60 1).toInt.toNat).2, r)) := by
    unfold b_X11_likeliest_13
    refine T_fx4 (fun z l2 l3 l4 => z = r ∧ ∃ i : Nat, l4 = Int32.ofNat i ∧ (i : Int) ≤ (q.1 60 1).toInt ∧ l2 = Int32.ofNat (mst (fun i => cR q (Int32.ofNat i)) i).1 ∧ l3 = (mst (fun i => cR q (Int32.ofNat i)) i).2) (fun _ _ _ l4 => (12 - l4.toInt).toNat) ?_ _ _ _ _ _ ⟨rfl, 0, rfl, by omega, rfl, rfl⟩ (by unfold FU; decide)
    rintro rec z l2 l3 l4 ⟨rfl, i, rfl, hi, rfl, rfl⟩ hrec
    have ei : (Int32.ofNat i).toInt = (i : Int) := onI (by omega)
    have e2 : (Int32.ofNat (i + 1)).toInt = ((i + 1 : Nat) : Int) := onI (by omega)
    refine T_rw rfl ?_
    rw [eP]
    have cl := cR_le hY (Int32.ofNat i)
    have ml := mst_le hf i
    refine T_le (fun g => T_some.mpr ?_) (fun g => T_rw (nx_realsOf hY hr (Int32.ofNat i)) ?_)
    · have : i = (q.1 60 1).toInt.toNat := by omega
      rw [this]
    · unfold b_X11_likeliest_45
      rw [oa]
      refine T_le (fun c => hrec _ _ _ _ ⟨rfl, i + 1, rfl, by omega, ?_⟩ (by omega)) (fun c => hrec _ _ _ _ ⟨rfl, i + 1, rfl, by omega, ?_⟩ (by omega))
      · rw [onI (by omega), onI (by omega)] at c
        have e : mst (fun i => cR q (Int32.ofNat i)) (i + 1) = mst (fun i => cR q (Int32.ofNat i)) i := if_neg (by show ¬ _ < cR q (Int32.ofNat i); omega)
        rw [e]
        exact ⟨rfl, rfl⟩
      · rw [onI (by omega), onI (by omega)] at c
        have e : mst (fun i => cR q (Int32.ofNat i)) (i + 1) = (cR q (Int32.ofNat i), Int32.ofNat i) := if_pos (by show _ < cR q (Int32.ofNat i); omega)
        rw [e]
        exact ⟨rfl, rfl⟩
  refine T_mono A (fun z hz => ?_)
  subst hz
  unfold f_X12_likeliest
  refine T_b (m_now (INV_RY hI)) (fun s hs => ?_)
  have eP2 : s.1 60 1 = q.1 60 1 := by rw [nm_P hs, hr.2.1 60 (by decide)]
  unfold b_X12_likeliest_9
  refine T_fx3 (fun z l3 l4 => z = s ∧ ∃ i : Nat, l4 = Int32.ofNat i ∧ (i : Int) ≤ (q.1 60 1).toInt ∧ l3 = (mst (fun i => cR q (Int32.ofNat i)) i).2) (fun _ _ l4 => (12 - l4.toInt).toNat) ?_ _ _ _ _ ⟨rfl, 0, rfl, by omega, rfl⟩ (by unfold FU; decide)
  rintro rec z l3 l4 ⟨rfl, i, rfl, hi, rfl⟩ hrec
  have ei : (Int32.ofNat i).toInt = (i : Int) := onI (by omega)
  have e2 : (Int32.ofNat (i + 1)).toInt = ((i + 1 : Nat) : Int) := onI (by omega)
  rw [eP2]
  have cl := cR_le hY (Int32.ofNat i)
  have ml := mst_le hf i
  have l0 : (0 : Int32).toInt = 0 := rfl
  refine T_le (fun g => T_some.mpr ⟨NWM_I hI hs, ?_⟩) (fun g => T_rw (nm_realOf (INV_RY hI) hs (Int32.ofNat i)) ?_)
  · have : i = (q.1 60 1).toInt.toNat := by omega
    rw [this]
  · unfold b_X12_likeliest_42 b_X12_likeliest_44
    rw [oa, hc]
    have yes : (mst (fun i => cR q (Int32.ofNat i)) i).1 < cR q (Int32.ofNat i) → T (rec z (Int32.ofNat i) (Int32.ofNat (i + 1))) (fun s => INV s.2 ∧ (mst (fun i => cR q (Int32.ofNat i)) (q.1 60 1).toInt.toNat).2 = s.1) := fun c => hrec _ _ _ ⟨rfl, i + 1, rfl, by omega, by
      have e : mst (fun i => cR q (Int32.ofNat i)) (i + 1) = (cR q (Int32.ofNat i), Int32.ofNat i) := if_pos c
      rw [e]⟩ (by omega)
    have no : ¬ (mst (fun i => cR q (Int32.ofNat i)) i).1 < cR q (Int32.ofNat i) → T (rec z (mst (fun i => cR q (Int32.ofNat i)) i).2 (Int32.ofNat (i + 1))) (fun s => INV s.2 ∧ (mst (fun i => cR q (Int32.ofNat i)) (q.1 60 1).toInt.toNat).2 = s.1) := fun c => hrec _ _ _ ⟨rfl, i + 1, rfl, by omega, by
      have e : mst (fun i => cR q (Int32.ofNat i)) (i + 1) = mst (fun i => cR q (Int32.ofNat i)) i := if_neg c
      rw [e]⟩ (by omega)
    refine T_le (fun c => no ?_) (fun c => ?_)
    · rw [onI (by omega)] at c
      omega
    · rw [onI (by omega)] at c
      rcases mst_v (f := fun i => cR q (Int32.ofNat i)) i with ⟨k1, k2⟩ | ⟨k1, m, k2, k3, k4⟩
      · refine T_ltp (by rw [k2]; decide) (yes (by omega))
      · refine T_ltn (by rw [k3, onI (by omega)]; omega) (T_rw (nm_realOf (INV_RY hI) hs (Int32.ofNat i)) (T_rw (nm_realOf (INV_RY hI) hs _) ?_))
        rw [hc, hc, k3]
        have cm := cR_le hY (Int32.ofNat m)
        have k4' : (mst (fun i => cR q (Int32.ofNat i)) i).1 = cR q (Int32.ofNat m) := k4
        rw [k3] at no
        refine T_le (fun d => no ?_) (fun d => yes ?_)
        · rw [onI (by omega), onI (by omega)] at d
          omega
        · rw [onI (by omega), onI (by omega)] at d
          omega

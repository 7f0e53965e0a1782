/-! ===== friend ===== -/
def cL (q : SS) : Nat := cntN (fun t => decide ((q.1 67 t).toInt < 4) && decide (q.1 66 t = 0)) (q.1 60 6).toInt.toNat
def cO (q : SS) (a : Int32) : Nat := cntN (fun t => decide (q.1 65 t = a) && decide ((q.1 67 t).toInt < 4) && decide (q.1 66 t = 0)) (q.1 60 6).toInt.toNat
def cF (q : SS) (a : Int32) : Nat := cntN (fun t => decide (q.1 66 t = 0) && (decide (q.1 67 t ≠ 4) && decide (q.1 65 t ≠ a))) (q.1 60 6).toInt.toNat
theorem cntN_s {p r s : Nat → Bool} : ∀ n, (∀ i, i < n → (p i = true ↔ (r i = true ∨ s i = true)) ∧ ¬ (r i = true ∧ s i = true)) → cntN p n = cntN r n + cntN s n
  | 0, _ => rfl
  | n + 1, h => by
    have ih := cntN_s n (fun i hi => h i (by omega))
    obtain ⟨h1, h2⟩ := h n (by omega)
    show cntN p n + (if p n = true then 1 else 0) = (cntN r n + (if r n = true then 1 else 0)) + (cntN s n + (if s n = true then 1 else 0))
    rw [ih]
    by_cases a : r n = true
    · by_cases b : s n = true
      · exact absurd ⟨a, b⟩ h2
      · rw [if_pos (h1.mpr (Or.inl a)), if_pos a, if_neg b]
        omega
    · by_cases b : s n = true
      · rw [if_pos (h1.mpr (Or.inr b)), if_neg a, if_pos b]
        omega
      · rw [if_neg (fun x => (h1.mp x).elim a b), if_neg a, if_neg b]
        omega
theorem f4 {v : Int32} (h : v.toInt ≤ 4) : v.toInt < 4 ↔ v ≠ 4 := by
  constructor
  · rintro g rfl
    exact absurd g (by decide)
  · intro g
    have : v.toInt ≠ 4 := fun k => g (Int32.toInt_inj.mp k)
    omega
theorem cL_s {q : SS} (h : RY q) (a : Int32) : cL q = cO q a + cF q a := by
  unfold cL cO cF
  refine cntN_s _ (fun i hi => ?_)
  have r := RY_rfolds h i (by omega)
  have e := f4 r.2
  simp only [Bool.and_eq_true, decide_eq_true_eq]
  rw [e]
  by_cases x : q.1 65 i = a
  · simp [x]
  · simp [x]
    exact ⟨fun y => ⟨y.2, y.1⟩, fun y => ⟨y.2, y.1⟩⟩
theorem nx_looseReals {q r : SS} (h : RY q) (n : NWX q r) : f_X8_looseReals r = some (Int32.ofNat (cL q)) := by
  have eK := nx_K h n
  rw [x_looseReals (by rw [eK]; exact RY_k0 h) (by rw [eK]; exact RY_k12 h), eK]
  unfold cL
  rw [cntN_c (fun t ht => by rw [n.2.1 8 (by decide), n.2.1 9 (by decide), RY_forged h, RY_folds h])]
theorem nx_looseRealsOf {q r : SS} (h : RY q) (n : NWX q r) (a : Int32) : f_X8_looseRealsOf r a = some (Int32.ofNat (cO q a)) := by
  have eK := nx_K h n
  rw [x_looseRealsOf (by rw [eK]; exact RY_k0 h) (by rw [eK]; exact RY_k12 h), eK]
  unfold cO
  rw [cntN_c (fun t ht => by rw [n.2.2 t (by omega), n.2.1 8 (by decide), n.2.1 9 (by decide), RY_forged h, RY_folds h])]
/-- the first that is enough, of 0 to most -/
def fst12 (w x al most : Nat) (r : Int32) : Prop := (∃ n : Nat, r = Int32.ofNat n ∧ n ≤ most ∧ x * al ≤ 12 * (w + n) ∧ ∀ m, m < n → ¬ x * al ≤ 12 * (w + m)) ∨ (r = -2 ∧ ∀ m, m ≤ most → ¬ x * al ≤ 12 * (w + m))
theorem fst12_u {w x al most : Nat} (hm : most ≤ 12) {r s : Int32} (h : fst12 w x al most r) (g : fst12 w x al most s) : r = s := by
  rcases h with ⟨n, rfl, h1, h2, h3⟩ | ⟨rfl, h1⟩
  · rcases g with ⟨m, rfl, g1, g2, g3⟩ | ⟨rfl, g1⟩
    · have : n = m := by
        rcases Nat.lt_trichotomy n m with k | k | k
        · exact absurd h2 (g3 n k)
        · exact k
        · exact absurd g2 (h3 m k)
      rw [this]
    · exact absurd h2 (g1 n h1)
  · rcases g with ⟨m, rfl, g1, g2, g3⟩ | ⟨rfl, g1⟩
    · exact absurd g2 (h1 m g1)
    · rfl
theorem mulN {a b : Nat} (h : a * b < 2000000000) (ha : a < 2000000000) (hb : b < 2000000000) : (Int32.ofNat a * Int32.ofNat b).toInt = ((a * b : Nat) : Int) := by
  have e : ((a * b : Nat) : Int) = (a : Int) * (b : Int) := Int.natCast_mul a b
  rw [tmul (by rw [onI ha, onI hb, ← e]; omega) (by rw [onI ha, onI hb, ← e]; omega), onI ha, onI hb, e]
theorem x_fr {r : SS} {w al most : Nat} {x : Int32} (hx : 0 ≤ x.toInt ∧ x.toInt ≤ 12) (hw : w ≤ 12) (ha : al ≤ 12) (hm : most ≤ 12) : T (b_X11_friend_89 r x (Int32.ofNat al) (Int32.ofNat w) (Int32.ofNat most) 0) (fun z => fst12 w x.toInt.toNat al most z.1 ∧ z.2 = r) := by
  have ex : x = Int32.ofNat x.toInt.toNat := (Int32.ofNat_toNatClampNeg x (Int32.le_iff_toInt_le.mpr hx.1)).symm
  generalize hX : x.toInt.toNat = X at *
  have hX12 : X ≤ 12 := by omega
  subst ex
  have hxa : X * al ≤ 144 := Nat.mul_le_mul hX12 ha
  unfold b_X11_friend_89
  refine T_fx6 (fun z l2 l4 l5 l6 l7 => z = r ∧ l2 = Int32.ofNat X ∧ l4 = Int32.ofNat al ∧ l5 = Int32.ofNat w ∧ l6 = Int32.ofNat most ∧ ∃ n : Nat, l7 = Int32.ofNat n ∧ n ≤ most + 1 ∧ ∀ m, m < n → ¬ X * al ≤ 12 * (w + m)) (fun _ _ _ _ _ l7 => (20 - l7.toInt).toNat) ?_ _ _ _ _ _ _ _ ⟨rfl, rfl, rfl, rfl, rfl, 0, rfl, by omega, fun m hm => absurd hm (by omega)⟩ (by unfold FU; decide)
  rintro rec z l2 l4 l5 l6 l7 ⟨rfl, rfl, rfl, rfl, rfl, n, rfl, hn, hno⟩ hr
  have e1 : (Int32.ofNat n).toInt = (n : Int) := onI (by omega)
  have e2 : (Int32.ofNat most).toInt = (most : Int) := onI (by omega)
  have e3 : (Int32.ofNat (n + 1)).toInt = ((n + 1 : Nat) : Int) := onI (by omega)
  have e4 : (12 : Int32) * (Int32.ofNat w + Int32.ofNat n) = Int32.ofNat 12 * Int32.ofNat (w + n) := by rw [Int32.ofNat_add]; rfl
  have e5 : (Int32.ofNat 12 * Int32.ofNat (w + n)).toInt = ((12 * (w + n) : Nat) : Int) := mulN (by omega) (by omega) (by omega)
  have e6 : (Int32.ofNat X * Int32.ofNat al).toInt = ((X * al : Nat) : Int) := mulN (by omega) (by omega) (by omega)
  refine T_lt (fun g => T_some.mpr ⟨Or.inr ⟨rfl, fun m hm => hno m (by omega)⟩, rfl⟩) (fun g => ?_)
  rw [e4]
  refine T_lt (fun g2 => ?_) (fun g2 => T_some.mpr ⟨Or.inl ⟨n, rfl, by omega, by omega, hno⟩, rfl⟩)
  rw [oa]
  refine hr _ _ _ _ _ _ ⟨rfl, rfl, rfl, rfl, rfl, n + 1, rfl, by omega, fun m hm => ?_⟩ (by omega)
  by_cases e : m = n
  · subst e; omega
  · exact hno m (by omega)
theorem m_fr {q s : SS} (h : RY q) (n : NWM q s) {a x : Int32} {most al : Nat} (hx : 0 ≤ x.toInt ∧ x.toInt ≤ 12) (ha : al ≤ 12) (hm : most ≤ 12) : T (b_X12_friend_91 s a x (Int32.ofNat al) (Int32.ofNat most) 0) (fun z => fst12 (cR q a) x.toInt.toNat al most z.1 ∧ z.2 = s) := by
  have hw := cR_le h a
  have nr := nm_realOf h n a
  generalize cR q a = w at *
  have ex : x = Int32.ofNat x.toInt.toNat := (Int32.ofNat_toNatClampNeg x (Int32.le_iff_toInt_le.mpr hx.1)).symm
  generalize hX : x.toInt.toNat = X at *
  have hX12 : X ≤ 12 := by omega
  subst ex
  have hxa : X * al ≤ 144 := Nat.mul_le_mul hX12 ha
  unfold b_X12_friend_91
  refine T_fx6 (fun z l1 l2 l3 l4 l5 => z = s ∧ l1 = a ∧ l2 = Int32.ofNat X ∧ l3 = Int32.ofNat al ∧ l4 = Int32.ofNat most ∧ ∃ n : Nat, l5 = Int32.ofNat n ∧ n ≤ most + 1 ∧ ∀ m, m < n → ¬ X * al ≤ 12 * (w + m)) (fun _ _ _ _ _ l5 => (20 - l5.toInt).toNat) ?_ _ _ _ _ _ _ _ ⟨rfl, rfl, rfl, rfl, rfl, 0, rfl, by omega, fun m hm => absurd hm (by omega)⟩ (by unfold FU; decide)
  rintro rec z l1 l2 l3 l4 l5 ⟨rfl, rfl, rfl, rfl, rfl, n, rfl, hn, hno⟩ hr
  have e1 : (Int32.ofNat n).toInt = (n : Int) := onI (by omega)
  have e2 : (Int32.ofNat most).toInt = (most : Int) := onI (by omega)
  have e3 : (Int32.ofNat (n + 1)).toInt = ((n + 1 : Nat) : Int) := onI (by omega)
  have e4 : (12 : Int32) * (Int32.ofNat w + Int32.ofNat n) = Int32.ofNat 12 * Int32.ofNat (w + n) := by rw [Int32.ofNat_add]; rfl
  have e5 : (Int32.ofNat 12 * Int32.ofNat (w + n)).toInt = ((12 * (w + n) : Nat) : Int) := mulN (by omega) (by omega) (by omega)
  have e6 : (Int32.ofNat X * Int32.ofNat al).toInt = ((X * al : Nat) : Int) := mulN (by omega) (by omega) (by omega)
  refine T_lt (fun g => T_some.mpr ⟨Or.inr ⟨rfl, fun m hm => hno m (by omega)⟩, rfl⟩) (fun g => T_rw nr ?_)
  rw [e4]
  refine T_lt (fun g2 => ?_) (fun g2 => T_some.mpr ⟨Or.inl ⟨n, rfl, by omega, by omega, hno⟩, rfl⟩)
  rw [oa]
  refine hr _ _ _ _ _ _ ⟨rfl, rfl, rfl, rfl, rfl, n + 1, rfl, by omega, fun m hm => ?_⟩ (by omega)
  by_cases e : m = n
  · subst e; omega
  · exact hno m (by omega)
theorem m_fc {q s : SS} (h : RY q) (n : NWM q s) {a x : Int32} (ha : 0 ≤ a.toInt ∧ a.toInt < (q.1 60 1).toInt) {al : Nat} {P : Int32 × SS → Prop} (k : T (b_X12_friend_91 s a x (Int32.ofNat al) (Int32.ofNat (if q.1 62 a.toNatClampNeg = 0 then cF q a else 0)) 0) P) : T (b_X12_friend_50 s a x (Int32.ofNat al) 0 0) P := by
  have p6 := RY_p6 h
  have k12 := RY_k12 h
  have k0 := RY_k0 h
  let p : Nat → Bool := fun t => decide (q.1 62 a.toNatClampNeg = 0) && (decide (q.1 66 t = 0) && (decide (q.1 67 t ≠ 4) && decide (q.1 65 t ≠ a)))
  have ep : cntN p (q.1 60 6).toInt.toNat = (if q.1 62 a.toNatClampNeg = 0 then cF q a else 0) := by
    by_cases c : q.1 62 a.toNatClampNeg = 0
    · rw [if_pos c]
      unfold cF
      refine cntN_c (fun i _ => ?_)
      show (decide (q.1 62 a.toNatClampNeg = 0) && _) = _
      rw [decide_eq_true c, Bool.true_and]
    · rw [if_neg c]
      have : ∀ m, cntN p m = 0 := by
        intro m
        induction m with
        | zero => rfl
        | succ m ih =>
          show cntN p m + (if p m = true then 1 else 0) = 0
          have : p m = false := by
            show (decide (q.1 62 a.toNatClampNeg = 0) && _) = false
            rw [decide_eq_false c, Bool.false_and]
          rw [ih, this]
          rfl
      exact this _
  rw [← ep] at k
  unfold b_X12_friend_50
  refine T_fx6 (fun z l1 l2 l3 l4 l5 => z = s ∧ l1 = a ∧ l2 = x ∧ l3 = Int32.ofNat al ∧ ∃ i : Nat, l5 = Int32.ofNat i ∧ (i : Int) ≤ (q.1 60 6).toInt ∧ l4 = Int32.ofNat (cntN p i)) (fun _ _ _ _ _ l5 => (12 - l5.toInt).toNat) ?_ _ _ _ _ _ _ _ ⟨rfl, rfl, rfl, rfl, 0, rfl, by omega, rfl⟩ (by unfold FU; decide)
  rintro rec z l1 l2 l3 l4 l5 ⟨rfl, rfl, rfl, rfl, i, rfl, hi, rfl⟩ hr
  have ei : (Int32.ofNat i).toInt = (i : Int) := onI (by omega)
  have ci : (Int32.ofNat i).toNatClampNeg = i := onC (by omega)
  have e2 : (Int32.ofNat (i + 1)).toInt = ((i + 1 : Nat) : Int) := onI (by omega)
  rw [nm_K n]
  refine T_le (fun g => ?_) (fun g => T_vp (by omega) (by show (Int32.ofNat i).toInt < 12; omega) ?_)
  · have : i = (q.1 60 6).toInt.toNat := by omega
    rw [this]
    exact k
  · have yes : p i = true → T (rec z l1 l2 (Int32.ofNat al) (Int32.ofNat (cntN p i) + 1) (Int32.ofNat i + 1)) P := fun hp => by
      rw [cnt1 (p := p) hp, oa]
      exact hr _ _ _ _ _ _ ⟨rfl, rfl, rfl, rfl, i + 1, rfl, by omega, rfl⟩ (by omega)
    have no : p i = false → T (rec z l1 l2 (Int32.ofNat al) (Int32.ofNat (cntN p i)) (Int32.ofNat i + 1)) P := fun hp => by
      rw [cnt0 (p := p) hp, oa]
      exact hr _ _ _ _ _ _ ⟨rfl, rfl, rfl, rfl, i + 1, rfl, by omega, rfl⟩ (by omega)
    unfold b_X12_friend_82
    rw [ci, n.2.1 66 (by decide) (by decide)]
    have pi : p i = (decide (q.1 62 l1.toNatClampNeg = 0) && (decide (q.1 66 i = 0) && (decide (q.1 67 i ≠ 4) && decide (q.1 65 i ≠ l1)))) := rfl
    by_cases c : q.1 66 i = 0
    · refine T_p c (T_rw (m_maySlip (q := z) ⟨by omega, by omega⟩ ⟨ha.1, by omega⟩) ?_)
      rw [ci, n.2.2.2.2 i, if_pos (show (i : Int) < (q.1 60 6).toInt by omega), n.2.1 67 (by decide) (by decide), n.2.1 62 (by decide) (by decide)]
      refine T_bi (fun d => no ?_) (fun d => yes ?_)
      · rw [pi]
        by_cases e1 : q.1 62 l1.toNatClampNeg = 0
        · by_cases e3 : q.1 67 i = 4
          · simp [e3]
          · by_cases e4 : q.1 65 i = l1
            · simp [e4]
            · exact absurd ⟨e3, e4, e1⟩ d
        · simp [e1]
      · rw [pi]
        simp [c, d.1, d.2.1, d.2.2]
    · exact T_q c (no (by rw [pi]; simp [c]))
theorem op_friend {q : SS} (h : INV q) (a x : Int32) : T (f_X11_friend q a x) (fun r => T (f_X12_friend r.2 a x) (fun s => INV s.2 ∧ r.1 = s.1)) := by
  have hY := INV_RY h
  have p0 := RY_p0 hY
  have p6 := RY_p6 hY
  have k0 := RY_k0 hY
  have k12 := RY_k12 hY
  have m1 : ∀ r, f_X12_in r x 0 12 = some (bI (0 ≤ x.toInt ∧ x.toInt ≤ 12)) := fun r => m_in r x 0 12
  unfold f_X11_friend
  refine T_rw (x_isPerson q a) ?_
  rw [RY_p hY]
  refine T_bi (fun g => T_some.mpr ?_) (fun g => ?_)
  · unfold f_X12_friend
    exact T_rw (m_isOne p0 a) (T_bn g (T_some.mpr ⟨h, rfl⟩))
  · by_cases c : 0 ≤ x.toInt ∧ x.toInt ≤ 12
    · refine T_ltn c.1 (T_lep c.2 (T_b (x_now hY) (fun r hr => T_rw (nx_reals hY hr) ?_)))
      have hI := NWX_I h hr
      obtain ⟨_, e2, e3⟩ := nx_c hr a
      have hYr := INV_RY hI
      have lA := cA_le hY
      have mod : ∀ {P : Int32 × SS → Prop}, (∀ s, NWM r s → T (if Int32.ofNat (cA q) = 0 then (if x = 0 then (some ((0 : Int32), s)) else (some ((-2 : Int32), s))) else (b_X12_friend_50 s a x (Int32.ofNat (cA q)) (0 : Int32) (0 : Int32))) P) → T (f_X12_friend r a x) P := by
        intro P k
        unfold f_X12_friend
        refine T_rw (m_isOne (RY_p0 hYr) a) (T_bp (by rw [hr.2.1 60 (by decide)]; exact g) (T_rw (m1 _) (T_bp c (T_b (m_now hYr) (fun s hs => T_rw (nm_allReal hYr hs) ?_)))))
        rw [e3]
        exact k s hs
      by_cases z : Int32.ofNat (cA q) = 0
      · refine T_p z ?_
        by_cases z2 : x = 0
        · exact T_p z2 (T_some.mpr (mod (fun s hs => T_p z (T_p z2 (T_some.mpr ⟨NWM_I hI hs, rfl⟩)))))
        · exact T_q z2 (T_some.mpr (mod (fun s hs => T_p z (T_q z2 (T_some.mpr ⟨NWM_I hI hs, rfl⟩)))))
      · refine T_q z (T_rw (nx_realsOf hY hr a) ?_)
        have eP := nx_P hY hr
        have gg := x_get1 (q := r) (by rw [eP]; exact p6) a
        rw [eP, if_pos g, hr.2.1 4 (by decide), RY_child hY] at gg
        refine T_rw gg ?_
        have rc := RY_rchild hY a.toNatClampNeg (by rw [cnI g.1]; exact g.2)
        have cFl : cF q a ≤ 12 := by
          have := cL_s hY a
          have : cL q ≤ 12 := Nat.le_trans (cntN_le _ _) (K12 hY)
          omega
        have mle : (if q.1 62 a.toNatClampNeg = 0 then cF q a else 0) ≤ 12 := by split <;> omega
        have key : T (b_X11_friend_89 r x (Int32.ofNat (cA q)) (Int32.ofNat (cR q a)) (Int32.ofNat (if q.1 62 a.toNatClampNeg = 0 then cF q a else 0)) 0) (fun r => T (f_X12_friend r.2 a x) (fun s => INV s.2 ∧ r.1 = s.1)) := by
          refine T_mono (x_fr c (cR_le hY a) lA mle) (fun w hw => ?_)
          obtain ⟨w1, w2⟩ := hw
          rw [w2]
          refine mod (fun s hs => T_q z (m_fc hYr hs (by rw [hr.2.1 60 (by decide)]; exact g) ?_))
          have em : (if r.1 62 a.toNatClampNeg = 0 then cF r a else 0) = (if q.1 62 a.toNatClampNeg = 0 then cF q a else 0) := by
            unfold cF
            rw [hr.2.1 62 (by decide), hr.2.1 66 (by decide), hr.2.1 67 (by decide), hr.2.1 65 (by decide), hr.2.1 60 (by decide)]
          rw [em]
          refine T_mono (m_fr hYr hs c lA mle) (fun v hv => ?_)
          obtain ⟨v1, v2⟩ := hv
          rw [e2] at v1
          rw [v2]
          exact ⟨NWM_I hI hs, fst12_u mle w1 v1⟩
        unfold b_X11_friend_84
        by_cases ch : q.1 62 a.toNatClampNeg = 1
        · rw [if_neg (by rw [ch]; decide)] at key
          exact T_p ch key
        · have c0 : q.1 62 a.toNatClampNeg = 0 := by
            have : (q.1 62 a.toNatClampNeg).toInt ≠ 1 := fun k => ch (Int32.toInt_inj.mp k)
            exact eq0.mpr (by omega)
          rw [if_pos c0] at key
          refine T_q ch (T_rw (nx_looseReals hY hr) (T_rw (nx_looseRealsOf hY hr a) ?_))
          have es : Int32.ofNat (cL q) - Int32.ofNat (cO q a) = Int32.ofNat (cF q a) := by
            rw [cL_s hY a, Int32.ofNat_add, Int32.add_comm]
            exact Int32.add_sub_cancel _ _
          rw [es]
          exact key
    · have key : T (f_X12_friend q a x) (fun s => INV s.2 ∧ -1 = s.1) := by
        unfold f_X12_friend
        exact T_rw (m_isOne p0 a) (T_bp g (T_rw (m1 _) (T_bn c (T_some.mpr ⟨h, rfl⟩))))
      exact T_lt (fun _ => T_some.mpr key) (fun g => T_le (fun g2 => absurd ⟨g, g2⟩ c) (fun _ => T_some.mpr key))

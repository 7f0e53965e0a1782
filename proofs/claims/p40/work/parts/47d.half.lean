/-! ===== half ===== -/
def bc (n : Nat) : Nat := n % 2 + n / 2 % 2 + n / 4 % 2 + n / 8 % 2 + n / 16 % 2 + n / 32 % 2
theorem bc_le (n : Nat) : bc n ≤ 6 := by
  unfold bc
  omega
theorem bcX_q (q : SS) : f_J6_bitCount_0f7a4 q = f_J6_bitCount_0f7a4 q00 := rfl
theorem bcM_q (q : SS) : f_X12_bitsOf q = f_X12_bitsOf q00 := rfl
theorem bcX_t : ∀ n, n < 64 → f_J6_bitCount_0f7a4 q00 (Int32.ofNat n) = some (Int32.ofNat (bc n)) := by decide +kernel
set_option maxRecDepth 100000 in
theorem bcM_t : ∀ n, n < 64 → f_X12_bitsOf q00 (Int32.ofNat n) = some (Int32.ofNat (bc n)) := by decide +kernel
theorem x_bc (q : SS) {n : Nat} (h : n < 64) : f_J6_bitCount_0f7a4 q (Int32.ofNat n) = some (Int32.ofNat (bc n)) := by rw [bcX_q]; exact bcX_t n h
theorem m_bc (q : SS) {n : Nat} (h : n < 64) : f_X12_bitsOf q (Int32.ofNat n) = some (Int32.ofNat (bc n)) := by rw [bcM_q]; exact bcM_t n h
theorem shl_t : ∀ n, n < 7 → (jshl 1 (Int32.ofNat n)).toInt = 2 ^ n := by decide +kernel
theorem shl_P {p : Int32} (h0 : 0 ≤ p.toInt) (h6 : p.toInt ≤ 6) : (jshl 1 p).toInt = ((2 ^ p.toInt.toNat : Nat) : Int) := by
  obtain ⟨m, hm, rfl⟩ := ofN (n := 7) h0 (by omega)
  rw [shl_t m hm, onI (by omega)]
  show _ = ((2 ^ m : Nat) : Int)
  simp
/-- real ones of a set, of those ahead of i -/
def ssN (f : Nat → Nat) (n : Nat) : Nat → Nat
  | 0 => 0
  | i + 1 => if (jshr (Int32.ofNat n) (Int32.ofNat i)) &&& (1 : Int32) = 1 then ssN f n i + f i else ssN f n i
theorem ssN_le {f : Nat → Nat} (h : ∀ i, f i ≤ 12) (n : Nat) : ∀ i, ssN f n i ≤ 12 * i
  | 0 => Nat.le_refl _
  | i + 1 => by
    have := ssN_le h n i
    have := h i
    have e : ssN f n (i + 1) = ssN f n i + f i ∨ ssN f n (i + 1) = ssN f n i := by
      by_cases c : (jshr (Int32.ofNat n) (Int32.ofNat i)) &&& (1 : Int32) = 1
      · exact Or.inl (if_pos c)
      · exact Or.inr (if_neg c)
    rcases e with e | e
    · rw [e]
      omega
    · rw [e]
      omega
/-- the best of the sets ahead of n, and its size -/
def hsN (S : Nat → Nat) (A : Nat) : Nat → Int32 × Nat
  | 0 => (-2, 7)
  | n + 1 => if bc n < (hsN S A n).2 ∧ A ≤ 2 * S n then (Int32.ofNat n, bc n) else hsN S A n
theorem hsN_v {S : Nat → Nat} {A : Nat} : ∀ n, ((hsN S A n).1 = -2 ∧ (hsN S A n).2 = 7) ∨ ∃ m, m < n ∧ (hsN S A n).1 = Int32.ofNat m ∧ (hsN S A n).2 = bc m
  | 0 => Or.inl ⟨rfl, rfl⟩
  | n + 1 => by
    by_cases c : bc n < (hsN S A n).2 ∧ A ≤ 2 * S n
    · have e : hsN S A (n + 1) = (Int32.ofNat n, bc n) := if_pos c
      rw [e]
      exact Or.inr ⟨n, by omega, rfl, rfl⟩
    · have e : hsN S A (n + 1) = hsN S A n := if_neg c
      rw [e]
      rcases hsN_v n with k | ⟨m, k1, k2⟩
      · exact Or.inl k
      · exact Or.inr ⟨m, by omega, k2⟩
theorem x_set2 {q r : SS} (h : RY q) (n : NWX q r) {b : Nat} : f_X11_realsOfSet r (Int32.ofNat b) = some (Int32.ofNat (ssN (fun i => cR q (Int32.ofNat i)) b (q.1 60 1).toInt.toNat)) := by
  have p0 := RY_p0 h
  have p6 := RY_p6 h
  have eP := nx_P h n
  unfold f_X11_realsOfSet b_X11_realsOfSet_5
  refine T_e ?_
  refine T_fx3 (fun l2 l3 l4 => l2 = Int32.ofNat b ∧ ∃ i : Nat, l4 = Int32.ofNat i ∧ (i : Int) ≤ (q.1 60 1).toInt ∧ l3 = Int32.ofNat (ssN (fun i => cR q (Int32.ofNat i)) b i)) (fun _ _ l4 => (12 - l4.toInt).toNat) ?_ _ _ _ _ ⟨rfl, 0, rfl, by omega, rfl⟩ (by unfold FU; decide)
  rintro rec l2 l3 l4 ⟨rfl, i, rfl, hi, rfl⟩ hr
  have ei : (Int32.ofNat i).toInt = (i : Int) := onI (by omega)
  have e2 : (Int32.ofNat (i + 1)).toInt = ((i + 1 : Nat) : Int) := onI (by omega)
  refine T_rw rfl ?_
  rw [eP]
  refine T_le (fun g => T_some.mpr ?_) (fun g => ?_)
  · have : i = (q.1 60 1).toInt.toNat := by omega
    rw [this]
  · unfold b_X11_realsOfSet_36
    rw [oa]
    by_cases c : (jshr (Int32.ofNat b) (Int32.ofNat i)) &&& (1 : Int32) = 1
    · refine T_p c (T_rw (nx_realsOf h n _) (T_nm (hr _ _ _ ⟨rfl, i + 1, rfl, by omega, ?_⟩ (by omega))))
      have e : ssN (fun i => cR q (Int32.ofNat i)) b (i + 1) = ssN (fun i => cR q (Int32.ofNat i)) b i + cR q (Int32.ofNat i) := if_pos c
      rw [e, Int32.ofNat_add]
    · refine T_q c (hr _ _ _ ⟨rfl, i + 1, rfl, by omega, ?_⟩ (by omega))
      have e : ssN (fun i => cR q (Int32.ofNat i)) b (i + 1) = ssN (fun i => cR q (Int32.ofNat i)) b i := if_neg c
      rw [e]
theorem two2 {n : Nat} (h : n ≤ 100) : ((2 : Int32) * Int32.ofNat n).toInt = ((2 * n : Nat) : Int) := mulN (a := 2) (b := n) (by omega) (by omega) (by omega)
theorem op_half {q : SS} (h : INV q) : T (f_X11_half q) (fun r => T (f_X12_half r.2) (fun s => INV s.2 ∧ r.1 = s.1)) := by
  have hY := INV_RY h
  have p0 := RY_p0 hY
  have p6 := RY_p6 hY
  have lA := cA_le hY
  have l0 : (0 : Int32).toInt = 0 := rfl
  unfold f_X11_half
  refine T_b (x_now hY) (fun r hr => T_rw (nx_reals hY hr) ?_)
  have hI := NWX_I h hr
  have hYr := INV_RY hI
  have eP := nx_P hY hr
  have hc : ∀ a, cR r a = cR q a := fun a => (nx_c hr a).2.1
  have hA : cA r = cA q := (nx_c hr 0).2.2
  have mod : ∀ {P : Int32 × SS → Prop}, (∀ s, NWM r s → T (b_X12_half_14 s (Int32.ofNat (cA q)) (-2) 0) P) → T (f_X12_half r) P := by
    intro P k
    unfold f_X12_half
    refine T_b (m_now hYr) (fun s hs => T_rw (nm_allReal hYr hs) ?_)
    rw [hA]
    exact k s hs
  have hsh := shl_P p0 p6
  have h64 : 2 ^ (q.1 60 1).toInt.toNat ≤ 64 := by
    have : (q.1 60 1).toInt.toNat ≤ 6 := by omega
    exact Nat.pow_le_pow_right (by decide) this
  have h1 : 1 ≤ 2 ^ (q.1 60 1).toInt.toNat := Nat.one_le_two_pow
  generalize hN : 2 ^ (q.1 60 1).toInt.toNat = N at *
  have cl : ∀ i, (fun i => cR q (Int32.ofNat i)) i ≤ 12 := fun i => cR_le hY _
  refine T_eq (fun z => T_some.mpr (mod (fun s hs => ?_))) (fun z => ?_)
  · unfold b_X12_half_14
    rw [fx4_s]
    have eP2 : s.1 60 1 = q.1 60 1 := by rw [nm_P hs, hr.2.1 60 (by decide)]
    rw [eP2]
    exact T_len (by omega) (T_lep (by rw [z]; decide) (T_some.mpr ⟨NWM_I hI hs, rfl⟩))
  · have zA : 0 < cA q := by
      have : (Int32.ofNat (cA q)).toInt = (cA q : Int) := onI (by omega)
      omega
    have eA : (Int32.ofNat (cA q)).toInt = (cA q : Int) := onI (by omega)
    let S : Nat → Nat := fun n => ssN (fun i => cR q (Int32.ofNat i)) n (q.1 60 1).toInt.toNat
    have hS : ∀ n, S n ≤ 100 := fun n => by
      have := ssN_le cl n (q.1 60 1).toInt.toNat
      show ssN _ _ _ ≤ 100
      omega
    have A : T (b_X11_half_27 r (Int32.ofNat (cA q)) (-2) 7 0) (fun w => w = ((hsN S (cA q) N).1, r)) := by
      unfold b_X11_half_27
      refine T_fx5 (fun w l2 l3 l4 l5 => w = r ∧ l2 = Int32.ofNat (cA q) ∧ ∃ n : Nat, l5 = Int32.ofNat n ∧ n ≤ N ∧ l3 = (hsN S (cA q) n).1 ∧ l4 = Int32.ofNat (hsN S (cA q) n).2) (fun _ _ _ _ l5 => (100 - l5.toInt).toNat) ?_ _ _ _ _ _ _ ⟨rfl, rfl, 0, rfl, by omega, rfl, rfl⟩ (by unfold FU; decide)
      rintro rec w l2 l3 l4 l5 ⟨rfl, rfl, n, rfl, hn, rfl, rfl⟩ hrec
      have en : (Int32.ofNat n).toInt = (n : Int) := onI (by omega)
      have en2 : (Int32.ofNat (n + 1)).toInt = ((n + 1 : Nat) : Int) := onI (by omega)
      have f7 : (hsN S (cA q) n).2 ≤ 7 := by
        rcases hsN_v (S := S) (A := cA q) n with ⟨_, k⟩ | ⟨m, _, _, k⟩
        · omega
        · have := bc_le m; omega
      have ef : (Int32.ofNat (hsN S (cA q) n).2).toInt = ((hsN S (cA q) n).2 : Int) := onI (by omega)
      have b6 := bc_le n
      have eb : (Int32.ofNat (bc n)).toInt = (bc n : Int) := onI (by omega)
      refine T_rw rfl ?_
      rw [eP]
      refine T_le (fun g => T_some.mpr ?_) (fun g => T_rw (x_bc w (by omega)) ?_)
      · have : n = N := by omega
        rw [this]
      · have no : ¬ (bc n < (hsN S (cA q) n).2 ∧ cA q ≤ 2 * S n) → T (rec w (Int32.ofNat (cA q)) (hsN S (cA q) n).1 (Int32.ofNat (hsN S (cA q) n).2) (Int32.ofNat (n + 1))) (fun w' => w' = ((hsN S (cA q) N).1, w)) := fun c => hrec _ _ _ _ _ ⟨rfl, rfl, n + 1, rfl, by omega, by
            have e : hsN S (cA q) (n + 1) = hsN S (cA q) n := if_neg c
            rw [e]
            exact ⟨rfl, rfl⟩⟩ (by omega)
        unfold b_X11_half_75
        rw [oa]
        refine T_le (fun c => no (fun x => by omega)) (fun c => T_rw (x_set2 hY hr) ?_)
        have es := two2 (hS n)
        refine T_lt (fun d => no (fun x => ?_)) (fun d => hrec _ _ _ _ _ ⟨rfl, rfl, n + 1, rfl, by omega, ?_⟩ (by omega))
        · have d' : ((2 : Int32) * Int32.ofNat (S n)).toInt < (Int32.ofNat (cA q)).toInt := d
          omega
        · have d' : (Int32.ofNat (cA q)).toInt ≤ ((2 : Int32) * Int32.ofNat (S n)).toInt := d
          have e : hsN S (cA q) (n + 1) = (Int32.ofNat n, bc n) := if_pos ⟨by omega, by omega⟩
          rw [e]
          exact ⟨rfl, rfl⟩
    refine T_mono A (fun w hw => ?_)
    subst hw
    refine mod (fun s hs => ?_)
    have eP2 : s.1 60 1 = q.1 60 1 := by rw [nm_P hs, hr.2.1 60 (by decide)]
    unfold b_X12_half_14
    refine T_fx4 (fun w l1 l2 l3 => w = s ∧ l1 = Int32.ofNat (cA q) ∧ ∃ n : Nat, l3 = Int32.ofNat n ∧ n ≤ N ∧ l2 = (hsN S (cA q) n).1) (fun _ _ _ l3 => (100 - l3.toInt).toNat) ?_ _ _ _ _ _ ⟨rfl, rfl, 0, rfl, by omega, rfl⟩ (by unfold FU; decide)
    rintro rec w l1 l2 l3 ⟨rfl, rfl, n, rfl, hn, rfl⟩ hrec
    have en : (Int32.ofNat n).toInt = (n : Int) := onI (by omega)
    have en2 : (Int32.ofNat (n + 1)).toInt = ((n + 1 : Nat) : Int) := onI (by omega)
    have b6 := bc_le n
    have eb : (Int32.ofNat (bc n)).toInt = (bc n : Int) := onI (by omega)
    rw [eP2]
    refine T_le (fun g => T_some.mpr ⟨NWM_I hI hs, ?_⟩) (fun g => T_len (by omega) ?_)
    · have : n = N := by omega
      rw [this]
    · have no : ¬ (bc n < (hsN S (cA q) n).2 ∧ cA q ≤ 2 * S n) → T (rec w (Int32.ofNat (cA q)) (hsN S (cA q) n).1 (Int32.ofNat (n + 1))) (fun w' => INV w'.2 ∧ (hsN S (cA q) N).1 = w'.1) := fun c => hrec _ _ _ _ ⟨rfl, rfl, n + 1, rfl, by omega, by
          have e : hsN S (cA q) (n + 1) = hsN S (cA q) n := if_neg c
          rw [e]⟩ (by omega)
      have yes : (bc n < (hsN S (cA q) n).2 ∧ cA q ≤ 2 * S n) → T (rec w (Int32.ofNat (cA q)) (Int32.ofNat n) (Int32.ofNat (n + 1))) (fun w' => INV w'.2 ∧ (hsN S (cA q) N).1 = w'.1) := fun c => hrec _ _ _ _ ⟨rfl, rfl, n + 1, rfl, by omega, by
          have e : hsN S (cA q) (n + 1) = (Int32.ofNat n, bc n) := if_pos c
          rw [e]⟩ (by omega)
      unfold b_X12_half_34
      refine T_fx6 (fun y m1 m2 m3 m4 m5 => y = w ∧ m1 = Int32.ofNat (cA q) ∧ m2 = (hsN S (cA q) n).1 ∧ m3 = Int32.ofNat n ∧ ∃ i : Nat, m5 = Int32.ofNat i ∧ (i : Int) ≤ (q.1 60 1).toInt ∧ m4 = Int32.ofNat (ssN (fun i => cR q (Int32.ofNat i)) n i)) (fun _ _ _ _ _ m5 => (12 - m5.toInt).toNat) ?_ _ _ _ _ _ _ _ ⟨rfl, rfl, rfl, rfl, 0, rfl, by omega, rfl⟩ (by unfold FU; decide)
      rintro rec2 y m1 m2 m3 m4 m5 ⟨rfl, rfl, rfl, rfl, i, rfl, hi, rfl⟩ hrec2
      have ei : (Int32.ofNat i).toInt = (i : Int) := onI (by omega)
      have e2 : (Int32.ofNat (i + 1)).toInt = ((i + 1 : Nat) : Int) := onI (by omega)
      rw [eP2]
      unfold b_X12_half_93 b_X12_half_95 b_X12_half_64
      rw [oa, oa]
      refine T_le (fun g2 => ?_) (fun g2 => ?_)
      · have ie : i = (q.1 60 1).toInt.toNat := by omega
        subst ie
        have es := two2 (hS n)
        refine T_lt (fun d => no (fun x => ?_)) (fun d => ?_)
        · have d' : ((2 : Int32) * Int32.ofNat (S n)).toInt < (Int32.ofNat (cA q)).toInt := d
          omega
        · have d' : (Int32.ofNat (cA q)).toInt ≤ ((2 : Int32) * Int32.ofNat (S n)).toInt := d
          have dd : cA q ≤ 2 * S n := by omega
          rcases hsN_v (S := S) (A := cA q) n with ⟨k1, k2⟩ | ⟨m, k0, k1, k2⟩
          · refine T_ltp (by rw [k1]; decide) (yes ⟨by omega, dd⟩)
          · have bm := bc_le m
            have ebm : (Int32.ofNat (bc m)).toInt = (bc m : Int) := onI (by omega)
            rw [k1] at no ⊢
            refine T_ltn (by rw [onI (by omega)]; omega) (T_rw (m_bc y (by omega)) (T_rw (m_bc y (by omega)) ?_))
            refine T_le (fun e => no (fun x => by omega)) (fun e => yes ⟨by omega, dd⟩)
      · by_cases c : (jshr (Int32.ofNat n) (Int32.ofNat i)) &&& (1 : Int32) = 1
        · refine T_p c (T_rw (nm_realOf hYr hs _) (T_nm (hrec2 _ _ _ _ _ _ ⟨rfl, rfl, rfl, rfl, i + 1, rfl, by omega, ?_⟩ (by omega))))
          have e : ssN (fun i => cR q (Int32.ofNat i)) n (i + 1) = ssN (fun i => cR q (Int32.ofNat i)) n i + cR q (Int32.ofNat i) := if_pos c
          rw [e, Int32.ofNat_add, hc]
        · refine T_q c (hrec2 _ _ _ _ _ _ ⟨rfl, rfl, rfl, rfl, i + 1, rfl, by omega, ?_⟩ (by omega))
          have e : ssN (fun i => cR q (Int32.ofNat i)) n (i + 1) = ssN (fun i => cR q (Int32.ofNat i)) n i := if_neg c
          rw [e]

/-! ===== a told law, on either side ===== -/
def LAw2 (qc q : SS) (cs : Nat → Nat) : Prop := cs 0 = 0 ∧ (cs (q.1 76 0).toInt.toNat : Int) = (qc.1 12 4).toInt ∧ ∀ l : Nat, (l : Int) < (q.1 76 0).toInt → lineAl (qc.1 13) (qc.1 14) (cs l) (cs (l + 1)) (q.1 74) (q.1 75) (sLo q l) (q.1 77 l).toInt (q.1 78 l).toInt
def LAw (q : SS) (cs : Nat → Nat) : Prop := LAw2 q q cs
def RLW (q : SS) : Prop := (q.1 60 30 = 0 ∧ (q.1 12 4).toInt ≤ 0) ∨ (q.1 60 30 = 1 ∧ 0 < (q.1 12 4).toInt ∧ (q.1 12 4).toInt ≤ 121 ∧ ∃ cs, LAw q cs)
theorem evl_N {N N' A W : Nat → Int32} (h : ∀ i, i < 6 → N i = N' i) : ∀ (n i : Nat) (st : List Int32) (d : Nat), dp A W n i st.length = some d → evl N A W n i st = evl N' A W n i st
  | 0, _, _, _, _ => rfl
  | n + 1, i, st, d, hd => by
    have hd' : (stepd (A i) (W i) st.length).bind (fun d' => dp A W n (i + 1) d') = some d := hd
    cases g : stepd (A i) (W i) st.length with
    | none => rw [g] at hd'; cases hd'
    | some d1 =>
      rw [g] at hd'
      have hd1 : dp A W n (i + 1) d1 = some d := hd'
      have e : stp N (A i) (W i) st = stp N' (A i) (W i) st := by
        unfold stp
        by_cases c2 : A i = 2
        · rw [c2] at g
          have := stepd_2 g
          rw [h (W i).toInt.toNat (by omega)]
        · rw [if_neg c2, if_neg c2]
      have l1 : (stp N' (A i) (W i) st).length = d1 := by
        unfold stp
        unfold stepd at g
        by_cases c1 : A i = 1
        · rw [if_pos c1] at g ⊢
          exact Option.some.inj g
        rw [if_neg c1] at g ⊢
        by_cases c2 : A i = 2
        · rw [if_pos c2] at g ⊢
          split at g
          · exact Option.some.inj g
          · cases g
        rw [if_neg c2] at g ⊢
        by_cases c3 : A i = 3
        · rw [if_pos (Or.inl c3)] at g
          rw [if_pos c3]
          split at g
          · cases st with
            | nil => exact absurd (by assumption : 1 ≤ ([] : List Int32).length) (by decide)
            | cons x r => exact Option.some.inj g
          · cases g
        rw [if_neg c3]
        by_cases c4 : A i = 4
        · rw [if_pos (Or.inr c4)] at g
          rw [if_pos c4]
          split at g
          · cases st with
            | nil => exact absurd (by assumption : 1 ≤ ([] : List Int32).length) (by decide)
            | cons x r => exact Option.some.inj g
          · cases g
        rw [if_neg c4]
        rw [if_neg (fun x => x.elim c3 c4)] at g
        split at g
        · cases st with
          | nil => exact absurd (by assumption : 2 ≤ ([] : List Int32).length) (by decide)
          | cons x r =>
            cases r with
            | nil => exact absurd (by assumption : 2 ≤ ([x] : List Int32).length) (by show ¬ (2 ≤ 1); omega)
            | cons u r =>
              have := Option.some.inj g
              show r.length + 1 = d1
              rw [List.length_cons, List.length_cons] at this
              omega
        · cases g
      show evl N A W n (i + 1) (stp N (A i) (W i) st) = evl N' A W n (i + 1) (stp N' (A i) (W i) st)
      rw [e]
      exact evl_N h n (i + 1) _ d (by rw [l1]; exact hd1)
/-- the class's loop at a mark -/
theorem W_63 {q y : SS} {l7 c32 v : Int32} {c k : Nat} {P : Int32 × SS → Prop} (f : Fr wE v0 q y) (h : CP y [v]) (hc : c32.toInt = (c : Int)) (hb : (c : Int) < (q.1 12 4).toInt) (h121 : (q.1 12 4).toInt ≤ 121) (h63 : q.1 13 c = 63) (K : ∀ (y' : SS), Fr wE v0 q y' → CP y' [] → y'.1 16 = y.1 16 → T (fx3 FW k y' (if v = 0 then 0 else 1) (c32 + 1)) P) : T (fx3 FW (k + 1) y l7 c32) P := by
  have l121 : (121 : Int32).toInt = 121 := rfl
  have e4 : y.1 12 4 = q.1 12 4 := f.1 12 4 rfl
  have ix : c32.toNatClampNeg = c := by
    show c32.toInt.toNat = _
    omega
  have e13 : y.1 13 = q.1 13 := Fr_r f (fun _ => rfl)
  show T (FW (fx3 FW k) y l7 c32) P
  generalize hrec : fx3 FW k = rec
  unfold FW b_X4_workOut_100 b_X4_workOut_145
  rw [e4, e13, ix]
  refine T_len (by omega) (T_len (by omega) (T_vp (by omega) (by show c32.toInt < 121; omega) (T_nm (T_p h63 (T_b (CP_pop h (by decide)) (fun r hr => ?_))))))
  have fr : Fr wE v0 q r.2 := by
    rw [hr.2.2]
    exact Fr_sI f rfl
  have r16 : r.2.1 16 = y.1 16 := by
    rw [hr.2.2]
    exact sI_ro (by decide)
  have := K r.2 fr hr.2.1 r16
  rw [hrec] at this
  rw [hr.1]
  refine T_i (fun c => ?_) (fun c => ?_)
  · rw [if_pos c] at this; exact this
  · rw [if_neg c] at this; exact this
theorem W_59 {q y : SS} {l7 c32 v : Int32} {c k : Nat} {P : Int32 × SS → Prop} (f : Fr wE v0 q y) (h : CP y [v]) (hc : c32.toInt = (c : Int)) (hb : (c : Int) < (q.1 12 4).toInt) (h121 : (q.1 12 4).toInt ≤ 121) (h59 : q.1 13 c = 59) (K1 : l7 ≠ 0 → ∀ r : Int32 × SS, r.1 = v → P r) (K0 : l7 = 0 → ∀ (y' : SS), Fr wE v0 q y' → CP y' [] → y'.1 16 = y.1 16 → T (fx3 FW k y' 1 (c32 + 1)) P) : T (fx3 FW (k + 1) y l7 c32) P := by
  have l121 : (121 : Int32).toInt = 121 := rfl
  have e4 : y.1 12 4 = q.1 12 4 := f.1 12 4 rfl
  have ix : c32.toNatClampNeg = c := by
    show c32.toInt.toNat = _
    omega
  have e13 : y.1 13 = q.1 13 := Fr_r f (fun _ => rfl)
  show T (FW (fx3 FW k) y l7 c32) P
  generalize hrec : fx3 FW k = rec
  unfold FW b_X4_workOut_145
  rw [e4, e13, ix]
  refine T_len (by omega) (T_len (by omega) (T_vp (by omega) (by show c32.toInt < 121; omega) (T_nm (T_q (by rw [h59]; decide) (T_p h59 (T_b (CP_pop h (by decide)) (fun r hr => T_i (fun c => ?_) (fun c => T_some.mpr (K1 c _ hr.1)))))))))
  have fr : Fr wE v0 q r.2 := by
    rw [hr.2.2]
    exact Fr_sI f rfl
  have r16 : r.2.1 16 = y.1 16 := by
    rw [hr.2.2]
    exact sI_ro (by decide)
  have := K0 c r.2 fr hr.2.1 r16
  rw [hrec] at this
  exact this
/-- a whole segment of the class's, ended by its mark -/
theorem x_segv {q y : SS} {A' W' N : Nat → Int32} {l7 c32 : Int32} {c k : Nat} {s e : Int} {v : Int32} {P : Int32 × SS → Prop} (f : Fr wE v0 q y) (h : CP y []) (hc : c32.toInt = (c : Int)) (se : s ≤ e) (hs : 0 ≤ s) (hb : (c : Int) + (e - s) ≤ (q.1 12 4).toInt) (h121 : (q.1 12 4).toInt ≤ 121) (ha : segAl (q.1 13) (q.1 14) c A' W' s e) (ok : okSeg A' W' s e) (hN : ∀ i, i < 6 → y.1 16 i = N i) (hv : evl N A' W' (e - s).toNat s.toNat [] = [v]) (K : ∀ (y' : SS) (e32 : Int32), Fr wE v0 q y' → CP y' [v] → e32.toInt = ((c + (e - s).toNat : Nat) : Int) → y'.1 16 = y.1 16 → T (fx3 FW k y' l7 e32) P) : T (fx3 FW (k + (e - s).toNat) y l7 c32) P := by
  refine x_seg (A' := A') (W' := W') (e - s).toNat c s.toNat k 1 y c32 [] f h hc (Nat.zero_le _) (by omega) h121 (fun j hj => ha j (by omega)) ok (fun y' e32 g1 g2 g3 g4 g5 => ?_)
  rw [evl_N hN _ _ [] 1 ok, hv] at g2
  exact K y' e32 g1 g2 (by omega) g5
theorem T2_P {α β : Type} {o1 : Option α} {o2 : Option β} {R : α → β → Prop} (h : T2 o1 o2 R) : T o1 (fun a => ∃ b, o2 = some b ∧ R a b) := by
  obtain ⟨a, b, h1, h2, hr⟩ := h
  exact ⟨a, h1, b, h2, hr⟩
theorem cs_le {qc q : SS} {cs : Nat → Nat} (h : LAw2 qc q cs) (hm : 0 ≤ (q.1 76 0).toInt) {l : Nat} (hl : (l : Int) ≤ (q.1 76 0).toInt) : (cs l : Int) ≤ (qc.1 12 4).toInt := by
  rw [← h.2.1]
  have k : ∀ j : Nat, ((l + j : Nat) : Int) ≤ (q.1 76 0).toInt → cs l ≤ cs (l + j) := by
    intro j
    induction j with
    | zero => intro _; exact Nat.le_refl _
    | succ j ih =>
      intro hj
      have := lineAl_lt (h.2.2 (l + j) (by omega))
      have e : l + j + 1 = l + (j + 1) := by omega
      rw [e] at this
      have := ih (by omega)
      omega
  have := k ((q.1 76 0).toInt.toNat - l) (by omega)
  rw [show l + ((q.1 76 0).toInt.toNat - l) = (q.1 76 0).toInt.toNat by omega] at this
  omega
def FGv (rec : SS → Int32 → Int32 → Int32 → Option (Int32 × SS)) (q : SS) (l1 l2 l3 : Int32) : Option (Int32 × SS) :=
  if vin l1 2 then (if (((61 : Int32) * l1) + (q.1 76 l1.toNatClampNeg)) ≤ l3 then (some ((0 : Int32), q)) else (if vin l3 122 then (if (q.1 77 l3.toNatClampNeg) = l2 then (b_X12_gives_47 q l1 l3) else (if vin l3 122 then (f_X12_worked q l1 l2 (q.1 77 l3.toNatClampNeg)).bind fun r3 => if r3.1 = 0 then (if vin l3 122 then nm (r3.2.1 78 l3.toNatClampNeg) fun v4 => rec r3.2 l1 v4 (l3 + (1 : Int32)) else none) else (b_X12_gives_47 r3.2 l1 l3) else none)) else none)) else none
theorem FGv_e : b_X12_gives_7 = fx4 FGv FU := rfl
theorem ev_lines {qc q : SS} {cs : Nat → Nat} {N : Nat → Int32} (hW : RW q) (ht : q.1 60 30 = 1) (h121 : (qc.1 12 4).toInt ≤ 121) (hL : LAw2 qc q cs) (hN : ∀ i, i < 6 → N i = q.1 79 i) : ∀ (d l : Nat) (y z : SS) (kc km : Nat) (c32 l2 l3 : Int32), (l : Int) + d = (q.1 76 0).toInt → Fr wE v0 qc y → CP y [] → y.1 16 = N → F80 q z → c32.toInt = (cs l : Int) → l2.toInt = sLo q l → l3.toInt = (l : Int) → (qc.1 12 4).toInt - cs l < (kc : Int) → d < km → T2 (fx3 FW kc y 1 c32) (fx4 FGv km z 0 l2 l3) (fun r s => r.1 = s.1) := by
  intro d
  have l0 : (0 : Int32).toInt = 0 := rfl
  have l121 : (121 : Int32).toInt = 121 := rfl
  have o61 : (61 : Int32) * 0 = 0 := by decide
  have z0 : ∀ x : Int32, (0 : Int32) + x = x := fun x => Int32.zero_add x
  have k0 : (0 : Int32).toNatClampNeg = 0 := rfl
  have hm := RW_m hW ht
  induction d with
  | zero =>
    intro l y z kc km c32 l2 l3 hl fy hy hn fz hc e2 e3 hkc hkm
    have e4 : y.1 12 4 = qc.1 12 4 := fy.1 12 4 rfl
    have hcl : (cs l : Int) = (qc.1 12 4).toInt := by
      rw [← hL.2.1]
      exact congrArg (fun i : Nat => (cs i : Int)) (by omega)
    obtain ⟨kc, rfl⟩ : ∃ x, kc = x + 1 := ⟨kc - 1, by omega⟩
    obtain ⟨km, rfl⟩ : ∃ x, km = x + 1 := ⟨km - 1, by omega⟩
    show T2 (FW (fx3 FW kc) y 1 c32) (FGv (fx4 FGv km) z 0 l2 l3) _
    unfold FW FGv
    rw [o61, z0, k0, fz.2 76 (by decide), e4]
    exact T2_pl (Int32.le_iff_toInt_le.mpr (by omega)) (T2_pr (by decide) (T2_pr (Int32.le_iff_toInt_le.mpr (by omega)) (T2_s rfl)))
  | succ d ih =>
    intro l y z kc km c32 l2 l3 hl fy hy hn fz hc e2 e3 hkc hkm
    obtain ⟨km, rfl⟩ : ∃ x, km = x + 1 := ⟨km - 1, by omega⟩
    have L := hL.2.2 l (by omega)
    have R : okLine (q.1 74) (q.1 75) (sLo q l) (q.1 77 l).toInt (q.1 78 l).toInt := RW_line hW ht l (by omega)
    obtain ⟨s0, st, te, e130, o1, o2⟩ := R
    have eN : l3.toNatClampNeg = l := by
      show l3.toInt.toNat = _
      omega
    have kA : ∀ (c : Nat) (s e : Int), 0 ≤ s → segAl (qc.1 13) (qc.1 14) c (q.1 74) (q.1 75) s e → ∀ k : Nat, s ≤ (k : Int) → (k : Int) < e → kn (q.1 74 k) := fun c s e hs h k h1 h2 => by
      have := al_kn (h (k - s.toNat) (by omega))
      rw [show s.toNat + (k - s.toNat) = k by omega] at this
      exact this
    -- the model's value of a segment
    have mW : ∀ (z : SS) (s e : Int32) (c : Nat), F80 q z → 0 ≤ s.toInt → e.toInt ≤ 130 → okSeg (q.1 74) (q.1 75) s.toInt e.toInt → segAl (qc.1 13) (qc.1 14) c (q.1 74) (q.1 75) s.toInt e.toInt → T (f_X12_worked z 0 s e) (fun r => F80 q r.2 ∧ evl N (q.1 74) (q.1 75) (e.toInt - s.toInt).toNat s.toInt.toNat [] = [r.1]) := fun z s e c fz h0 h1 ok ha => by
      have e74 := fz.2 74 (by decide)
      have e75 := fz.2 75 (by decide)
      have e79 := fz.2 79 (by decide)
      refine T_mono (m_workedE (q := z) h0 h1 (by rw [e74, e75]; exact ok) (fun k a b => by rw [e74]; exact kA c _ _ h0 ha k a b)) (fun r hr => ⟨F80_t fz hr.1, ?_⟩)
      have := hr.2
      rw [e74, e75, e79] at this
      rw [evl_N hN _ _ [] 1 ok]
      exact this
    have w47 : ∀ (z : SS) (c : Nat), F80 q z → segAl (qc.1 13) (qc.1 14) c (q.1 74) (q.1 75) (q.1 77 l).toInt (q.1 78 l).toInt → T (b_X12_gives_47 z 0 l3) (fun r => evl N (q.1 74) (q.1 75) ((q.1 78 l).toInt - (q.1 77 l).toInt).toNat (q.1 77 l).toInt.toNat [] = [r.1]) := fun z c fz ha => by
      unfold b_X12_gives_47
      rw [fz.2 77 (by decide), fz.2 78 (by decide), eN]
      exact T_vp (by omega) (by show l3.toInt < 122; omega) (T_vp (by omega) (by show l3.toInt < 122; omega) (T_b (mW z _ _ c fz (by omega) e130 o1 ha) (fun r hr => T_some.mpr hr.2)))
    have hN' : ∀ i, i < 6 → y.1 16 i = N i := fun i _ => by rw [hn]
    show T2 (fx3 FW kc y 1 c32) (FGv (fx4 FGv km) z 0 l2 l3) _
    generalize hrec : fx4 FGv km = rec
    unfold FGv
    rw [o61, z0, k0, fz.2 76 (by decide), fz.2 77 (by decide), eN]
    refine T2_pr (by decide) (T2_qr (fun e => by have := Int32.le_iff_toInt_le.mp e; omega) (T2_pr ⟨by omega, by omega⟩ ?_))
    rcases L with ⟨c1, a1, a2, a3⟩ | ⟨c1, a1, a2, a3, a4, a5⟩
    · refine T2_pr (Int32.toInt_inj.mp (by rw [c1, e2])) ?_
      rw [← c1] at a1 a2 a3
      obtain ⟨s, hs, hv⟩ := w47 z (cs l) fz a1
      have hcl : ((cs (l + 1) : Nat) : Int) ≤ (qc.1 12 4).toInt := cs_le hL hm.1 (by omega)
      have go : T (fx3 FW kc y 1 c32) (fun r => r.1 = s.1) := by
        obtain ⟨kk, rfl⟩ : ∃ x, kc = x + 1 + ((q.1 78 l).toInt - (q.1 77 l).toInt).toNat := ⟨kc - 1 - ((q.1 78 l).toInt - (q.1 77 l).toInt).toNat, by omega⟩
        refine x_segv fy hy hc te (by omega) (by omega) h121 a1 o1 hN' hv (fun y' e32 g1 g2 g3 g4 => ?_)
        exact W_59 g1 g2 g3 (by omega) h121 a2 (fun _ r hr => hr) (fun e => absurd e (by decide))
      obtain ⟨r, hr, hp⟩ := go
      exact ⟨r, s, hr, hs, hp⟩
    · refine T2_qr (fun e => c1 (by rw [e, e2])) (T2_pr ⟨by omega, by omega⟩ ?_)
      have ok1 := o2 c1
      rw [← e2] at st s0 ok1 a1 a2 a3 a4 a5
      have hcl : ((cs (l + 1) : Nat) : Int) ≤ (qc.1 12 4).toInt := cs_le hL hm.1 (by omega)
      obtain ⟨s1, hs1, hf1, hv1⟩ := mW z l2 (q.1 77 l) (cs l) fz (by omega) (by omega) ok1 a1
      obtain ⟨kk, rfl⟩ : ∃ x, kc = x + 1 + ((q.1 78 l).toInt - (q.1 77 l).toInt).toNat + 1 + ((q.1 77 l).toInt - l2.toInt).toNat := ⟨kc - 1 - ((q.1 78 l).toInt - (q.1 77 l).toInt).toNat - 1 - ((q.1 77 l).toInt - l2.toInt).toNat, by omega⟩
      refine T2_re hs1 ?_
      by_cases z1 : s1.1 = 0
      · refine T2_pr z1 (T2_pr ⟨by omega, by omega⟩ (T2_nr ?_))
        rw [hf1.2 78 (by decide), ← hrec]
        have i3 := inc1 (a := l3) (by omega) (by omega)
        -- the value of the part behind the mark: the class works it out, and leaves it
        obtain ⟨s2, hs2, _, hv2⟩ := mW z (q.1 77 l) (q.1 78 l) (cs l + ((q.1 77 l).toInt - l2.toInt).toNat + 1) fz (by omega) e130 o1 a3
        have go : T (fx3 FW (kk + 1 + ((q.1 78 l).toInt - (q.1 77 l).toInt).toNat + 1 + ((q.1 77 l).toInt - l2.toInt).toNat) y 1 c32) (fun a => ∃ b, fx4 FGv km s1.2 0 (q.1 78 l) (l3 + 1) = some b ∧ a.1 = b.1) := by
          refine x_segv fy hy hc st (by omega) (by omega) h121 a1 ok1 hN' hv1 (fun y' e32 g1 g2 g3 g4 => ?_)
          refine W_63 g1 g2 g3 (by omega) h121 a2 (fun y2 k1 k2 k3 => ?_)
          rw [if_pos z1]
          have i32 := inc1 (a := e32) (by omega) (by omega)
          refine x_segv (c := cs l + ((q.1 77 l).toInt - l2.toInt).toNat + 1) k1 k2 (by omega) te (by omega) (by omega) h121 a3 o1 (fun i hi => by rw [k3, g4]; exact hN' i hi) hv2 (fun y3 e33 m1 m2 m3 m4 => ?_)
          refine W_59 m1 m2 m3 (by omega) h121 a4 (fun e => absurd rfl e) (fun _ y4 n1 n2 n3 => ?_)
          have i33 := inc1 (a := e33) (by omega) (by omega)
          have e78 : (q.1 78 l).toInt = sLo q (l + 1) := by
            unfold sLo
            rw [if_neg (by omega)]
            rfl
          exact T2_P (ih (l + 1) y4 s1.2 kk km (e33 + 1) (q.1 78 l) (l3 + 1) (by omega) n1 n2 (by rw [n3, m4, k3, g4, hn]) hf1 (by omega) e78 (by omega) (by omega) (by omega))
        obtain ⟨r, hr, b, hb, hp⟩ := go
        exact ⟨r, b, hr, hb, hp⟩
      · refine T2_qr z1 ?_
        obtain ⟨s, hs, hv⟩ := w47 s1.2 (cs l + ((q.1 77 l).toInt - l2.toInt).toNat + 1) hf1 a3
        have go : T (fx3 FW (kk + 1 + ((q.1 78 l).toInt - (q.1 77 l).toInt).toNat + 1 + ((q.1 77 l).toInt - l2.toInt).toNat) y 1 c32) (fun r => r.1 = s.1) := by
          refine x_segv fy hy hc st (by omega) (by omega) h121 a1 ok1 hN' hv1 (fun y' e32 g1 g2 g3 g4 => ?_)
          refine W_63 g1 g2 g3 (by omega) h121 a2 (fun y2 k1 k2 k3 => ?_)
          rw [if_neg z1]
          have i32 := inc1 (a := e32) (by omega) (by omega)
          refine x_segv (c := cs l + ((q.1 77 l).toInt - l2.toInt).toNat + 1) k1 k2 (by omega) te (by omega) (by omega) h121 a3 o1 (fun i hi => by rw [k3, g4]; exact hN' i hi) hv (fun y3 e33 m1 m2 m3 m4 => ?_)
          exact W_59 m1 m2 m3 (by omega) h121 a4 (fun _ r hr => hr) (fun e => absurd e (by decide))
        obtain ⟨r, hr, hp⟩ := go
        exact ⟨r, s, hr, hs, hp⟩

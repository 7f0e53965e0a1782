/-! ===== the model's queries answer, and leave what holds ===== -/
/-- what a walk of the model's odds leaves, beside what holds always -/
def GM (q z : SS) : Prop := INV z ∧ z.2 91 = q.2 91 ∧ z.1 90 = q.1 90 ∧ z.1 60 1 = q.1 60 1 ∧ z.1 60 6 = q.1 60 6
theorem GM_r {q : SS} (h : INV q) : GM q q := ⟨h, rfl, rfl, rfl, rfl⟩
theorem GM_I {q z : SS} (g : GM q z) : INV z := g.1
theorem GM_79 {q z y : SS} (g : GM q z) (f : F79 z y) : GM q y := ⟨INV_79 g.1 f, (congrFun f.1 91).trans g.2.1, (f.2 90 (by decide) (by decide)).trans g.2.2.1, (congrFun (f.2 60 (by decide) (by decide)) 1).trans g.2.2.2.1, (congrFun (f.2 60 (by decide) (by decide)) 6).trans g.2.2.2.2⟩
theorem GM_81 {q z : SS} (g : GM q z) {i : Nat} {x : Int32} (hi : 0 ≤ x.toInt ∧ x.toInt ≤ 5) : GM q (sI z 81 i x) := by
  have a := INV_s81 g.1 (i := i) hi
  have b := g.2
  exact ⟨a, b⟩
theorem GM_60 {q z : SS} (g : GM q z) {i : Nat} {x : Int32} (h1 : 32 ≤ i) (h2 : i ≤ 44) : GM q (sI z 60 i x) := by
  have w : wM 60 i = true := by
    unfold wM
    have a : Nat.ble 32 i = true := Nat.ble_eq.mpr h1
    have b : Nat.ble i 44 = true := Nat.ble_eq.mpr h2
    rw [a, b]
    simp
  refine ⟨INV_sM g.1 w (by decide), g.2.1, g.2.2.1, ?_, ?_⟩
  · rw [sI_rd, if_neg (fun y => by omega)]; exact g.2.2.2.1
  · rw [sI_rd, if_neg (fun y => by omega)]; exact g.2.2.2.2
theorem GM_now {q r : SS} (h : INV q) (n : NWM q r) : GM q r := ⟨NWM_I h n, congrFun n.1 91, n.2.1 90 (by decide) (by decide), nm_P n, nm_K n⟩
theorem GM_P {q z : SS} (g : GM q z) : 0 ≤ (z.1 60 1).toInt ∧ (z.1 60 1).toInt ≤ 6 := ⟨RY_p0 (INV_RY g.1), RY_p6 (INV_RY g.1)⟩
theorem GM_K {q z : SS} (g : GM q z) : 0 ≤ (z.1 60 6).toInt ∧ (z.1 60 6).toInt ≤ 12 := ⟨RY_k0 (INV_RY g.1), RY_k12 (INV_RY g.1)⟩
theorem GM_odds {q z : SS} (g : GM q z) {a b : Int32} (ha : 0 ≤ a.toInt ∧ a.toInt < 12) (hb : 0 ≤ b.toInt ∧ b.toInt < 6) : T (f_X12_oddsOf z a b) (fun r => GM q r.2 ∧ 0 ≤ r.1.toInt ∧ r.1.toInt ≤ 12) := T_mono (m_oddsOf g.1 ha hb) (fun _ hr => ⟨GM_79 g hr.1, hr.2⟩)
theorem m_slipT (z : SS) {a b : Int32} (ha : 0 ≤ a.toInt ∧ a.toInt < 12) (hb : 0 ≤ b.toInt ∧ b.toInt < 6) : T (f_X12_maySlip z a b) (fun _ => True) := T_of (m_maySlip ha hb) trivial
/-- the k-th of a's row is a slipping -/
def ISl (z : SS) (a : Int32) (k : Nat) : Prop := 0 ≤ ((z.2 91 (60 * a.toNatClampNeg + k)).toInt32).toInt ∧ ((z.2 91 (60 * a.toNatClampNeg + k)).toInt32).toInt / 8 < (z.1 60 6).toInt ∧ ((z.2 91 (60 * a.toNatClampNeg + k)).toInt32).toInt % 8 < (z.1 60 1).toInt
theorem ISl_G {q z : SS} (g : GM q z) {a : Int32} {k : Nat} (h : ISl q a k) : ISl z a k := by
  unfold ISl at *
  rw [g.2.1, g.2.2.2.1, g.2.2.2.2]
  exact h
theorem m_longOf {q z : SS} (g : GM q z) {a m : Int32} (ha : 0 ≤ a.toInt ∧ a.toInt < 6) (hm : 0 ≤ m.toInt ∧ m.toInt ≤ 12) : T (f_X12_longOf z a m) (fun r => (0 ≤ r.toInt ∧ r.toInt ≤ m.toInt) ∧ ∀ k : Nat, (k : Int) < r.toInt → ISl z a k) := by
  have hp := GM_P g
  have hk := GM_K g
  unfold f_X12_longOf b_X12_longOf_2
  refine T_fx3 (fun l1 l2 l3 => l1 = a ∧ l2 = m ∧ (0 ≤ l3.toInt ∧ l3.toInt ≤ m.toInt) ∧ ∀ k : Nat, (k : Int) < l3.toInt → ISl z a k) (fun _ _ l3 => (12 - l3.toInt).toNat) ?_ _ _ _ _ ⟨rfl, rfl, ⟨by decide, by show (0 : Int) ≤ m.toInt; omega⟩, fun k hk => absurd hk (by show ¬ ((k : Int) < 0); omega)⟩ (by unfold FU; decide)
  rintro rec l1 l2 l3 ⟨rfl, rfl, hb, hs⟩ hr
  refine T_le (fun _ => T_some.mpr ⟨hb, hs⟩) (fun c => T_vp ha.1 ha.2 (T_le (fun _ => T_some.mpr ⟨hb, hs⟩) (fun _ => T_rw (m_at ha ⟨hb.1, by omega⟩) (T_rw (m_areSlip hp.1 hk.1 _) (T_bi (fun _ => T_some.mpr ⟨hb, hs⟩) (fun ok => ?_))))))
  have e3 := inc1 (a := l3) (by omega) (by omega)
  refine hr _ _ _ ⟨rfl, rfl, by omega, ?_⟩ (by omega)
  intro k hk
  by_cases e : (k : Int) < l3.toInt
  · exact hs k e
  · have ek : k = l3.toNatClampNeg := by
      show k = l3.toInt.toNat
      omega
    subst ek
    exact ok
/-- the k-th of the row read where it is a slipping -/
theorem T_el {ρ : Type} {P : ρ → Prop} {q z : SS} (g : GM q z) {a l : Int32} {f : Int32 → Option ρ} (ha : 0 ≤ a.toInt ∧ a.toInt < 6) (hl : 0 ≤ l.toInt ∧ l.toInt < 60) (hs : ISl q a l.toInt.toNat) (k : ∀ v : Int32, (0 ≤ (v / 8).toInt ∧ (v / 8).toInt < 12) → (0 ≤ (jrem v 8).toInt ∧ (jrem v 8).toInt < 6) → (v / 8).toInt < (z.1 60 6).toInt → f_X12_at z a l = some v → T (f v) P) : T ((f_X12_at z a l).bind f) P := by
  have e := m_at (q := z) ha hl
  have hs' := ISl_G g hs
  have hp := GM_P g
  have hk := GM_K g
  have o0 : 0 ≤ ((z.2 91 (60 * a.toNatClampNeg + l.toNatClampNeg)).toInt32).toInt := hs'.1
  have o1 : ((z.2 91 (60 * a.toNatClampNeg + l.toNatClampNeg)).toInt32).toInt / 8 < (z.1 60 6).toInt := hs'.2.1
  have o2 : ((z.2 91 (60 * a.toNatClampNeg + l.toNatClampNeg)).toInt32).toInt % 8 < (z.1 60 1).toInt := hs'.2.2
  generalize gv : (z.2 91 (60 * a.toNatClampNeg + l.toNatClampNeg)).toInt32 = v at e o0 o1 o2
  have d := div8 o0
  have r := rem8 o0
  refine T_rw e (k v ⟨by rw [d]; omega, by rw [d]; omega⟩ ⟨by rw [r]; omega, by rw [r]; omega⟩ (by rw [d]; exact o1) e)
theorem mo_odds {q : SS} (h : INV q) (a : Int32) : T (f_X12_odds q a) (fun r => INV r.2) := by
  have hY := INV_RY h
  have p6 := RY_p6 hY
  have k12 := RY_k12 hY
  unfold f_X12_odds
  refine T_rw (m_areSlip (RY_p0 hY) (RY_k0 hY) a) (T_bi (fun _ => T_some.mpr h) (fun ok => T_b (m_now hY) (fun r hr => T_b (GM_odds (GM_now h hr) ⟨?_, ?_⟩ ⟨?_, ?_⟩) (fun s hs => T_some.mpr (GM_I hs.1)))))
  · rw [div8 ok.1]; omega
  · rw [div8 ok.1]; omega
  · rw [rem8 ok.1]; omega
  · rw [rem8 ok.1]; omega
theorem mo_watch {q : SS} (h : INV q) (a : Int32) : T (f_X12_watch q a) (fun r => INV r.2) := by
  have hY := INV_RY h
  have p6 := RY_p6 hY
  unfold f_X12_watch
  refine T_rw (m_isOne (RY_p0 hY) a) (T_bi (fun _ => T_some.mpr h) (fun ok => T_b (m_now hY) (fun r hr => ?_)))
  unfold b_X12_watch_22
  refine T_fx5 (fun z l1 _ _ l4 => GM q z ∧ l1 = a ∧ 0 ≤ l4.toInt ∧ l4.toInt ≤ 12) (fun _ _ _ _ l4 => (12 - l4.toInt).toNat) ?_ _ _ _ _ _ _ ⟨GM_now h hr, rfl, by decide, by decide⟩ (by unfold FU; decide)
  rintro rec z l1 l2 l3 l4 ⟨g, rfl, b0, b1⟩ hr
  have hk := GM_K g
  refine T_le (fun _ => T_i (fun _ => T_some.mpr (GM_I g)) (fun _ => T_some.mpr (GM_I g))) (fun c => T_b (m_slipT z ⟨b0, by omega⟩ ⟨ok.1, by omega⟩) (fun r4 _ => ?_))
  have e4 := inc1 (a := l4) (by omega) (by omega)
  have go : ∀ (y : SS) (u v : Int32), GM q y → T (rec y l1 u v (l4 + 1)) (fun r => INV r.2) := fun y u v gy => hr _ _ _ _ _ ⟨gy, rfl, by omega, by omega⟩ (by omega)
  unfold b_X12_watch_87 b_X12_watch_93
  refine T_i (fun _ => go _ _ _ g) (fun _ => T_b (GM_odds g ⟨b0, by omega⟩ ⟨ok.1, by omega⟩) (fun r5 hr5 => T_vp b0 (by show l4.toInt < 12; omega) (T_nm (T_i (fun _ => go _ _ _ hr5.1) (fun _ => T_i (fun _ => go _ _ _ hr5.1) (fun _ => T_i (fun _ => T_i (fun _ => go _ _ _ hr5.1) (fun _ => go _ _ _ hr5.1)) (fun _ => go _ _ _ hr5.1)))))))
theorem m_goEve {q : SS} (h : INV q) {a m : Int32} (ha : 0 ≤ a.toInt ∧ a.toInt < 6) (hm : 0 ≤ m.toInt ∧ m.toInt ≤ 12) : T (f_X12_goEve q a m) (fun r => GM q r) := by
  have hY := INV_RY h
  unfold f_X12_goEve
  refine T_b (m_now hY) (fun r hr => T_nm (T_nm ?_))
  have g0 := GM_60 (GM_60 (GM_now h hr) (i := 33) (x := 0) (by decide) (by decide)) (i := 34) (x := 0) (by decide) (by decide)
  refine T_b (m_longOf g0 ha hm) (fun n hn => ?_)
  generalize gx : sI (sI r 60 33 0) 60 34 0 = x at g0 hn
  unfold b_X12_goEve_24 b_X12_goEve_113
  refine T_fx4 (fun z l1 l3 l4 => (GM q z ∧ GM x z) ∧ l1 = a ∧ l3 = n ∧ 0 ≤ l4.toInt ∧ l4.toInt ≤ 12) (fun _ _ _ l4 => (12 - l4.toInt).toNat) ?_ _ _ _ _ _ ⟨⟨g0, GM_r (GM_I g0)⟩, rfl, rfl, by decide, by decide⟩ (by unfold FU; decide)
  rintro rec z l1 l3 l4 ⟨⟨g, gx2⟩, rfl, rfl, b0, b1⟩ hr
  refine T_le (fun _ => T_some.mpr g) (fun c => T_el gx2 ha ⟨b0, by omega⟩ (hn.2 _ (by omega)) (fun v v8 vr _ ev => T_nm (T_rw ev (T_nm (T_b (m_slipT z v8 vr) (fun r9 _ => ?_))))))
  have e4 := inc1 (a := l4) (by omega) (by omega)
  have go : ∀ (y : SS), GM q y ∧ GM x y → T (rec y l1 l3 (l4 + 1)) (fun r => GM q r) := fun y gy => hr _ _ _ _ ⟨gy, rfl, rfl, by omega, by omega⟩ (by omega)
  refine T_i (fun _ => T_nm (go _ ⟨GM_60 g (by decide) (by decide), GM_60 gx2 (by decide) (by decide)⟩)) (fun _ => T_b (m_oddsOf g.1 v8 vr) (fun s hs => T_i (fun _ => go _ ⟨GM_79 g hs.1, GM_79 gx2 hs.1⟩) (fun _ => T_vp v8.1 v8.2 (T_nm (T_nm (go _ ⟨GM_60 (GM_81 (GM_79 g hs.1) ⟨vr.1, by omega⟩) (by decide) (by decide), GM_60 (GM_81 (GM_79 gx2 hs.1) ⟨vr.1, by omega⟩) (by decide) (by decide)⟩))))))
theorem mo_later {q : SS} (h : INV q) (a b c : Int32) : T (f_X12_later q a b c) (fun r => INV r.2) := by
  have hY := INV_RY h
  have k12 := RY_k12 hY
  unfold f_X12_later
  refine T_rw (m_isShelf q a) (T_bi (fun _ => T_some.mpr h) (fun ha => T_rw (m_areMany q b) (T_bi (fun _ => T_some.mpr h) (fun hb => T_rw (m_isTicket (RY_k0 hY) c) (T_bi (fun _ => T_some.mpr h) (fun hc => T_rw (m_rowFault ha) (T_i (fun _ => T_b (m_goEve h ha hb) (fun r hr => T_vp hc.1 (by show c.toInt < 12; omega) (T_some.mpr (GM_I hr)))) (fun _ => T_rw (m_rowFault ha) (T_some.mpr h)))))))))
theorem mo_eve {q : SS} (h : INV q) (a b c : Int32) : T (f_X12_eve q a b c) (fun r => INV r.2) := by
  have hY := INV_RY h
  unfold f_X12_eve
  refine T_rw (m_isShelf q a) (T_bi (fun _ => T_some.mpr h) (fun ha => T_rw (m_areMany q b) (T_bi (fun _ => T_some.mpr h) (fun hb => T_rw (m_in q c _ _) (T_bi (fun _ => T_some.mpr h) (fun hc => T_rw (m_rowFault ha) (T_i (fun _ => T_b (m_goEve h ha hb) (fun r hr => T_i (fun _ => T_some.mpr (GM_I hr)) (fun _ => T_i (fun _ => T_some.mpr (GM_I hr)) (fun _ => T_rw (m_realOf (GM_K hr).1 (GM_K hr).2 c) (T_some.mpr (GM_I hr)))))) (fun _ => T_rw (m_rowFault ha) (T_some.mpr h)))))))))

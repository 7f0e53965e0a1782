/-! THE CLAIM OUT OF ONE WALK OF THE LAW'S BODY. Your part is whole_start (and what it stands on); all else here is the same for every law, but numbers. -/
def R_law : String := "LotNobodyWantsLaw"
def lw_P (b : Addr) (xs : List Int32) (args : Array Value) (s : State) : Prop := args = #[.ref b] ∧ s.IntsAt b xs ∧ xs.length ≤ 3072 ∧ (Jvm.Cond.and given_1 narrow_1).before args s = true
def lw_Q (_ : Array Value) (s : State) (o : Outcome) (t : State) : Prop := o = .returned (some (.int 1)) ∧ Framed s o t [] 600000 7302250
def lw_Z (below : List Frame) (a : Array Value) (s : State) : State → Prop := fun t => ∃ o, t.status = .running ∧ Ended t below o ∧ lw_Q a s o t
/-- the law's own end, with 1 on the stack, nothing written that was there before, its room as the claim has it -/
theorem lw_ret {p : Program} {l : Launch} {e : Env} {s : State} {m : MethodId} {below : List Frame} {meth : Method} {c : Code} {b : Nat} (hx : p.tables.exec = Jvm.exec) (hb : c.code = code) (hr : meth.sig.returnType = ret) (hlocks : meth.locks = false) {pc : Nat} {H : Heap} {ls : Array Slot} (hdg : decode code pc = .ok (.ireturn, 1)) : W p l e room_1 s m #[Value.ref b] below meth c H [] 600000 7302250 (lw_Z below #[Value.ref b] s) (F0 m pc ls [.int 1]) := by
  intro T hT X
  obtain ⟨fs, hret, hrun, hended, hW, hframe⟩ := X.leave (v := some (.int 1)) (hlocks := hlocks) (fun h => by rw [hr] at h; cases h)
  have hmeth' : T.vm.method? m = some meth := X.method'
  refine ⟨T.setFrames fs, ?_, .returned (some (.int 1)), hrun, hended, rfl, ⟨_, rfl⟩, hW, hframe⟩
  jvm_step X.here [X.here.top, hx, hb, hdg, hmeth', hr, ret, narrow_b1]
  (try refine ⟨rfl, ?_⟩); (try refine ⟨rfl, ?_⟩)
  first | (intro acts; rw [hret _ acts rfl rfl rfl]) | rw [hret _ _ rfl rfl rfl]
  exact Steps.refl _
/-- what holds at the law's entry: the machine, the code, the tables' words (any of lw_tbl by 'hts w (by decide +kernel)'), the script of L ints xs at the cell b, what the Statement gives of the start (any of its parts by flat_of_before) -/
def lw_At (p : Program) (s : State) (m : MethodId) (meth : Method) (c : Code) (b L : Nat) (xs : Nat → Int32) : Prop :=
  p.tables.exec = Jvm.exec ∧ c.code = code ∧ meth.sig.returnType = ret ∧ c.maxLocals = 4 ∧ s.vm.findClass R_law = some m.cls ∧ (∀ w ∈ lw_tbl, w.before #[Value.ref b] s = true) ∧ va_X b L xs s s.heap ∧ b < s.heap.size ∧ meth.locks = false ∧ (Jvm.Cond.and given_1 narrow_1).before #[Value.ref b] s = true
/-! ===== THE LAW FROM ITS ENTRY ===== -/
def LAM (L : Nat) (xs : Nat → Int32) : PRo := (4, fun j => bif Nat.beq j 0 then L else stL j, fun j i => bif Nat.beq j 0 then xs i else stV j i)
/-- nothing yet -/
def σ00 : PSt := (0, 0, fun _ => (9, 0), fun _ _ => none, fun _ _ => 0, fun _ _ => 0)
theorem arr_known {s : State} {args : Array Value} {ty : FieldType} (h : (Cond.arrayClass ty).before args s = true) : ∃ cA : ClassId, ArrOfT s cA ty ∧ s.vm.findClass ("[" ++ ty.toString) = some cA := by
  obtain ⟨cA, kA, comp, hfind, hk, hkind⟩ := Cond.arrayClass_spec h
  exact ⟨cA, fun n z => ⟨fun k h => (by cases h), kA, hk, comp, hkind⟩, hfind⟩
theorem arr2_known {s : State} {args : Array Value} {ty : FieldType} (h : (Cond.arrayOver (.array ty)).before args s = true) : ∃ cA : ClassId, ArrOfT s cA (.array ty) ∧ s.vm.findClass ("[" ++ (FieldType.array ty).toString) = some cA := by
  obtain ⟨comp, c, k, h1, h2, h3, h4, h5⟩ := Stand.arrayOver_specB h
  exact ⟨c, fun n z => ⟨fun k h => (by cases h), k, h3, comp, h4⟩, h5⟩
theorem cls_known {s : State} {args : Array Value} (hts : ∀ w ∈ WALL, w.before args s = true) : ∀ n, n ≤ NX → ∃ (dC : Nat → ClassId) (dI : Nat → Nat → Nat), ∀ ci, ci < n → u_Kn s (cnm ci) (cT ci) (nF ci) (dC ci) (dI ci)
  | 0, _ => ⟨fun _ => 0, fun _ _ => 0, fun _ h => absurd h (Nat.not_lt_zero _)⟩
  | n + 1, hn => by
    obtain ⟨dC, dI, h⟩ := cls_known hts n (by omega)
    obtain ⟨c0, i0, h0⟩ := u_known (C := cnm n) (T := cT n) (N := nF n) (n := nF n) hts (w_lay (by omega)) (hts _ (w_is (by omega)))
    refine ⟨fun k => if k = n then c0 else dC k, fun k => if k = n then i0 else dI k, fun ci hci => ?_⟩
    by_cases e : ci = n
    · subst e
      simp only [if_true]
      exact h0
    · simp only [if_neg e]
      exact h ci (by omega)
theorem tys_known {s : State} {args : Array Value} (hts : ∀ w ∈ lw_tbl, w.before args s = true) (hts2 : ∀ w ∈ WALL, w.before args s = true) : ∃ dA : Nat → ClassId, (∀ (k : Nat) (q : ClassId × FieldType), (tysL dA)[k]? = some q → ArrOfT s q.1 q.2 ∧ va_RA s q.1 q.2) ∧ (Cond.arrayOver (.array .int)).before #[] s = true ∧ (Cond.arrayOver (.array .long)).before #[] s = true := by
  have ho5 : (Cond.arrayOver (.array .int)).before args s = true := hts _ (chk_map (f := wEx) sgEx_ok (a := .arrayOver (.array .int)) (by decide +kernel))
  have ho6 : (Cond.arrayOver (.array .long)).before args s = true := hts _ (chk_map (f := wEx) sgEx_ok (a := .arrayOver (.array .long)) (by decide +kernel))
  obtain ⟨c1, a1, b1⟩ := arr_known (hts2 _ (w_ex (w := .arrayClass .int) (by decide +kernel) rfl))
  obtain ⟨c2, a2, b2⟩ := arr_known (hts2 _ (w_ex (w := .arrayClass .byte) (by decide +kernel) rfl))
  obtain ⟨c3, a3, b3⟩ := arr_known (hts2 _ (w_ex (w := .arrayClass .short) (by decide +kernel) rfl))
  obtain ⟨c4, a4, b4⟩ := arr_known (hts2 _ (w_ex (w := .arrayClass .long) (by decide +kernel) rfl))
  obtain ⟨c5, a5, b5⟩ := arr2_known ho5
  obtain ⟨c6, a6, b6⟩ := arr2_known ho6
  refine ⟨fun t => match t with | 1 => c1 | 2 => c2 | 3 => c3 | 4 => c4 | 5 => c5 | _ => c6, fun k q hk => ?_, ho5, ho6⟩
  match k, hk with
  | 0, hk => cases hk; exact ⟨a1, b1⟩
  | 1, hk => cases hk; exact ⟨a2, b2⟩
  | 2, hk => cases hk; exact ⟨a3, b3⟩
  | 3, hk => cases hk; exact ⟨a4, b4⟩
  | 4, hk => cases hk; exact ⟨a5, b5⟩
  | 5, hk => cases hk; exact ⟨a6, b6⟩
  | k + 6, hk => simp [tysL] at hk
theorem st_known {s : State} {args : Array Value} (hts : ∀ w ∈ lw_tbl, w.before args s = true) (hts2 : ∀ w ∈ WALL, w.before args s = true) (hg : (Jvm.Cond.and given_1 narrow_1).before args s = true) (k : Nat) (h1 : 1 ≤ k) (h4 : k < 4) :
    ∃ t : Nat, va_T .int t (stL k) (fun i => .int (stV k i)) (fun a => s.heap.size ≤ a) s s.heap ∧ va_Z (stN k).1 (stN k).2.1 (stN k).2.2 (.ref t) (fun a => s.heap.size ≤ a) s s.heap := by
  have hs := flat_of_before _ hg
  obtain ⟨a1, a2, a3, a4⟩ := st_all k h4 h1
  have hA : ∀ a : Nat, a < s.heap.size → ¬ (fun a : Nat => s.heap.size ≤ a) a := fun a ha => by show ¬ s.heap.size ≤ a; omega
  obtain ⟨t, ht, hT⟩ := va_Tof (f := fun i => .int (stV k i)) (A := fun a => s.heap.size ≤ a) a4 (hs _ a2) (va_eqt (hs _ a3)) (fun j hj => va_eqt (hs _ (a1 j hj))) hA
  have hini : (Cond.initialized (stN k).1).before args s = true := by
    have hk : k = 1 ∨ k = 2 ∨ k = 3 := by omega
    rcases hk with rfl | rfl | rfl
    · exact hts2 _ (w_in (c := 3) (by decide))
    · exact hts2 _ (w_in (c := 3) (by decide))
    · exact hts2 _ (w_in (c := 10) (by decide))
  exact ⟨t, hT, va_Zref (hts _ (chk_map (f := wLs) sgLs_ok (sgLs_all k h4 h1))) hini ht hA⟩
theorem mB_law : mB NM = code := rfl
theorem law_of_run {n d : Nat} {L : Nat} {xs : Nat → Int32} {τ : PSt} (hrun : prun (LAM L xs) n d NM 0 [(0, .retAddr 0)] [] σ00 = some (some (.int 1), τ)) (hd1 : d ≤ 1000) (hn1 : pnc τ ≤ 600000) (hn2 : pns τ ≤ 7302250)
    {p : Program} {e : Env} {s : State} {m : MethodId} {below : List Frame} {meth : Method} {c : Code} (l : Launch) {b : Nat} (C0 : lw_At p s m meth c b L xs) : W p l e room_1 s m #[Value.ref b] below meth c s.heap [] 0 0 (lw_Z below #[Value.ref b] s) (entryFrame m ([Value.ref b] : List Value).toArray 4) := by
  obtain ⟨hx, hb, hr, hml, hown, hts, hX, hbl, hlocks, hgv⟩ := id C0
  have hts2 : ∀ w ∈ WALL, w.before #[Value.ref b] s = true := fun w hw => hts w (List.mem_filter.mp hw).1
  obtain ⟨dC, dI, hK1⟩ := cls_known hts2 NX (Nat.le_refl _)
  obtain ⟨dA, hK2, ho5, ho6⟩ := tys_known hts hts2
  obtain ⟨t1, hT1, hZ1⟩ := st_known hts hts2 hgv 1 (by decide) (by decide)
  obtain ⟨t2, hT2, hZ2⟩ := st_known hts hts2 hgv 2 (by decide) (by decide)
  obtain ⟨t3, hT3, hZ3⟩ := st_known hts hts2 hgv 3 (by decide) (by decide)
  have hT0 : va_T .int b L (fun i => .int (xs i)) (fun a => s.heap.size ≤ a) s s.heap := by
    obtain ⟨scr, g1, g2, g3, g4, g5⟩ := hX
    exact ⟨scr, g1, g2, g3, Nat.le_of_eq g4.symm, by rw [g4] <;> rfl, g5, by show ¬ s.heap.size ≤ b; omega⟩
  let tt : Nat → Nat := fun k => match k with | 0 => b | 1 => t1 | 2 => t2 | _ => t3
  let X : Ctx := (p, l, e, room_1, s, m, #[Value.ref b], below, meth, c, lw_Z below #[Value.ref b] s, (dC, dI), dA, s.heap.size, tt, 0, 0, NM)
  have hKN : KN (LAM L xs) (dC, dI) dA s.heap.size tt s s.heap := by
    refine ⟨⟨fun ci q hq => ?_, hK2⟩, Nat.le_refl _, fun j hj => ?_, fun j h1 hj => ?_, ho5, ho6⟩
    · have hci := vwCl_lt hq
      obtain rfl : q = (cnm ci, cT ci, nF ci) := Option.some.inj (hq.symm.trans (vwCl_at hci))
      exact hK1 ci hci
    · have hj : j < 4 := hj
      have : j = 0 ∨ j = 1 ∨ j = 2 ∨ j = 3 := by omega
      rcases this with rfl | rfl | rfl | rfl
      · exact hT0
      · exact hT1
      · exact hT2
      · exact hT3
    · have : j = 1 ∨ j = 2 ∨ j = 3 := by omega
      rcases this with rfl | rfl | rfl
      · exact hZ1
      · exact hZ2
      · exact hZ3
  have hCX : CX (LAM L xs) X := ⟨hx, hb.trans mB_law.symm, hr, hml, hown, hts2, hlocks, fun h => (by cases h), hKN, Nat.le_refl _⟩
  have hl := lv_entry ([.ref b]) (n := 4) (Nat.le_of_ble_eq_true rfl)
  rw [lg_entry_eq]
  generalize (lg_sl ([.ref b]) ++ List.replicate (4 - (lg_sl ([.ref b])).length) Slot.unset).toArray = ls at hl ⊢
  have hl2 : lv_has ls (mL (xm X)) (cvL X [(0, .retAddr 0)]) := hl
  obtain ⟨-, G⟩ := MT (LAM L xs) _ _ _ _ _ _ _ _ _ hrun
  have r1 : (xR X).frames = 2048 := rfl
  have r2 : (xR X).locals = 84000 := rfl
  have r3 : (xR X).cells = 600000 := rfl
  have r4 : (xR X).slots = 7302250 := rfl
  have r5 : xk X = 0 := rfl
  have r6 : xn X = 0 := rfl
  refine G X hCX rfl (by omega) (by omega) (by omega) (by omega) ?_ s.heap [] 0 0 ls ⟨rfl, fun k hk => absurd hk (Nat.not_lt_zero _)⟩ va_S.rf rfl rfl hl2
  intro pc' L' hd' hok H' locs' cells' slots' ls' hH' hS' hc' hs' hl'
  have hc2 : cells' ≤ 600000 := by have : pnc τ = 0 + cells' := hc'; omega
  have hs2 : slots' ≤ 7302250 := by have : pns τ = 0 + slots' := hs'; omega
  refine va_forget (fun q hq => hS'.2.2 q hq) ?_
  refine W.widen hc2 hs2 ?_
  have hd2 : decode (mB NM) pc' = .ok (.ireturn, 1) := hd'
  rw [mB_law] at hd2
  exact lw_ret hx hb hr hlocks hd2
/-! ===== more steps, deeper, more locals: the same run ===== -/
def SubL (L L' : PL) : Prop := ∀ k v, lk L k = some v → lk L' k = some v
theorem lk_cons {q : Nat × Value} {t : PL} {k : Nat} : lk (q :: t) k = bif Nat.beq q.1 k then some q.2 else lk t k := rfl
theorem lk_rmk {L : PL} {i j : Nat} : lk (rmk L i) j = if j = i then none else lk L j := by
  induction L with
  | nil =>
    show (none : Option Value) = if j = i then none else none
    split <;> rfl
  | cons a t ih =>
    unfold rmk at ih ⊢
    rw [List.filter_cons]
    by_cases h : a.1 = i
    · have e : Nat.beq a.1 i = true := by rw [h]; exact Nat.beq_refl i
      rw [e]
      simp only [Bool.not_true, Bool.false_eq_true, if_false]
      rw [ih]
      by_cases hj : j = i
      · rw [if_pos hj, if_pos hj]
      · rw [if_neg hj, if_neg hj]
        have e2 : Nat.beq a.1 j = false := by
          cases e3 : Nat.beq a.1 j
          · rfl
          · exact absurd (Nat.eq_of_beq_eq_true e3) (by omega)
        show _ = lk (a :: t) j
        rw [lk_cons, e2]
        rfl
    · have e : Nat.beq a.1 i = false := by
        cases e3 : Nat.beq a.1 i
        · rfl
        · exact absurd (Nat.eq_of_beq_eq_true e3) h
      rw [e]
      simp only [Bool.not_false, if_true]
      rw [lk_cons, lk_cons]
      cases e4 : Nat.beq a.1 j with
      | true =>
        have : a.1 = j := Nat.eq_of_beq_eq_true e4
        rw [if_neg (by omega)]
        rfl
      | false => exact ih
theorem lk_put {k : Nat} {v : Value} {j : Nat} : ∀ {L : PL}, lk L k = none → lk (put L k v) j = if j = k then some v else lk L j
  | [], _ => by
    unfold put lk
    by_cases hj : j = k
    · subst hj
      rw [if_pos rfl]
      have : Nat.beq j j = true := Nat.beq_refl j
      show (bif Nat.beq j j then some v else lk [] j) = _
      rw [this]
      rfl
    · rw [if_neg hj]
      have e2 : Nat.beq k j = false := by
        cases e3 : Nat.beq k j
        · rfl
        · exact absurd (Nat.eq_of_beq_eq_true e3) (by omega)
      show (bif Nat.beq k j then some v else lk [] j) = _
      rw [e2]
      rfl
  | a :: t, h => by
    rw [lk_cons] at h
    cases e : Nat.beq a.1 k with
    | true => rw [e] at h; cases h
    | false =>
      rw [e] at h
      unfold put
      cases eb : Nat.blt k a.1 with
      | true =>
        show lk ((k, v) :: a :: t) j = _
        by_cases hj : j = k
        · subst hj
          rw [if_pos rfl]
          rw [lk_cons]
          have : Nat.beq j j = true := Nat.beq_refl j
          show (bif Nat.beq j j then some v else _) = _
          rw [this]
          rfl
        · rw [if_neg hj]
          have e2 : Nat.beq k j = false := by
            cases e3 : Nat.beq k j
            · rfl
            · exact absurd (Nat.eq_of_beq_eq_true e3) (by omega)
          show (bif Nat.beq k j then some v else lk (a :: t) j) = _
          rw [e2]
          rfl
      | false =>
        show lk (a :: put t k v) j = _
        rw [lk_cons, lk_cons, lk_put (L := t) h]
        cases e4 : Nat.beq a.1 j with
        | true =>
          have e5 : a.1 = j := Nat.eq_of_beq_eq_true e4
          have : j ≠ k := by
            intro e6
            rw [e5, e6] at e
            have : Nat.beq k k = true := Nat.beq_refl k
            rw [this] at e
            cases e
          show some a.2 = if j = k then some v else some a.2
          rw [if_neg this]
        | false => rfl
theorem lk_rm1 {L : PL} {k j : Nat} : lk (rm1 L k) j = if j = k then none else if j + 1 = k ∧ lg L j = true then none else lk L j := by
  cases k with
  | zero =>
    show lk (rmk L 0) j = _
    rw [lk_rmk]
    by_cases hj : j = 0
    · rw [if_pos hj, if_pos hj]
    · rw [if_neg hj, if_neg hj, if_neg (by omega)]
  | succ i =>
    unfold rm1
    dsimp only
    cases e : lg L i with
    | true =>
      show lk (rmk (rmk L (i + 1)) i) j = _
      rw [lk_rmk, lk_rmk]
      by_cases h1 : j = i
      · subst h1
        rw [if_pos rfl, if_neg (by omega), if_pos ⟨rfl, e⟩]
      · rw [if_neg h1]
        by_cases h2 : j = i + 1
        · rw [if_pos h2, if_pos h2]
        · rw [if_neg h2, if_neg h2, if_neg (by omega)]
    | false =>
      show lk (rmk L (i + 1)) j = _
      rw [lk_rmk]
      by_cases h2 : j = i + 1
      · rw [if_pos h2, if_pos h2]
      · rw [if_neg h2, if_neg h2, if_neg]
        intro h3
        have : j = i := by omega
        subst this
        rw [e] at h3
        exact absurd h3.2 (by decide)
theorem lg_sub {L L' : PL} (h : SubL L L') {j : Nat} {w : Value} (hj : lk L j = some w) : lg L' j = lg L j := by
  unfold lg
  rw [hj, h j w hj]
theorem sub_ins1 {L L' : PL} (h : SubL L L') (k : Nat) (v : Value) : SubL (ins1 L k v) (ins1 L' k v) := by
  intro j w hw
  unfold ins1 at hw ⊢
  have n1 : lk (rm1 L k) k = none := by rw [lk_rm1, if_pos rfl]
  have n2 : lk (rm1 L' k) k = none := by rw [lk_rm1, if_pos rfl]
  rw [lk_put n1] at hw
  rw [lk_put n2]
  by_cases hj : j = k
  · rw [if_pos hj] at hw ⊢; exact hw
  · rw [if_neg hj] at hw ⊢
    rw [lk_rm1, if_neg hj] at hw ⊢
    by_cases hc : j + 1 = k ∧ lg L j = true
    · rw [if_pos hc] at hw; cases hw
    · rw [if_neg hc] at hw
      rw [lg_sub h hw, if_neg hc]
      exact h j w hw
theorem sub_ins2 {L L' : PL} (h : SubL L L') (k : Nat) (v : Value) : SubL (ins2 L k v) (ins2 L' k v) := by
  intro j w hw
  unfold ins2 rm2 at hw ⊢
  have n1 : lk (rmk (rm1 L k) (k + 1)) k = none := by rw [lk_rmk, if_neg (by omega), lk_rm1, if_pos rfl]
  have n2 : lk (rmk (rm1 L' k) (k + 1)) k = none := by rw [lk_rmk, if_neg (by omega), lk_rm1, if_pos rfl]
  rw [lk_put n1] at hw
  rw [lk_put n2]
  by_cases hj : j = k
  · rw [if_pos hj] at hw ⊢; exact hw
  · rw [if_neg hj] at hw ⊢
    rw [lk_rmk] at hw ⊢
    by_cases hj1 : j = k + 1
    · rw [if_pos hj1] at hw; cases hw
    · rw [if_neg hj1] at hw ⊢
      rw [lk_rm1, if_neg hj] at hw ⊢
      by_cases hc : j + 1 = k ∧ lg L j = true
      · rw [if_pos hc] at hw; cases hw
      · rw [if_neg hc] at hw
        rw [lg_sub h hw, if_neg hc]
        exact h j w hw
theorem pLd_sub {ok : Value → Bool} {L L' : PL} (hs : SubL L L') {k : Nat} {st : List Value} {q : PL × List Value} (h : pLd ok L k st = some q) : ∃ L2, pLd ok L' k st = some (L2, q.2) ∧ SubL q.1 L2 := by
  obtain ⟨v, h1, h2, rfl⟩ := pLd_i h
  refine ⟨L', ?_, hs⟩
  unfold pLd
  rw [hs k v h1, Option.bind_some, h2]
  rfl
theorem pL_sub {i : Instr} {nL : Nat} {L L' : PL} (hs : SubL L L') {st : List Value} {q : PL × List Value} (h : pL i nL L st = some q) : ∃ L2, pL i nL L' st = some (L2, q.2) ∧ SubL q.1 L2 := by
  have s1 : ∀ {ok : Value → Bool} {k : Nat}, pSt1 ok nL L k st = some q → ∃ L2, pSt1 ok nL L' k st = some (L2, q.2) ∧ SubL q.1 L2 := by
    intro ok k h
    obtain ⟨v, r, rfl, h1, h2, rfl⟩ := pSt1_i h
    refine ⟨ins1 L' k v, ?_, sub_ins1 hs k v⟩
    unfold pSt1
    dsimp only
    have : Nat.blt k nL = true := Nat.ble_eq_true_of_le h2
    rw [h1, this]
    rfl
  cases i
  case iload k => exact pLd_sub hs h
  case iload_n k => exact pLd_sub hs h
  case lload k => exact pLd_sub hs h
  case lload_n k => exact pLd_sub hs h
  case aload k => exact pLd_sub hs h
  case aload_n k => exact pLd_sub hs h
  case istore k => exact s1 h
  case istore_n k => exact s1 h
  case astore k => exact s1 h
  case astore_n k => exact s1 h
  case lstore k =>
    obtain ⟨v, r, rfl, h1, h2, rfl⟩ := pSt2_i h
    refine ⟨ins2 L' k v, ?_, sub_ins2 hs k v⟩
    show pSt2 nL L' k (v :: r) = _
    unfold pSt2
    dsimp only
    have : Nat.blt (k + 1) nL = true := Nat.ble_eq_true_of_le h2
    rw [h1, this]
    rfl
  case lstore_n k =>
    obtain ⟨v, r, rfl, h1, h2, rfl⟩ := pSt2_i h
    refine ⟨ins2 L' k v, ?_, sub_ins2 hs k v⟩
    show pSt2 nL L' k (v :: r) = _
    unfold pSt2
    dsimp only
    have : Nat.blt ((k : Nat) + 1) nL = true := Nat.ble_eq_true_of_le h2
    rw [h1, this]
    rfl
  case iinc k n =>
    unfold pL at h
    dsimp only at h
    split at h
    next x hx =>
      cases eb : Nat.blt k nL with
      | false => rw [eb] at h; cases h
      | true =>
        rw [eb] at h
        cases h
        refine ⟨ins1 L' k (.int (x + Int32.ofInt n)), ?_, sub_ins1 hs k _⟩
        unfold pL
        dsimp only
        rw [hs k _ hx]
        dsimp only
        rw [eb]
        rfl
    next => cases h
  all_goals (have h2 : (none : Option (PL × List Value)) = some q := h; cases h2)
theorem pL_none {i : Instr} {nL : Nat} {L : PL} {st : List Value} {q : PL × List Value} (h : pL i nL L st = some q) {Λ : PRo} {ini : Bool} {c pc pc' : Nat} {σ : PSt} : pS Λ ini c pc pc' σ i st = none ∧ retOf i st = none ∧ callOf i = none := by
  cases i
  case iload k => exact ⟨rfl, rfl, rfl⟩
  case iload_n k => exact ⟨rfl, rfl, rfl⟩
  case lload k => exact ⟨rfl, rfl, rfl⟩
  case lload_n k => exact ⟨rfl, rfl, rfl⟩
  case aload k => exact ⟨rfl, rfl, rfl⟩
  case aload_n k => exact ⟨rfl, rfl, rfl⟩
  case istore k => exact ⟨rfl, rfl, rfl⟩
  case istore_n k => exact ⟨rfl, rfl, rfl⟩
  case astore k => exact ⟨rfl, rfl, rfl⟩
  case astore_n k => exact ⟨rfl, rfl, rfl⟩
  case lstore k => exact ⟨rfl, rfl, rfl⟩
  case lstore_n k => exact ⟨rfl, rfl, rfl⟩
  case iinc k n => exact ⟨rfl, rfl, rfl⟩
  all_goals (have h2 : (none : Option (PL × List Value)) = some q := h; cases h2)
theorem pS_none {i : Instr} {st : List Value} {Λ : PRo} {ini : Bool} {c pc pc' : Nat} {σ : PSt} {q : Nat × List Value × PSt} (h : pS Λ ini c pc pc' σ i st = some q) : retOf i st = none ∧ callOf i = none := by
  cases i <;> first | exact ⟨rfl, rfl⟩ | (have h2 : (none : PO) = some q := h; cases h2)
/-! the four kinds of step, as rows -/
theorem prun_S {Λ : PRo} {n d m pc len : Nat} {L : PL} {st : List Value} {σ : PSt} {i : Instr} {pc2 : Nat} {st2 : List Value} {σ2 : PSt} (hd : decode (mB m) pc = .ok (i, len)) (hl : lenOk i len = true) (h : pS Λ (isIni m) (mC m) pc (pc + len) σ i st = some (pc2, st2, σ2)) : prun Λ (n + 1) d m pc L st σ = prun Λ n d m pc2 L st2 σ2 := by
  obtain ⟨h1, h2⟩ := pS_none h
  rw [prun, hd]
  dsimp only
  rw [if_pos hl, h1, h2]
  dsimp only
  rw [h]
theorem prun_L {Λ : PRo} {n d m pc len : Nat} {L : PL} {st : List Value} {σ : PSt} {i : Instr} {L2 : PL} {st2 : List Value} (hd : decode (mB m) pc = .ok (i, len)) (hl : lenOk i len = true) (h : pL i (mL m) L st = some (L2, st2)) : prun Λ (n + 1) d m pc L st σ = prun Λ n d m (pc + len) L2 st2 σ := by
  obtain ⟨h0, h1, h2⟩ := pL_none h (Λ := Λ) (ini := isIni m) (c := mC m) (pc := pc) (pc' := pc + len) (σ := σ)
  rw [prun, hd]
  dsimp only
  rw [if_pos hl, h1, h2]
  dsimp only
  rw [h0]
  dsimp only
  rw [h]
theorem prun_R {Λ : PRo} {n d m pc len : Nat} {L : PL} {st : List Value} {σ : PSt} {i : Instr} {v : Option Value} (hd : decode (mB m) pc = .ok (i, len)) (hl : lenOk i len = true) (h : retOf i st = some v) (hok : okRet (mR m) v = true) : prun Λ (n + 1) d m pc L st σ = some (v, σ) := by
  rw [prun, hd]
  dsimp only
  rw [if_pos hl, h]
  dsimp only
  rw [if_pos hok]
theorem retC {i : Instr} {q : Nat × Nat} (h : callOf i = some q) (st : List Value) : retOf i st = none := by
  cases i <;> first | rfl | (have h2 : (none : Option (Nat × Nat)) = some q := h; cases h2)
theorem prun_C {Λ : PRo} {n d m pc len k idx y : Nat} {L : PL} {st as rest : List Value} {σ σ1 : PSt} {i : Instr} {v : Option Value} (hd : decode (mB m) pc = .ok (i, len)) (hl : lenOk i len = true) (h : callOf i = some (k, idx)) (hca : ca (mC m) idx = some y) (hk : kdOk k y = true) (hp : popN (nA y) st [] = some (as, rest)) (hc : catS rest ≤ 8 ∧ catS as ≤ mL y ∧ vOk k y as σ = true)
    (hrun : prun Λ n d y 0 (entL as) [] σ = some (v, σ1)) : prun Λ (n + 1) (d + 1) m pc L st σ = prun Λ n (d + 1) m (pc + 3) L (v.toList ++ rest) σ1 := by
  rw [prun, hd]
  dsimp only
  rw [if_pos hl, retC h, h]
  dsimp only
  rw [hca]
  dsimp only
  rw [if_pos hk, hp]
  dsimp only
  rw [if_pos hc, hrun]
theorem prun_O {Λ : PRo} {n d m pc len k idx o : Nat} {L : PL} {rest : List Value} {σ : PSt} {i : Instr} (hd : decode (mB m) pc = .ok (i, len)) (hl : lenOk i len = true) (h : callOf i = some (k, idx)) (hca : ca (mC m) idx = none) (hoi : k = 1 ∧ oi (mC m) idx = true) (hc : catS rest ≤ 8) : prun Λ (n + 1) (d + 1) m pc L (.ref o :: rest) σ = prun Λ n (d + 1) m (pc + 3) L rest σ := by
  rw [prun, hd]
  dsimp only
  rw [if_pos hl, retC h, h]
  dsimp only
  rw [hca]
  dsimp only
  rw [if_pos hoi, if_pos hc]
theorem prun_A {Λ : PRo} {n d m pc len k idx : Nat} {L : PL} {st rest : List Value} {σ σ1 : PSt} {i : Instr} (hd : decode (mB m) pc = .ok (i, len)) (hl : lenOk i len = true) (h : callOf i = some (k, idx)) (hca : ca (mC m) idx = none) (hoi : ¬ (k = 1 ∧ oi (mC m) idx = true)) (hac : k = 2 ∧ ac (mC m) idx = true) (hcp : oCpy st σ = some (rest, σ1)) : prun Λ (n + 1) (d + 1) m pc L st σ = prun Λ n (d + 1) m (pc + 3) L rest σ1 := by
  rw [prun, hd]
  dsimp only
  rw [if_pos hl, retC h, h]
  dsimp only
  rw [hca]
  dsimp only
  rw [if_neg hoi, if_pos hac, hcp]
theorem prun_M {Λ : PRo} {n d m pc len k idx j : Nat} {L : PL} {st st1 : List Value} {σ : PSt} {i : Instr} (hd : decode (mB m) pc = .ok (i, len)) (hl : lenOk i len = true) (h : callOf i = some (k, idx)) (hca : ca (mC m) idx = none) (hoi : ¬ (k = 1 ∧ oi (mC m) idx = true)) (hac : ¬ (k = 2 ∧ ac (mC m) idx = true)) (hk : k = 2) (hmm : mm (mC m) idx = some j) (hst : oMM j st = some st1) : prun Λ (n + 1) (d + 1) m pc L st σ = prun Λ n (d + 1) m (pc + 3) L st1 σ := by
  rw [prun, hd]
  dsimp only
  rw [if_pos hl, retC h, h]
  dsimp only
  rw [hca]
  dsimp only
  rw [if_neg hoi, if_neg hac, if_pos hk, hmm]
  dsimp only
  rw [hst]
theorem pS_ro {Λ Λ' : PRo} (hΛ : Λ.1 = 0 ∨ Λ' = Λ) {ini : Bool} {c pc pc' : Nat} {σ : PSt} {i : Instr} {st : List Value} {q : Nat × List Value × PSt} (h : pS Λ ini c pc pc' σ i st = some q) : pS Λ' ini c pc pc' σ i st = some q := by
  rcases hΛ with hΛ | rfl
  · cases i
    case iaload =>
      rcases oLdI_i h with ⟨i, ob, r, rfl, hh, e⟩ | ⟨i, ob, r, rfl, hh, e⟩
      · subst e
        show oLdI Λ' 1 (.int i :: .ref ob :: r) pc' σ = _
        unfold oLdI
        dsimp only
        rw [if_pos hh]
      · exact absurd hh.2.1 (by omega)
    case baload =>
      rcases oLdI_i h with ⟨i, ob, r, rfl, hh, e⟩ | ⟨i, ob, r, rfl, hh, e⟩
      · subst e
        show oLdI Λ' 2 (.int i :: .ref ob :: r) pc' σ = _
        unfold oLdI
        dsimp only
        rw [if_pos hh]
      · exact absurd hh.2.1 (by omega)
    case saload =>
      rcases oLdI_i h with ⟨i, ob, r, rfl, hh, e⟩ | ⟨i, ob, r, rfl, hh, e⟩
      · subst e
        show oLdI Λ' 3 (.int i :: .ref ob :: r) pc' σ = _
        unfold oLdI
        dsimp only
        rw [if_pos hh]
      · exact absurd hh.2.1 (by omega)
    case arraylength =>
      rcases oLen_i h with ⟨ob, r, rfl, hh, e⟩ | ⟨ob, r, rfl, hh, e⟩
      · subst e
        show oLen Λ' (.ref ob :: r) pc' σ = _
        unfold oLen
        dsimp only
        rw [if_pos hh]
      · exact absurd hh (by omega)
    all_goals exact h
  · exact h
set_option maxHeartbeats 4000000 in
theorem prun_mono (Λ Λ' : PRo) (hΛ : Λ.1 = 0 ∨ Λ' = Λ) : ∀ (n d m pc : Nat) (L : PL) (st : List Value) (σ : PSt) (r : Option Value × PSt), prun Λ n d m pc L st σ = some r → ∀ (n' d' : Nat) (L' : PL), n ≤ n' → d ≤ d' → SubL L L' → prun Λ' n' d' m pc L' st σ = some r := by
  intro n
  induction n with
  | zero => intro d m pc L st σ r h; cases h
  | succ n ih =>
    intro d m pc L st σ r h n' d' L' hn hdd hs
    obtain ⟨n1, rfl⟩ : ∃ n1, n' = n1 + 1 := ⟨n' - 1, by omega⟩
    have hn1 : n ≤ n1 := by omega
    unfold prun at h
    split at h
    next => cases h
    next i len hd =>
    split at h
    next hlen =>
      split at h
      next v' hret =>
        split at h
        next hok =>
          cases h
          exact prun_R hd hlen hret hok
        next => cases h
      next hret =>
        split at h
        next k idx hcall =>
          split at h
          next => cases h
          next d1 =>
          obtain ⟨d2, rfl⟩ : ∃ d2, d' = d2 + 1 := ⟨d' - 1, by omega⟩
          split at h
          next y hca =>
            split at h
            next hkd =>
              split at h
              next as rest hpop =>
                split at h
                next hc =>
                  split at h
                  next v2 σ2 hcal =>
                    rw [prun_C hd hlen hcall hca hkd hpop hc (ih _ _ _ _ _ _ _ hcal n1 d2 _ hn1 (by omega) (fun _ _ h => h))]
                    exact ih _ _ _ _ _ _ _ h n1 (d2 + 1) L' hn1 (by omega) hs
                  next => cases h
                next => cases h
              next => cases h
            next => cases h
          next hca =>
            split at h
            next hoi =>
              split at h
              next o rest =>
                split at h
                next hcr =>
                  rw [prun_O hd hlen hcall hca hoi hcr]
                  exact ih _ _ _ _ _ _ _ h n1 (d2 + 1) L' hn1 (by omega) hs
                next => cases h
              next => cases h
            next hoi =>
              split at h
              next hac =>
                split at h
                next rest τ hcp =>
                  rw [prun_A hd hlen hcall hca hoi hac hcp]
                  exact ih _ _ _ _ _ _ _ h n1 (d2 + 1) L' hn1 (by omega) hs
                next => cases h
              next hac =>
                split at h
                next hk2 =>
                  split at h
                  next j hmm =>
                    split at h
                    next st1 hst =>
                      rw [prun_M hd hlen hcall hca hoi hac hk2 hmm hst]
                      exact ih _ _ _ _ _ _ _ h n1 (d2 + 1) L' hn1 (by omega) hs
                    next => cases h
                  next => cases h
                next => cases h
        next hcall =>
          split at h
          next pc2 st2 σ2 hps =>
            rw [prun_S hd hlen (pS_ro hΛ hps)]
            exact ih _ _ _ _ _ _ _ h n1 d' L' hn1 hdd hs
          next =>
            split at h
            next L2 st2 hpl =>
              obtain ⟨L3, h3, h4⟩ := pL_sub hs hpl
              rw [prun_L hd hlen h3]
              exact ih _ _ _ _ _ _ _ h n1 d' L3 hn1 hdd h4
            next => cases h
    next => cases h

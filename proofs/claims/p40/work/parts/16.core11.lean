/-! ===== THE LAW FROM ITS ENTRY ===== -/
def LAM (L : Nat) (xs : Nat → Int32) : PRo := (4, fun j => bif Nat.beq j 0 then L else stL j, fun j i => bif Nat.beq j 0 then xs i else stV j i)
/-- nothing yet -/
def σ00 : PSt := (0, 0, fun _ => (9, 0), fun _ _ => none, fun _ _ => 0, fun _ _ => 0)
theorem arr_known {s : State} {args : Array Value} {ty : FieldType} (h : (Cond.arrayClass ty).before args s = true) : ∃ cA : ClassId, ArrOfT s cA ty ∧ s.vm.findClass ("[" ++ ty.toString) = some cA := by
  obtain ⟨cA, kA, comp, hfind, hk, hkind⟩ := Cond.arrayClass_spec h
  exact ⟨cA, fun n z => ⟨fun k h => (by cases h), kA, hk, comp, hkind⟩, hfind⟩
theorem arr2_known {s : State} {args : Array Value} {ty : FieldType} (h : (Cond.arrayOver (.array ty)).before args s = true) : ∃ cA : ClassId, ArrOfT s cA (.array ty) ∧ s.vm.findClass ("[" ++ (FieldType.array ty).toString) = some cA := by
  obtain ⟨comp, c, k, h1, h2, h3, h4, h5⟩ := Stand.arrayOver_specB h
  exact ⟨c, fun n z => ⟨fun k h => (by cases h), k, h3, comp, h4⟩, h5⟩
theorem cls_known {s : State} {args : Array Value} (hts : ∀ w ∈ WALL, w.before args s = true) : ∀ n, n ≤ NX → ∃ (dC : Nat → ClassId) (dI : Nat → Nat → Nat), ∀ ci, ci < n → u_Kn s (cnm ci) (cT ci) (nF ci) (dC ci) (dI ci)
  | 0, _ => ⟨fun _ => 0, fun _ _ => 0, fun _ h => absurd h (Nat.not_lt_zero _)⟩
  | n + 1, hn => by
    obtain ⟨dC, dI, h⟩ := cls_known hts n (by omega)
    obtain ⟨c0, i0, h0⟩ := u_known (C := cnm n) (T := cT n) (N := nF n) (n := nF n) hts (w_lay (by omega)) (hts _ (w_is (by omega)))
    refine ⟨fun k => if k = n then c0 else dC k, fun k => if k = n then i0 else dI k, fun ci hci => ?_⟩
    by_cases e : ci = n
    · subst e
      simp only [if_true]
      exact h0
    · simp only [if_neg e]
      exact h ci (by omega)
theorem tys_known {s : State} {args : Array Value} (hts : ∀ w ∈ lw_tbl, w.before args s = true) (hts2 : ∀ w ∈ WALL, w.before args s = true) : ∃ dA : Nat → ClassId, (∀ (k : Nat) (q : ClassId × FieldType), (tysL dA)[k]? = some q → ArrOfT s q.1 q.2 ∧ va_RA s q.1 q.2) ∧ (Cond.arrayOver (.array .int)).before #[] s = true ∧ (Cond.arrayOver (.array .long)).before #[] s = true := by
  have ho5 : (Cond.arrayOver (.array .int)).before args s = true := hts _ (chk_map (f := wEx) sgEx_ok (a := .arrayOver (.array .int)) (by decide +kernel))
  have ho6 : (Cond.arrayOver (.array .long)).before args s = true := hts _ (chk_map (f := wEx) sgEx_ok (a := .arrayOver (.array .long)) (by decide +kernel))
  obtain ⟨c1, a1, b1⟩ := arr_known (hts2 _ (w_ex (w := .arrayClass .int) (by decide +kernel) rfl))
  obtain ⟨c2, a2, b2⟩ := arr_known (hts2 _ (w_ex (w := .arrayClass .byte) (by decide +kernel) rfl))
  obtain ⟨c3, a3, b3⟩ := arr_known (hts2 _ (w_ex (w := .arrayClass .short) (by decide +kernel) rfl))
  obtain ⟨c4, a4, b4⟩ := arr_known (hts2 _ (w_ex (w := .arrayClass .long) (by decide +kernel) rfl))
  obtain ⟨c5, a5, b5⟩ := arr2_known ho5
  obtain ⟨c6, a6, b6⟩ := arr2_known ho6
  refine ⟨fun t => match t with | 1 => c1 | 2 => c2 | 3 => c3 | 4 => c4 | 5 => c5 | _ => c6, fun k q hk => ?_, ho5, ho6⟩
  match k, hk with
  | 0, hk => cases hk; exact ⟨a1, b1⟩
  | 1, hk => cases hk; exact ⟨a2, b2⟩
  | 2, hk => cases hk; exact ⟨a3, b3⟩
  | 3, hk => cases hk; exact ⟨a4, b4⟩
  | 4, hk => cases hk; exact ⟨a5, b5⟩
  | 5, hk => cases hk; exact ⟨a6, b6⟩
  | k + 6, hk => simp [tysL] at hk
theorem st_known {s : State} {args : Array Value} (hts : ∀ w ∈ lw_tbl, w.before args s = true) (hts2 : ∀ w ∈ WALL, w.before args s = true) (hg : (Jvm.Cond.and given_1 narrow_1).before args s = true) (k : Nat) (h1 : 1 ≤ k) (h4 : k < 4) :
    ∃ t : Nat, va_T .int t (stL k) (fun i => .int (stV k i)) (fun a => s.heap.size ≤ a) s s.heap ∧ va_Z (stN k).1 (stN k).2.1 (stN k).2.2 (.ref t) (fun a => s.heap.size ≤ a) s s.heap := by
  have hs := flat_of_before _ hg
  obtain ⟨a1, a2, a3, a4⟩ := st_all k h4 h1
  have hA : ∀ a : Nat, a < s.heap.size → ¬ (fun a : Nat => s.heap.size ≤ a) a := fun a ha => by show ¬ s.heap.size ≤ a; omega
  obtain ⟨t, ht, hT⟩ := va_Tof (f := fun i => .int (stV k i)) (A := fun a => s.heap.size ≤ a) a4 (hs _ a2) (va_eqt (hs _ a3)) (fun j hj => va_eqt (hs _ (a1 j hj))) hA
  have hini : (Cond.initialized (stN k).1).before args s = true := by
    have hk : k = 1 ∨ k = 2 ∨ k = 3 := by omega
    rcases hk with rfl | rfl | rfl
    · exact hts2 _ (w_in (c := 3) (by decide))
    · exact hts2 _ (w_in (c := 3) (by decide))
    · exact hts2 _ (w_in (c := 10) (by decide))
  exact ⟨t, hT, va_Zref (hts _ (chk_map (f := wLs) sgLs_ok (sgLs_all k h4 h1))) hini ht hA⟩
theorem mB_law : mB NM = code := rfl
theorem law_of_run {n d : Nat} {L : Nat} {xs : Nat → Int32} {τ : PSt} (hrun : prun (LAM L xs) n d NM 0 [(0, .retAddr 0)] [] σ00 = some (some (.int 1), τ)) (hd1 : d ≤ 1000) (hn1 : pnc τ ≤ 600000) (hn2 : pns τ ≤ 7302250)
    {p : Program} {e : Env} {s : State} {m : MethodId} {below : List Frame} {meth : Method} {c : Code} (l : Launch) {b : Nat} (C0 : lw_At p s m meth c b L xs) : W p l e room_1 s m #[Value.ref b] below meth c s.heap [] 0 0 (lw_Z below #[Value.ref b] s) (entryFrame m ([Value.ref b] : List Value).toArray 4) := by
  obtain ⟨hx, hb, hr, hml, hown, hts, hX, hbl, hlocks, hgv⟩ := id C0
  have hts2 : ∀ w ∈ WALL, w.before #[Value.ref b] s = true := fun w hw => hts w (List.mem_filter.mp hw).1
  obtain ⟨dC, dI, hK1⟩ := cls_known hts2 NX (Nat.le_refl _)
  obtain ⟨dA, hK2, ho5, ho6⟩ := tys_known hts hts2
  obtain ⟨t1, hT1, hZ1⟩ := st_known hts hts2 hgv 1 (by decide) (by decide)
  obtain ⟨t2, hT2, hZ2⟩ := st_known hts hts2 hgv 2 (by decide) (by decide)
  obtain ⟨t3, hT3, hZ3⟩ := st_known hts hts2 hgv 3 (by decide) (by decide)
  have hT0 : va_T .int b L (fun i => .int (xs i)) (fun a => s.heap.size ≤ a) s s.heap := by
    obtain ⟨scr, g1, g2, g3, g4, g5⟩ := hX
    exact ⟨scr, g1, g2, g3, Nat.le_of_eq g4.symm, by rw [g4] <;> rfl, g5, by show ¬ s.heap.size ≤ b; omega⟩
  let tt : Nat → Nat := fun k => match k with | 0 => b | 1 => t1 | 2 => t2 | _ => t3
  let X : Ctx := (p, l, e, room_1, s, m, #[Value.ref b], below, meth, c, lw_Z below #[Value.ref b] s, (dC, dI), dA, s.heap.size, tt, 0, 0, NM)
  have hKN : KN (LAM L xs) (dC, dI) dA s.heap.size tt s s.heap := by
    refine ⟨⟨fun ci q hq => ?_, hK2⟩, Nat.le_refl _, fun j hj => ?_, fun j h1 hj => ?_, ho5, ho6⟩
    · have hci := vwCl_lt hq
      obtain rfl : q = (cnm ci, cT ci, nF ci) := Option.some.inj (hq.symm.trans (vwCl_at hci))
      exact hK1 ci hci
    · have hj : j < 4 := hj
      have : j = 0 ∨ j = 1 ∨ j = 2 ∨ j = 3 := by omega
      rcases this with rfl | rfl | rfl | rfl
      · exact hT0
      · exact hT1
      · exact hT2
      · exact hT3
    · have : j = 1 ∨ j = 2 ∨ j = 3 := by omega
      rcases this with rfl | rfl | rfl
      · exact hZ1
      · exact hZ2
      · exact hZ3
  have hCX : CX (LAM L xs) X := ⟨hx, hb.trans mB_law.symm, hr, hml, hown, hts2, hlocks, fun h => (by cases h), hKN, Nat.le_refl _⟩
  have hl := lv_entry ([.ref b]) (n := 4) (Nat.le_of_ble_eq_true rfl)
  rw [lg_entry_eq]
  generalize (lg_sl ([.ref b]) ++ List.replicate (4 - (lg_sl ([.ref b])).length) Slot.unset).toArray = ls at hl ⊢
  have hl2 : lv_has ls (mL (xm X)) (cvL X [(0, .retAddr 0)]) := hl
  obtain ⟨-, G⟩ := MT (LAM L xs) _ _ _ _ _ _ _ _ _ hrun
  have r1 : (xR X).frames = 2048 := rfl
  have r2 : (xR X).locals = 84000 := rfl
  have r3 : (xR X).cells = 600000 := rfl
  have r4 : (xR X).slots = 7302250 := rfl
  have r5 : xk X = 0 := rfl
  have r6 : xn X = 0 := rfl
  refine G X hCX rfl (by omega) (by omega) (by omega) (by omega) ?_ s.heap [] 0 0 ls ⟨rfl, fun k hk => absurd hk (Nat.not_lt_zero _)⟩ va_S.rf rfl rfl hl2
  intro pc' L' hd' hok H' locs' cells' slots' ls' hH' hS' hc' hs' hl'
  have hc2 : cells' ≤ 600000 := by have : pnc τ = 0 + cells' := hc'; omega
  have hs2 : slots' ≤ 7302250 := by have : pns τ = 0 + slots' := hs'; omega
  refine va_forget (fun q hq => hS'.2.2 q hq) ?_
  refine W.widen hc2 hs2 ?_
  have hd2 : decode (mB NM) pc' = .ok (.ireturn, 1) := hd'
  rw [mB_law] at hd2
  exact lw_ret hx hb hr hlocks hd2

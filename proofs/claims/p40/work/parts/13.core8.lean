/-! ===== calls ===== -/
def wsM (m : Nat) : List Cond := wCode m :: WALL
theorem wsM_in {m : Nat} (h : m < NM) : ∀ w ∈ wsM m, w ∈ WALL := by
  intro w hw
  rcases List.mem_cons.mp hw with rfl | hw
  · exact w_code h
  · exact hw
theorem good_wall {ws : List Cond} (h : ∀ w ∈ ws, w ∈ WALL) : GoodIn WALL ws := fun w hw => ⟨h w hw, good_of_word (List.mem_filter.mp (h w hw)).2⟩
def cRm (d mc ms : Nat) : Room := { frames := d, cells := mc, slots := ms, locals := 64 * d }
def cPc (Λ : PRo) (D : va_G) (dA : Nat → ClassId) (b0 : Nat) (tt : Nat → Nat) (as : List Value) (σ : PSt) : Array Value → State → Prop := va_Pc (as.map (cv b0 tt)) (fun U => Hd D dA b0 tt σ U.heap ∧ KN Λ D dA b0 tt U U.heap)
def cQc (D : va_G) (dA : Nat → ClassId) (b0 : Nat) (tt : Nat → Nat) (v : Option Value) (σ : PSt) : Array Value → State → Outcome → State → Prop := fun _ st o t => o = .returned (v.map (cv b0 tt)) ∧ Hd D dA b0 tt σ t.heap ∧ va_F (fun q => b0 ≤ q) st t
theorem args_cv {b0 : Nat} {tt : Nat → Nat} : ∀ (as : List Value) (i : Nat), (lv_args i as).map (fun q => (q.1, cv b0 tt q.2)) = lv_args i (as.map (cv b0 tt))
  | [], _ => rfl
  | v :: vs, i => by
    show (i, cv b0 tt v) :: (lv_args (if v.category = 2 then i + 2 else i + 1) vs).map _ = (i, cv b0 tt v) :: lv_args (if (cv b0 tt v).category = 2 then i + 2 else i + 1) (vs.map (cv b0 tt))
    rw [args_cv vs, cv_cat]
theorem sl_len : ∀ as : List Value, (lg_sl as).length ≤ catS as
  | [] => Nat.zero_le _
  | v :: vs => by
    have h := sl_len vs
    show (lg_sl (v :: vs)).length ≤ ((v :: vs).map fun v => v.category).sum
    have e : (lg_sl (v :: vs)).length = (if v.category = 2 then 2 else 1) + (lg_sl vs).length := by
      unfold lg_sl
      rw [List.flatMap_cons, List.length_append]
      split <;> rfl
    rw [e, List.map_cons, List.sum_cons]
    have h2 : (lg_sl vs).length ≤ (vs.map fun v => v.category).sum := h
    rcases lv_cat v with h1 | h1 <;> rw [h1] <;> simp <;> omega
theorem catS_cv {b0 : Nat} {tt : Nat → Nat} (st : List Value) : ((st.map (cv b0 tt)).map fun v => v.category).sum = catS st := by
  unfold catS
  rw [List.map_map]
  congr 1
  exact List.map_congr_left fun v _ => cv_cat v
theorem ret_any {p : Program} {l : Launch} {e : Env} {R : Room} {s : State} {m : MethodId} {args : Array Value} {below : List Frame} {meth : Method} {c : Code} {H : Heap} {locs : List Loc} {cells slots pc : Nat} {ls : Array Slot} {b0 : Nat} {tt : Nat → Nat} {Qc : Array Value → State → Outcome → State → Prop} {free : Addr → Prop} {cc : ByteArray} {r0 : Option FieldType} {v : Option Value} (hexec : p.tables.exec = Jvm.exec) (hb : c.code = cc) (hr0 : meth.sig.returnType = r0) (hok : okRet r0 v = true)
    (hq : ∀ t : State, t.heap = H → s.WarmedH t.vm → Qc args s (.returned (v.map (cv b0 tt))) t) (hf : ∀ q ∈ locs, free q.base) (hd : decode cc pc = .ok (retI v, 1)) (hlk : meth.locks = false) : W p l e R s m args below meth c H locs cells slots (MQ below Qc args s cells slots free) (F0 m pc ls (v.toList.map (cv b0 tt))) := by
  match v, hq, hok, hd with
  | none, hq, hok, hd =>
    have hr : r0 = none := by
            match r0, hok with
      | none, _ => rfl
      | some t, h => cases t <;> cases h
    exact W.vret hexec hb (hr0.trans hr) hq hf hd hlk
  | some (.int x), hq, hok, hd =>
    have hr : ∃ ty, r0 = some ty ∧ narrow ty (.int x) = .int x := by
            match r0, hok with
      | none, h => cases h
      | some .int, _ => exact ⟨_, rfl, rfl⟩
      | some .boolean, h =>
        refine ⟨_, rfl, ?_⟩
        have h2 : (x == 0 || x == 1) = true := h
        simp only [Bool.or_eq_true, beq_iff_eq] at h2
        rcases h2 with rfl | rfl <;> decide
      | some .byte, h => cases h
      | some .char, h => cases h
      | some .short, h => cases h
      | some .long, h => cases h
      | some .float, h => cases h
      | some .double, h => cases h
      | some (.object _), h => cases h
      | some (.array _), h => cases h
    obtain ⟨ty, hr, hn⟩ := hr
    exact W.zret hexec hb (hr0.trans hr) hn hq hf hd hlk
  | some (.long x), hq, hok, hd =>
    have hr : r0 = some .long := by
            match r0, hok with
      | none, h => cases h
      | some t, h => cases t <;> first | rfl | cases h
    exact W.lret hexec hb (hr0.trans hr) hq hf hd hlk
  | some (.ref x), hq, hok, hd =>
    have hr : ∃ n, r0 = some (.object n) := by
            match r0, hok with
      | none, h => cases h
      | some t, h => cases t <;> first | exact ⟨_, rfl⟩ | cases h
    obtain ⟨n, hr⟩ := hr
    exact W.aret hexec hb (hr0.trans hr) (Or.inl ⟨n, rfl⟩) (Or.inr ⟨_, rfl⟩) hq hf hd hlk
  | some (.float x), hq, hok, hd =>
        match r0, hok with
    | none, h => cases h
    | some t, h => cases t <;> cases h
  | some (.double x), hq, hok, hd =>
        match r0, hok with
    | none, h => cases h
    | some t, h => cases t <;> cases h
  | some .null, hq, hok, hd =>
        match r0, hok with
    | none, h => cases h
    | some t, h => cases t <;> cases h
  | some (.retAddr x), hq, hok, hd =>
        match r0, hok with
    | none, h => cases h
    | some t, h => cases t <;> cases h
/-- a callee's contract out of its walk -/
theorem met_of {Λ : PRo} {l : Launch} {D : va_G} {dA : Nat → ClassId} {b0 : Nat} {tt : Nat → Nat} {y d : Nat} {as : List Value} {σ σ1 : PSt} {v : Option Value} (hy : y < NM) (hcat : catS as ≤ mL y) (hm1 : pnc σ ≤ pnc σ1) (hm2 : pns σ ≤ pns σ1)
    (hB : ∀ X : Ctx, CX Λ X → xm X = y → d ≤ (xR X).frames → 64 * d ≤ (xR X).locals → pnc σ1 ≤ xk X + (xR X).cells → pns σ1 ≤ xn X + (xR X).slots → (∀ (pc' : Nat) (L' : PL), decode (mB (xm X)) pc' = .ok (retI v, 1) → okRet (mR (xm X)) v = true → WS X pc' L' v.toList σ1) → WS X 0 (entL as) [] σ) :
    Met l (mY y) (wsM y) (cRm d (pnc σ1 - pnc σ) (pns σ1 - pns σ)) (cPc Λ D dA b0 tt as σ) (cQc D dA b0 tt v σ1) (pnc σ1 - pnc σ) (pns σ1 - pns σ) (fun q => b0 ≤ q) := by
  refine Met.ofW (cc := mB y) (maxL := mL y) (ret := mR y) (mY_plain y hy) rfl ?_
  intro p e s m args below meth c s₁ B hml hv
  obtain ⟨rfl, hH, hKN⟩ := hv
  have hts := atoms_spec (ws := wsM y) B.pre
  have hown : s.vm.findClass (mY y).cls = some m.cls := findClass_of_methodNamed B.named
  rw [mC_nm y hy] at hown
  let X : Ctx := (p, l, e, (headSpec (wsM y) (cRm d (pnc σ1 - pnc σ) (pns σ1 - pns σ))).room, s, m, (as.map (cv b0 tt)).toArray, below, meth, c, MQ below (cQc D dA b0 tt v σ1) (as.map (cv b0 tt)).toArray s (pnc σ1 - pnc σ) (pns σ1 - pns σ) (fun q => b0 ≤ q), D, dA, b0, tt, pnc σ, pns σ, y)
  have hCX : CX Λ X := ⟨B.exec, B.bytes, B.returns, hml, hown, fun w hw => hts w (List.mem_cons_of_mem _ hw), B.notSynchronized, fun hi => by
    have h1 : meth.name = (mY y).name := (name_of_methodNamed B.named B.method).1
    show meth.name = "<init>"
    rw [h1]
    exact (mY_ini y hy (Nat.eq_of_beq_eq_true hi)).1, hKN, Nat.le_of_lt hy⟩
  have hl := lv_entry (as.map (cv b0 tt)) (n := mL y) (Nat.le_trans (sl_len _) (by unfold catS; rw [catS_cv]; exact hcat))
  rw [lg_entry_eq]
  generalize (lg_sl (as.map (cv b0 tt)) ++ List.replicate (mL y - (lg_sl (as.map (cv b0 tt))).length) Slot.unset).toArray = ls at hl ⊢
  have hl2 : lv_has ls (mL (xm X)) (cvL X (entL as)) := by
    show lv_has ls (mL y) ((lv_args 0 as).map fun q => (q.1, cv b0 tt q.2))
    rw [args_cv]
    exact hl
  refine hB X hCX rfl (Nat.le_refl d) (Nat.le_refl (64 * d)) (by show pnc σ1 ≤ pnc σ + (pnc σ1 - pnc σ); omega) (by show pns σ1 ≤ pns σ + (pns σ1 - pns σ); omega) ?_ s.heap [] 0 0 ls hH va_S.rf rfl rfl hl2
  intro pc' L' hd hok H' locs' cells' slots' ls' hH' hS' hc' hs' hl'
  obtain rfl : cells' = pnc σ1 - pnc σ := by have : pnc σ1 = pnc σ + cells' := hc'; omega
  obtain rfl : slots' = pns σ1 - pns σ := by have : pns σ1 = pns σ + slots' := hs'; omega
  have hq : ∀ t : State, t.heap = H' → s.WarmedH t.vm → cQc D dA b0 tt v σ1 (as.map (cv b0 tt)).toArray s (.returned (v.map (cv b0 tt))) t := fun t ht _ => ⟨rfl, by rw [ht]; exact hH', hS'.F ht⟩
  have hlk : meth.locks = false := B.notSynchronized
  have hrt : meth.sig.returnType = mR y := B.returns
  have hok2 : okRet (mR y) v = true := hok
  have hd2 : decode (mB y) pc' = .ok (retI v, 1) := hd
  exact ret_any B.exec B.bytes hrt hok2 hq hS'.2.2 hd2 hlk
/-- behind a call -/
theorem run_go {X : Ctx} {v : Option Value} {σ1 : PSt} {H : Heap} {locs : List Loc} {cells slots mc ms pc : Nat} {ls : Array Slot} {st0 rest : List Value} {a : Array Value}
    (hr : va_Run (xp X) (xl X) (xe X) (xR X) (xs X) (xi X) (xa X) (xb X) (xh X) (xc X) H locs cells slots mc ms (F0 (xi X) pc ls st0) rest (cQc (xD X) (xA X) (xo X) (xt X) v σ1 a) (fun q => xo X ≤ q)) (hS : va_S (fun q => xo X ≤ q) (xs X).heap H locs)
    (kk : ∀ (H1 : Heap) (locs1 : List Loc), Hd (xD X) (xA X) (xo X) (xt X) σ1 H1 → va_S (fun q => xo X ≤ q) (xs X).heap H1 locs1 → W (xp X) (xl X) (xe X) (xR X) (xs X) (xi X) (xa X) (xb X) (xh X) (xc X) H1 locs1 (cells + mc) (slots + ms) (xQ X) (F0 (xi X) (pc + 3) ls ((v.map (cv (xo X) (xt X))).toList ++ rest))) :
    W (xp X) (xl X) (xe X) (xR X) (xs X) (xi X) (xa X) (xb X) (xh X) (xc X) H locs cells slots (xQ X) (F0 (xi X) pc ls st0) := by
  intro T hT Xs
  obtain ⟨v9, st₀, t, T', L, h0, X', hL, e1, e2, ⟨hv, hb, hz, hk⟩, st⟩ := hr T hT Xs
  cases hv
  rw [h0] at hz hk
  obtain ⟨t2, a1, b1⟩ := kk T'.heap (locs ++ L) (by rw [e1]; exact hb) ⟨Nat.le_trans hS.1 (by rw [e1]; exact hz), fun q h1 h2 => by rw [e1, hk q (Nat.lt_of_lt_of_le h1 hS.1) h2]; exact hS.2.1 q h1 h2, fun q hq => by
      rcases List.mem_append.mp hq with h | h
      · exact hS.2.2 q h
      · exact hL q h⟩ T' rfl X'
  exact ⟨t2, st t2 a1, b1⟩
theorem cPc_blind {Λ : PRo} {D : va_G} {dA : Nat → ClassId} {b0 : Nat} {tt : Nat → Nat} {as : List Value} {σ : PSt} : FrameBlind (cPc Λ D dA b0 tt as σ) := fun a U g mk q => by
  obtain ⟨q0, q1, q2⟩ := q
  exact ⟨q0, q1, q2.moved (u := U) (U := U.calling g mk a) (Vm.Alike.refl U.vm) q2.2.1 (fun _ _ => rfl)⟩
theorem ws_call {Λ : PRo} {X : Ctx} (C : CX Λ X) {k idx y d pc : Nat} {i : Instr} {L : PL} {as rest : List Value} {σ σ1 : PSt} {v : Option Value} (hd : decode (mB (xm X)) pc = .ok (i, 3)) (hi : k = 0 ∧ i = .invokevirtual idx ∨ k = 1 ∧ i = .invokespecial idx ∨ k = 2 ∧ i = .invokestatic idx)
    (hca : ca (mC (xm X)) idx = some y) (hkd : kdOk k y = true) (hlen : as.length = nA y) (hcr : catS rest ≤ 8) (hcat : catS as ≤ mL y) (hvo : vOk k y as σ = true) (hdf : d + 1 ≤ (xR X).frames) (hdl : 64 * (d + 1) ≤ (xR X).locals)
    (hm1 : pnc σ ≤ pnc σ1) (hm2 : pns σ ≤ pns σ1) (hr1 : pnc σ1 ≤ xk X + (xR X).cells) (hr2 : pns σ1 ≤ xn X + (xR X).slots)
    (hB : ∀ X : Ctx, CX Λ X → xm X = y → d ≤ (xR X).frames → 64 * d ≤ (xR X).locals → pnc σ1 ≤ xk X + (xR X).cells → pns σ1 ≤ xn X + (xR X).slots → (∀ (pc' : Nat) (L' : PL), decode (mB (xm X)) pc' = .ok (retI v, 1) → okRet (mR (xm X)) v = true → WS X pc' L' v.toList σ1) → WS X 0 (entL as) [] σ)
    (kk : WS X (pc + 3) L (v.toList ++ rest) σ1) : WS X pc L (as.reverse ++ rest) σ := by
  have hy : y < NM := ca_y C.mc hca
  intro H locs cells slots ls hH hS hc hs hl
  have hKN := KN.at C hS
  have hM := met_of (Λ := Λ) (l := xl X) (D := xD X) (dA := xA X) (b0 := xo X) (tt := xt X) hy hcat hm1 hm2 hB
  have hts := C.2.2.2.2.2.1
  have hclo : ((mY y).cls ≠ "java/lang/invoke/MethodHandle" ∧ (mY y).cls ≠ "java/lang/invoke/VarHandle") := mY_mh y hy
  have hroom : (cRm d (pnc σ1 - pnc σ) (pns σ1 - pns σ)).frames + 1 ≤ (xR X).frames ∧ 8 + (mL y + 11) + (cRm d (pnc σ1 - pnc σ) (pns σ1 - pns σ)).locals ≤ (xR X).locals := by
    have := mL_le y (Nat.le_of_lt hy)
    refine ⟨hdf, ?_⟩
    show 8 + (mL y + 11) + 64 * d ≤ _
    omega
  have hf : cells + (pnc σ1 - pnc σ) ≤ (xR X).cells ∧ slots + (pns σ1 - pns σ) ≤ (xR X).slots := by omega
  have hini : (Cond.initialized (mY y).cls) ∈ WALL := by rw [mC_nm y hy]; exact w_in (mC_lt y (Nat.le_of_lt hy))
  have hpre : ∀ U : State, U.heap = H → (xs X).WarmedH U.vm → cPc Λ (xD X) (xA X) (xo X) (xt X) as σ (as.map (cv (xo X) (xt X))).toArray U := fun U hU hW => ⟨rfl, by rw [hU]; exact hH, by rw [hU]; exact hKN.moved hW.alike hKN.2.1 (fun _ _ => rfl)⟩
  have hfin : ∀ (H1 : Heap) (locs1 : List Loc), Hd (xD X) (xA X) (xo X) (xt X) σ1 H1 → va_S (fun q => xo X ≤ q) (xs X).heap H1 locs1 → W (xp X) (xl X) (xe X) (xR X) (xs X) (xi X) (xa X) (xb X) (xh X) (xc X) H1 locs1 (cells + (pnc σ1 - pnc σ)) (slots + (pns σ1 - pns σ)) (xQ X) (F0 (xi X) (pc + 3) ls ((v.map (cv (xo X) (xt X))).toList ++ rest.map (cv (xo X) (xt X)))) := by
    intro H1 locs1 h1 h2
    have := kk H1 locs1 (cells + (pnc σ1 - pnc σ)) (slots + (pns σ1 - pns σ)) ls h1 h2 (by omega) (by omega) hl
    rw [List.map_append] at this
    have e : (v.toList).map (cv (xo X) (xt X)) = (v.map (cv (xo X) (xt X))).toList := by cases v <;> rfl
    rw [e] at this
    exact this
  have hstk : ((as.reverse ++ rest).map (cv (xo X) (xt X))) = (as.map (cv (xo X) (xt X))).reverse ++ rest.map (cv (xo X) (xt X)) := by rw [List.map_append, List.map_reverse]
  rw [hstk]
  have hW8 : 2 * (F0 (xi X) pc ls ((as.map (cv (xo X) (xt X))).reverse ++ rest.map (cv (xo X) (xt X)))).monitorRoom + ((rest.map (cv (xo X) (xt X))).map fun v => v.category).sum ≤ 8 := lv_room (by rw [catS_cv]; exact hcr)
  have hfix : CallFix (xp X) (xi X) (xc X) (mB (xm X)) (mL (xm X)) (xs X) (xa X) WALL (cnm (mC (xm X))) := ⟨C.1, C.2.1, C.2.2.2.1, C.2.2.2.2.1, hts⟩
  have hkq : k = mK y := Nat.eq_of_beq_eq_true hkd
  have hpar := mY_par y hy
  have hlink := w_ca C.mc hca
  have recv : ∀ (b : Value) (bs : List Value), vOk 0 y (b :: bs) σ = true → ∃ o, b = .ref o ∧ ∃ cellB : Cell, H[xo X + o]? = some cellB ∧ cellB.vm.isStatics = false ∧ (xs X).vm.findClass (mY y).cls = some cellB.cls := by
    intro b bs hv0
    match b, hv0 with
    | .ref o, hv0 =>
      refine ⟨o, rfl, ?_⟩
      have hv1 : (Nat.blt o (pnc σ) && (Nat.beq (ply σ o).1 0 && Nat.beq (ply σ o).2 (mC y))) = true := hv0
      simp only [Bool.and_eq_true] at hv1
      have ho : o < pnc σ := Nat.le_of_ble_eq_true hv1.1
      have h0 : (ply σ o).1 = 0 := Nat.eq_of_beq_eq_true hv1.2.1
      have h1 : (ply σ o).2 = mC y := Nat.eq_of_beq_eq_true hv1.2.2
      have hp : ply σ o = (0, mC y) := by rw [← h0, ← h1]
      have hat := hH.2 o ho
      rw [ent_o hp] at hat
      obtain ⟨r0, g1, cell, g2, g3, g4, -⟩ := hat
      have hci := vwCl_lt g1
      obtain rfl : r0 = (cnm (mC y), cT (mC y), nF (mC y)) := Option.some.inj (g1.symm.trans (vwCl_at hci))
      refine ⟨cell, g2, by rw [g4]; rfl, ?_⟩
      rw [mC_nm y hy, g3]
      exact (C.kn.1.1 _ _ g1).2.1
  rcases hi with ⟨hk0, rfl⟩ | ⟨hk1, rfl⟩ | ⟨hk2, rfl⟩
  · subst hk0
    have hk9 : mK y = 0 := hkq.symm
    have hn2 : ¬ mK y = 2 := by omega
    obtain ⟨hnA, -⟩ := (mY_nA y hy).1 hn2
    match as, hlen, hvo, hM, hpre with
    | [], hlen, _, _, _ => exact absurd hlen (by simp; omega)
    | b :: bs, hlen, hvo, hM, hpre =>
      obtain ⟨o, rfl, hcell⟩ := recv b bs hvo
      have hpar2 : (parseMethodDescriptor (mY y).desc).map (fun d => d.parameters.length) = some (bs.length) := by
        rw [hpar, hk9]
        show some (nA y - 1) = _
        congr 1
        simp at hlen
        omega
      have hcw : CallW (xR X) (xs X) (xa X) (cnm (mC (xm X))) (mY y).cls idx (mY y) (mB y) (mL y) (mR y) (wsM y) (cRm d (pnc σ1 - pnc σ) (pns σ1 - pns σ)) (pnc σ1 - pnc σ) (pns σ1 - pns σ) bs.length :=
        cwV bs.length hts (good_wall (fun w hw => by
          rcases List.mem_append.mp hw with h | h
          · simp only [List.mem_cons, List.not_mem_nil, or_false] at h
            rcases h with rfl | rfl | rfl | rfl
            · exact hlink
            · exact w_im hy hn2
            · exact w_sel hy hk9
            · exact hini
          · exact wsM_in hy w h)) rfl rfl rfl ⟨rfl, hclo.1, hclo.2, hpar2⟩ hroom
      refine run_go (X := X) (st0 := ((Value.ref o :: bs).map (cv (xo X) (xt X))).reverse ++ rest.map (cv (xo X) (xt X))) (va_runV (As := bs.map (cv (xo X) (xt X))) (rest := rest.map (cv (xo X) (xt X))) (b := xo X + o) hfix hM hcw ⟨cPc_blind, hcell, hpre⟩ rfl (by simp) hl.1 ?_ hW8 hd hf) hS hfin
      show ((Value.ref o :: bs).map (cv (xo X) (xt X))).reverse ++ rest.map (cv (xo X) (xt X)) = _
      simp [cv]
  · subst hk1
    have hk9 : mK y = 1 := hkq.symm
    have hn2 : ¬ mK y = 2 := by omega
    obtain ⟨hnA, -⟩ := (mY_nA y hy).1 hn2
    obtain ⟨hnm, hret⟩ := mY_ini y hy hk9
    match as, hlen, hvo, hM, hpre with
    | [], hlen, _, _, _ => exact absurd hlen (by simp; omega)
    | b :: bs, hlen, hvo, hM, hpre =>
      obtain ⟨o, rfl, hcell⟩ := recv b bs hvo
      have hpar2 : (parseMethodDescriptor (mY y).desc).map (fun d => d.parameters.length) = some (bs.length) := by
        rw [hpar, hk9]
        show some (nA y - 1) = _
        congr 1
        simp at hlen
        omega
      have hw9 : wsM y = Cond.code (mY y) (mB y) (mL y) none :: WALL := by
        show Cond.code (mY y) (mB y) (mL y) (mR y) :: WALL = _
        rw [hret]
      refine run_go (X := X) (st0 := ((Value.ref o :: bs).map (cv (xo X) (xt X))).reverse ++ rest.map (cv (xo X) (xt X))) (va_runI (As := bs.map (cv (xo X) (xt X))) (rest := rest.map (cv (xo X) (xt X))) (b := xo X + o) hfix hM (cwI bs.length hts (good_wall (wsM_in hy)) hw9 rfl rfl (hts _ hini) (hts _ hlink) (hts _ (w_im hy hn2)) hnm ⟨hclo.1, hclo.2, hpar2⟩ hroom) ⟨cPc_blind, hpre⟩ rfl (by simp) hl.1 ?_ hW8 hd hf) hS hfin
      show ((Value.ref o :: bs).map (cv (xo X) (xt X))).reverse ++ rest.map (cv (xo X) (xt X)) = _
      simp [cv]
  · subst hk2
    have hk9 : mK y = 2 := hkq.symm
    have hpar2 : (parseMethodDescriptor (mY y).desc).map (fun d => d.parameters.length) = some (as.length) := by
      rw [hpar, hk9]
      show some (nA y) = _
      rw [hlen]
    exact run_go (X := X) (va_runS (As := as.map (cv (xo X) (xt X))) (rest := rest.map (cv (xo X) (xt X))) hfix hM (va_cwS as.length hts (good_wall (fun w hw => by
          rcases List.mem_append.mp hw with h | h
          · simp only [List.mem_cons, List.not_mem_nil, or_false] at h
            rcases h with rfl | rfl | rfl
            · exact hlink
            · exact w_st hy hk9
            · exact hini
          · exact wsM_in hy w h)) rfl rfl rfl ⟨hclo.1, hclo.2, hpar2⟩ hroom) ⟨cPc_blind, hpre⟩ rfl (by simp) hl.1 rfl hW8 hd hf) hS hfin

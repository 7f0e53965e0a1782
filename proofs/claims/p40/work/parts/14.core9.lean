/-! ===== System.arraycopy, Math.max, Math.min, Object.<init> ===== -/
set_option maxHeartbeats 4000000 in
theorem ws_cpyI {Λ : PRo} {X : Ctx} (C : CX Λ X) {idx pc : Nat} {L : PL} {sp dp n : Int32} {a b : Nat} {r : List Value} {σ : PSt} (hd : decode (mB (xm X)) pc = .ok (.invokestatic idx, 3)) (hac : ac (mC (xm X)) idx = true) (hfr : 1 ≤ (xR X).frames) (hlo : 64 ≤ (xR X).locals) (hcr : catS r ≤ 8)
    (ha : a < pnc σ) (hb : b < pnc σ) (hta : (ply σ a).1 = 1) (htb : (ply σ b).1 = 1) (h1 : ¬ sp < 0) (h2 : ¬ dp < 0) (h3 : ¬ n < 0) (h4 : sp.toNatClampNeg + n.toNatClampNeg ≤ (ply σ a).2) (h5 : dp.toNatClampNeg + n.toNatClampNeg ≤ (ply σ b).2)
    (kk : WS X (pc + 3) L r (riv σ b (va_cpy (piv σ a) (piv σ b) sp.toNatClampNeg dp.toNatClampNeg n.toNatClampNeg))) : WS X pc L (.int n :: .int dp :: .ref b :: .int sp :: .ref a :: r) σ := by
  intro H locs cells slots ls hH hS hc hs hl
  have nn : ∀ z : Int32, ¬ z < 0 → z.toInt = (z.toNatClampNeg : Int) := by
    intro z hz
    have hz0 : (0 : Int) ≤ z.toInt := by
      have := Int32.not_lt.mp hz
      simpa using Int32.le_iff_toInt_le.mp this
    show z.toInt = ((z.toInt.toNat : Nat) : Int)
    omega
  have hata := hH.2 a ha
  rw [ent_a hta (by decide)] at hata
  have hc0 : H[xo X + a]? = some (vp_cell (xA X 1) ((ply σ a).2, .inl (piv σ a))) := hata
  have hatb := hH.2 b hb
  rw [ent_a htb (by decide)] at hatb
  have hc1 : H[xo X + b]? = some (vp_cell (xA X 1) ((ply σ b).2, .inl (piv σ b))) := hatb
  have hK := (C.kn.1.2 0 _ rfl).1
  obtain ⟨-, k0, hk0, cm0, hkk0⟩ := hK (ply σ a).2 (fun j => .int (piv σ a j))
  have hts := C.2.2.2.2.2.1
  have h40 : nativeFrameWords "java/lang/System" "arraycopy" 5 ≤ 40 := by decide +kernel
  intro T hT Xs
  obtain ⟨vm', X', step⟩ := Xs.arraycopy C.1 C.2.2.2.2.1 (hts _ (w_ac C.mc hac)) (hts _ (w_ex (w := .native arraycopyName) (by decide +kernel) rfl)) (hts _ (w_ex (w := .static arraycopyName) (by decide +kernel) rfl)) (hts _ (w_ex (w := .initialized "java/lang/System") (by decide +kernel) rfl)) (src := xo X + a) (dst := xo X + b) (cs := vp_cell (xA X 1) ((ply σ a).2, .inl (piv σ a))) (cd := vp_cell (xA X 1) ((ply σ b).2, .inl (piv σ b))) (srcPos := sp) (destPos := dp) (n := n) (by rw [hT]; exact hc0) (by rw [hT]; exact hc1)
    (fun _ h => by cases h) (fun _ h => by cases h) (fun h => by cases h) (fun h => by cases h) hk0 hk0 hkk0 hkk0 (by simp [refKind]) h1 h2 h3
    (by rw [nn sp h1, nn n h3]; show ¬ _ > ((arrV (xA X 1) (ply σ a).2 (fun j => .int (piv σ a j))).slots.size : Int); rw [arrV_size]; omega)
    (by rw [nn dp h2, nn n h3]; show ¬ _ > ((arrV (xA X 1) (ply σ b).2 (fun j => .int (piv σ b j))).slots.size : Int); rw [arrV_size]; omega)
    (fun vm₁ _ i hi => by
      have e : (vp_cell (xA X 1) ((ply σ a).2, .inl (piv σ a))).slots.getD (sp.toNatClampNeg + i) .null = .int (piv σ a (sp.toNatClampNeg + i)) := by
        show (arrV (xA X 1) (ply σ a).2 (fun j => .int (piv σ a j))).slots.getD _ _ = _
        rw [Array.getD_eq_getD_getElem?, arrV_read _ _ (by omega)]
        rfl
      refine ⟨?_, ?_⟩
      · rw [e]
        rfl
      · rw [e]
        exact trivial)
    (g := F0 (xi X) pc ls (.int n :: .int dp :: .ref (xo X + b) :: .int sp :: .ref (xo X + a) :: r.map (cv (xo X) (xt X)))) rfl (by rw [C.2.2.2.1]; exact hl.1) (rest := r.map (cv (xo X) (xt X))) rfl (by rw [C.2.1]; exact hd) hfr (by show 2 * 0 + _ + _ ≤ _; rw [catS_cv]; omega)
  have e1 : copied (vp_cell (xA X 1) ((ply σ a).2, .inl (piv σ a))) (vp_cell (xA X 1) ((ply σ b).2, .inl (piv σ b))) sp dp n = vp_cell (xA X 1) ((ply σ b).2, .inl (va_cpy (piv σ a) (piv σ b) sp.toNatClampNeg dp.toNatClampNeg n.toNatClampNeg)) := va_copied (fun z => .int z) (xA X 1) (xA X 1) (piv σ a) (piv σ b) h4
  rw [e1] at X' step
  have hlt : xo X + b < H.size := (Array.getElem?_eq_some_iff.mp hc1).1
  generalize hcell : vp_cell (xA X 1) ((ply σ b).2, .inl (va_cpy (piv σ a) (piv σ b) sp.toNatClampNeg dp.toNatClampNeg n.toNatClampNeg)) = cl at X' step
  have hheap : ((T.setVm vm').setCell (xo X + b) cl).heap = H.setIfInBounds (xo X + b) cl := by rw [← hT]; rfl
  have oq : ∀ q : Nat, q ≠ xo X + b → (H.setIfInBounds (xo X + b) cl)[q]? = H[q]? := fun q hq => by simp [Array.getElem?_setIfInBounds, Ne.symm hq]
  obtain ⟨t, a1, b1⟩ := kk _ (locs ++ _) cells slots ls (hH.upd (τ := riv σ b (va_cpy (piv σ a) (piv σ b) sp.toNatClampNeg dp.toNatClampNeg n.toNatClampNeg)) (k := b) (H1 := H.setIfInBounds (xo X + b) cl) rfl (by simp) oq (fun j hj => ent_congr rfl rfl (up1_n hj) rfl) (by
      rw [ent_a (show (ply (riv σ b _) b).1 = 1 from htb) (by decide)]
      show (H.setIfInBounds (xo X + b) cl)[xo X + b]? = some (vp_cell (xA X 1) ((ply σ b).2, .inl (up1 (piv σ) b _ b)))
      rw [up1_s, hcell]
      simp [Array.getElem?_setIfInBounds, hlt])) ⟨by simp; exact hS.1, fun q g1 g2 => by
      rw [oq q (fun e => g2 (by show xo X ≤ q; omega))]
      exact hS.2.1 q g1 g2, fun q hq => by
      rcases List.mem_append.mp hq with h | h
      · exact hS.2.2 q h
      · obtain ⟨z, -, hz⟩ := List.mem_map.mp h
        rw [← hz]
        show xo X ≤ xo X + b
        omega⟩ hc hs hl _ hheap X'
  exact ⟨t, step t a1, b1⟩
set_option maxHeartbeats 4000000 in
theorem ws_cpyL {Λ : PRo} {X : Ctx} (C : CX Λ X) {idx pc : Nat} {L : PL} {sp dp n : Int32} {a b : Nat} {r : List Value} {σ : PSt} (hd : decode (mB (xm X)) pc = .ok (.invokestatic idx, 3)) (hac : ac (mC (xm X)) idx = true) (hfr : 1 ≤ (xR X).frames) (hlo : 64 ≤ (xR X).locals) (hcr : catS r ≤ 8)
    (ha : a < pnc σ) (hb : b < pnc σ) (hta : (ply σ a).1 = 4) (htb : (ply σ b).1 = 4) (h1 : ¬ sp < 0) (h2 : ¬ dp < 0) (h3 : ¬ n < 0) (h4 : sp.toNatClampNeg + n.toNatClampNeg ≤ (ply σ a).2) (h5 : dp.toNatClampNeg + n.toNatClampNeg ≤ (ply σ b).2)
    (kk : WS X (pc + 3) L r (rlv σ b (va_cpy (plv σ a) (plv σ b) sp.toNatClampNeg dp.toNatClampNeg n.toNatClampNeg))) : WS X pc L (.int n :: .int dp :: .ref b :: .int sp :: .ref a :: r) σ := by
  intro H locs cells slots ls hH hS hc hs hl
  have nn : ∀ z : Int32, ¬ z < 0 → z.toInt = (z.toNatClampNeg : Int) := by
    intro z hz
    have hz0 : (0 : Int) ≤ z.toInt := by
      have := Int32.not_lt.mp hz
      simpa using Int32.le_iff_toInt_le.mp this
    show z.toInt = ((z.toInt.toNat : Nat) : Int)
    omega
  have hata := hH.2 a ha
  rw [ent_a hta (by decide)] at hata
  have hc0 : H[xo X + a]? = some (vp_cell (xA X 4) ((ply σ a).2, .inr (.inl (plv σ a)))) := hata
  have hatb := hH.2 b hb
  rw [ent_a htb (by decide)] at hatb
  have hc1 : H[xo X + b]? = some (vp_cell (xA X 4) ((ply σ b).2, .inr (.inl (plv σ b)))) := hatb
  have hK := (C.kn.1.2 3 _ rfl).1
  obtain ⟨-, k0, hk0, cm0, hkk0⟩ := hK (ply σ a).2 (fun j => .long (plv σ a j))
  have hts := C.2.2.2.2.2.1
  have h40 : nativeFrameWords "java/lang/System" "arraycopy" 5 ≤ 40 := by decide +kernel
  intro T hT Xs
  obtain ⟨vm', X', step⟩ := Xs.arraycopy C.1 C.2.2.2.2.1 (hts _ (w_ac C.mc hac)) (hts _ (w_ex (w := .native arraycopyName) (by decide +kernel) rfl)) (hts _ (w_ex (w := .static arraycopyName) (by decide +kernel) rfl)) (hts _ (w_ex (w := .initialized "java/lang/System") (by decide +kernel) rfl)) (src := xo X + a) (dst := xo X + b) (cs := vp_cell (xA X 4) ((ply σ a).2, .inr (.inl (plv σ a)))) (cd := vp_cell (xA X 4) ((ply σ b).2, .inr (.inl (plv σ b)))) (srcPos := sp) (destPos := dp) (n := n) (by rw [hT]; exact hc0) (by rw [hT]; exact hc1)
    (fun _ h => by cases h) (fun _ h => by cases h) (fun h => by cases h) (fun h => by cases h) hk0 hk0 hkk0 hkk0 (by simp [refKind]) h1 h2 h3
    (by rw [nn sp h1, nn n h3]; show ¬ _ > ((arrV (xA X 4) (ply σ a).2 (fun j => .long (plv σ a j))).slots.size : Int); rw [arrV_size]; omega)
    (by rw [nn dp h2, nn n h3]; show ¬ _ > ((arrV (xA X 4) (ply σ b).2 (fun j => .long (plv σ b j))).slots.size : Int); rw [arrV_size]; omega)
    (fun vm₁ _ i hi => by
      have e : (vp_cell (xA X 4) ((ply σ a).2, .inr (.inl (plv σ a)))).slots.getD (sp.toNatClampNeg + i) .null = .long (plv σ a (sp.toNatClampNeg + i)) := by
        show (arrV (xA X 4) (ply σ a).2 (fun j => .long (plv σ a j))).slots.getD _ _ = _
        rw [Array.getD_eq_getD_getElem?, arrV_read _ _ (by omega)]
        rfl
      refine ⟨?_, ?_⟩
      · rw [e]
        rfl
      · rw [e]
        exact trivial)
    (g := F0 (xi X) pc ls (.int n :: .int dp :: .ref (xo X + b) :: .int sp :: .ref (xo X + a) :: r.map (cv (xo X) (xt X)))) rfl (by rw [C.2.2.2.1]; exact hl.1) (rest := r.map (cv (xo X) (xt X))) rfl (by rw [C.2.1]; exact hd) hfr (by show 2 * 0 + _ + _ ≤ _; rw [catS_cv]; omega)
  have e1 : copied (vp_cell (xA X 4) ((ply σ a).2, .inr (.inl (plv σ a)))) (vp_cell (xA X 4) ((ply σ b).2, .inr (.inl (plv σ b)))) sp dp n = vp_cell (xA X 4) ((ply σ b).2, .inr (.inl (va_cpy (plv σ a) (plv σ b) sp.toNatClampNeg dp.toNatClampNeg n.toNatClampNeg))) := va_copied (fun z => .long z) (xA X 4) (xA X 4) (plv σ a) (plv σ b) h4
  rw [e1] at X' step
  have hlt : xo X + b < H.size := (Array.getElem?_eq_some_iff.mp hc1).1
  generalize hcell : vp_cell (xA X 4) ((ply σ b).2, .inr (.inl (va_cpy (plv σ a) (plv σ b) sp.toNatClampNeg dp.toNatClampNeg n.toNatClampNeg))) = cl at X' step
  have hheap : ((T.setVm vm').setCell (xo X + b) cl).heap = H.setIfInBounds (xo X + b) cl := by rw [← hT]; rfl
  have oq : ∀ q : Nat, q ≠ xo X + b → (H.setIfInBounds (xo X + b) cl)[q]? = H[q]? := fun q hq => by simp [Array.getElem?_setIfInBounds, Ne.symm hq]
  obtain ⟨t, a1, b1⟩ := kk _ (locs ++ _) cells slots ls (hH.upd (τ := rlv σ b (va_cpy (plv σ a) (plv σ b) sp.toNatClampNeg dp.toNatClampNeg n.toNatClampNeg)) (k := b) (H1 := H.setIfInBounds (xo X + b) cl) rfl (by simp) oq (fun j hj => ent_congr rfl rfl rfl (up1_n hj)) (by
      rw [ent_a (show (ply (rlv σ b _) b).1 = 4 from htb) (by decide)]
      show (H.setIfInBounds (xo X + b) cl)[xo X + b]? = some (vp_cell (xA X 4) ((ply σ b).2, .inr (.inl (up1 (plv σ) b _ b))))
      rw [up1_s, hcell]
      simp [Array.getElem?_setIfInBounds, hlt])) ⟨by simp; exact hS.1, fun q g1 g2 => by
      rw [oq q (fun e => g2 (by show xo X ≤ q; omega))]
      exact hS.2.1 q g1 g2, fun q hq => by
      rcases List.mem_append.mp hq with h | h
      · exact hS.2.2 q h
      · obtain ⟨z, -, hz⟩ := List.mem_map.mp h
        rw [← hz]
        show xo X ≤ xo X + b
        omega⟩ hc hs hl _ hheap X'
  exact ⟨t, step t a1, b1⟩
theorem ws_oi {Λ : PRo} {X : Ctx} (C : CX Λ X) {idx pc o : Nat} {L : PL} {r : List Value} {σ : PSt} (hd : decode (mB (xm X)) pc = .ok (.invokespecial idx, 3)) (hoi : oi (mC (xm X)) idx = true) (hfr : 1 ≤ (xR X).frames) (hlo : 64 ≤ (xR X).locals) (hcr : catS r ≤ 8) (kk : WS X (pc + 3) L r σ) : WS X pc L (.ref o :: r) σ := by
  intro H locs cells slots ls hH hS hc hs hl
  have hts := C.2.2.2.2.2.1
  refine W.objInit C.1 C.2.1 C.2.2.2.2.1 (hts _ (w_oi C.mc hoi)) (hts _ (w_ex (w := .instanceMethod objectInit) (by decide +kernel) rfl)) (hts _ (w_code0 (m := 9999) (by decide +kernel) rfl rfl)) rfl (by rw [C.2.2.2.1]; exact hl.1) rfl hd hfr (by show 2 * 0 + _ + 12 ≤ _; rw [catS_cv]; omega) ?_
  exact kk H locs cells slots ls hH hS hc hs hl
theorem ws_mm {Λ : PRo} {X : Ctx} (C : CX Λ X) {idx pc j : Nat} {L : PL} {st st1 : List Value} {σ : PSt} (hd : decode (mB (xm X)) pc = .ok (.invokestatic idx, 3)) (hmm : mm (mC (xm X)) idx = some j) (h : oMM j st = some st1) (hfr : 1 ≤ (xR X).frames) (hlo : 64 ≤ (xR X).locals) (hr1 : pnc σ ≤ xk X + (xR X).cells) (hr2 : pns σ ≤ xn X + (xR X).slots) (kk : WS X (pc + 3) L st1 σ) : WS X pc L st σ := by
  intro H locs cells slots ls hH hS hc hs hl
  have hts := C.2.2.2.2.2.1
  unfold oMM at h
  split at h
  next y x r =>
    split at h
    next hcr =>
      cases h
      have k2 := kk H locs cells slots ls hH hS hc hs hl
      have hlink := hts _ (w_mm C.mc hmm)
      rcases mm_01 _ C.mc _ (lkp_in hmm) with e | e
      · have e : j = 0 := e
        subst e
        exact va_mmax C.1 C.2.1 (by rw [C.2.2.2.1]; exact hl.1.symm) C.2.2.2.2.1 hlink (hts _ (w_ex (w := .static Lib.Math.max.name) (by decide +kernel) rfl)) (hts _ (w_ex (w := .initialized "java/lang/Math") (by decide +kernel) rfl)) (hts _ (w_code0 (m := 9998) (by decide +kernel) rfl rfl)) hfr (by rw [catS_cv]; omega) (by omega) (by omega) hd k2
      · have e : j = 1 := e
        subst e
        exact va_mmin C.1 C.2.1 (by rw [C.2.2.2.1]; exact hl.1.symm) C.2.2.2.2.1 hlink (hts _ (w_ex (w := .static Lib.Math.min.name) (by decide +kernel) rfl)) (hts _ (w_ex (w := .initialized "java/lang/Math") (by decide +kernel) rfl)) (hts _ (w_code0 (m := 9997) (by decide +kernel) rfl rfl)) hfr (by rw [catS_cv]; omega) (by omega) (by omega) hd k2
    next => cases h
  next => cases h
theorem pS_mono {Λ : PRo} {ini : Bool} {c pc pc' : Nat} {σ : PSt} {i : Instr} {st : List Value} {pc2 : Nat} {st2 : List Value} {σ2 : PSt} (h : pS Λ ini c pc pc' σ i st = some (pc2, st2, σ2)) : pnc σ ≤ pnc σ2 ∧ pns σ ≤ pns σ2 := by
  have hid : ∀ {q : Nat × List Value × PSt}, (q = (pc2, st2, σ2)) → q.2.2 = σ → pnc σ ≤ pnc σ2 ∧ pns σ ≤ pns σ2 := by
    intro q h1 h2
    subst h1
    have h2 : σ2 = σ := h2
    subst h2
    exact ⟨Nat.le_refl _, Nat.le_refl _⟩
  cases i
  case putfield k =>
    obtain ⟨v, ob, r, ci, f, τ, rfl, hfl, ho, hp, hf, hfin, hv, e⟩ := oPut_i h
    cases e
    obtain ⟨i1, i2, -⟩ := pval_i hv
    omega
  case iastore => obtain ⟨x, i, ob, r, rfl, hh, e⟩ := oStI_i h; cases e; exact ⟨Nat.le_refl _, Nat.le_refl _⟩
  case bastore => obtain ⟨x, i, ob, r, rfl, hh, e⟩ := oStI_i h; cases e; exact ⟨Nat.le_refl _, Nat.le_refl _⟩
  case sastore => obtain ⟨x, i, ob, r, rfl, hh, e⟩ := oStI_i h; cases e; exact ⟨Nat.le_refl _, Nat.le_refl _⟩
  case lastore => obtain ⟨x, i, ob, r, rfl, hh, e⟩ := oStL_i h; cases e; exact ⟨Nat.le_refl _, Nat.le_refl _⟩
  case newarray at_ =>
    obtain ⟨n, r, rfl, hh, e⟩ := oNewA_i h
    cases e
    exact ⟨Nat.le_succ _, Nat.le_add_right _ _⟩
  case new k =>
    obtain ⟨ci, hci, e⟩ := Option.map_eq_some_iff.mp h
    cases e
    exact ⟨Nat.le_succ _, Nat.le_add_right _ _⟩
  case multianewarray k dm =>
    unfold pS at h
    dsimp only at h
    split at h
    next hdm =>
      obtain ⟨t, ht, h2⟩ := Option.bind_eq_some_iff.mp h
      obtain ⟨kx, n, r, rfl, hh, e⟩ := oMna_i h2
      cases e
      obtain ⟨q1, q2, -⟩ := mkrows_spec (if t = 5 then 1 else 4) kx.toNatClampNeg n.toNatClampNeg (wrr (mkc σ t n.toNatClampNeg n.toNatClampNeg) (pnc σ) (fun i => if i < n.toNatClampNeg then some (pnc σ + 1 + i) else none))
      have z1 : pnc (wrr (mkc σ t n.toNatClampNeg n.toNatClampNeg) (pnc σ) (fun i => if i < n.toNatClampNeg then some (pnc σ + 1 + i) else none)) = pnc σ + 1 := rfl
      have z2 : pns (wrr (mkc σ t n.toNatClampNeg n.toNatClampNeg) (pnc σ) (fun i => if i < n.toNatClampNeg then some (pnc σ + 1 + i) else none)) = pns σ + n.toNatClampNeg := rfl
      rw [q1, q2, z1, z2]
      omega
    next => cases h
  case iconst n => cases h; exact ⟨Nat.le_refl _, Nat.le_refl _⟩
  case bipush n => cases h; exact ⟨Nat.le_refl _, Nat.le_refl _⟩
  case sipush n => cases h; exact ⟨Nat.le_refl _, Nat.le_refl _⟩
  case lconst n => cases h; exact ⟨Nat.le_refl _, Nat.le_refl _⟩
  case ldc_w k => obtain ⟨v, hv, e⟩ := Option.map_eq_some_iff.mp h; cases e; exact ⟨Nat.le_refl _, Nat.le_refl _⟩
  case ldc2_w k => obtain ⟨v, hv, e⟩ := Option.map_eq_some_iff.mp h; cases e; exact ⟨Nat.le_refl _, Nat.le_refl _⟩
  case getstatic k => obtain ⟨v, hv, e⟩ := Option.map_eq_some_iff.mp h; cases e; exact ⟨Nat.le_refl _, Nat.le_refl _⟩
  case goto k => obtain ⟨v, hv, e⟩ := Option.map_eq_some_iff.mp h; cases e; exact ⟨Nat.le_refl _, Nat.le_refl _⟩
  case getfield k => obtain ⟨ob, r, ci, f, rfl, hfl, ho, hp, hf, e⟩ := oGet_i h; cases e; exact ⟨Nat.le_refl _, Nat.le_refl _⟩
  case iadd => obtain ⟨x, y, r, rfl, e⟩ := oI2_i h; cases e; exact ⟨Nat.le_refl _, Nat.le_refl _⟩
  case isub => obtain ⟨x, y, r, rfl, e⟩ := oI2_i h; cases e; exact ⟨Nat.le_refl _, Nat.le_refl _⟩
  case imul => obtain ⟨x, y, r, rfl, e⟩ := oI2_i h; cases e; exact ⟨Nat.le_refl _, Nat.le_refl _⟩
  case iand => obtain ⟨x, y, r, rfl, e⟩ := oI2_i h; cases e; exact ⟨Nat.le_refl _, Nat.le_refl _⟩
  case ior => obtain ⟨x, y, r, rfl, e⟩ := oI2_i h; cases e; exact ⟨Nat.le_refl _, Nat.le_refl _⟩
  case ixor => obtain ⟨x, y, r, rfl, e⟩ := oI2_i h; cases e; exact ⟨Nat.le_refl _, Nat.le_refl _⟩
  case ishl => obtain ⟨x, y, r, rfl, e⟩ := oI2_i h; cases e; exact ⟨Nat.le_refl _, Nat.le_refl _⟩
  case ishr => obtain ⟨x, y, r, rfl, e⟩ := oI2_i h; cases e; exact ⟨Nat.le_refl _, Nat.le_refl _⟩
  case iushr => obtain ⟨x, y, r, rfl, e⟩ := oI2_i h; cases e; exact ⟨Nat.le_refl _, Nat.le_refl _⟩
  case idiv => obtain ⟨x, y, r, rfl, hne, e⟩ := oD2_i h; cases e; exact ⟨Nat.le_refl _, Nat.le_refl _⟩
  case irem => obtain ⟨x, y, r, rfl, hne, e⟩ := oD2_i h; cases e; exact ⟨Nat.le_refl _, Nat.le_refl _⟩
  case ineg => obtain ⟨x, r, rfl, e⟩ := oI1_i h; cases e; exact ⟨Nat.le_refl _, Nat.le_refl _⟩
  case i2b => obtain ⟨x, r, rfl, e⟩ := oI1_i h; cases e; exact ⟨Nat.le_refl _, Nat.le_refl _⟩
  case i2s => obtain ⟨x, r, rfl, e⟩ := oI1_i h; cases e; exact ⟨Nat.le_refl _, Nat.le_refl _⟩
  case ladd => obtain ⟨x, y, r, rfl, e⟩ := oL2_i h; cases e; exact ⟨Nat.le_refl _, Nat.le_refl _⟩
  case lsub => obtain ⟨x, y, r, rfl, e⟩ := oL2_i h; cases e; exact ⟨Nat.le_refl _, Nat.le_refl _⟩
  case lmul => obtain ⟨x, y, r, rfl, e⟩ := oL2_i h; cases e; exact ⟨Nat.le_refl _, Nat.le_refl _⟩
  case land => obtain ⟨x, y, r, rfl, e⟩ := oL2_i h; cases e; exact ⟨Nat.le_refl _, Nat.le_refl _⟩
  case lor => obtain ⟨x, y, r, rfl, e⟩ := oL2_i h; cases e; exact ⟨Nat.le_refl _, Nat.le_refl _⟩
  case ldiv => obtain ⟨x, y, r, rfl, hne, e⟩ := oE2_i h; cases e; exact ⟨Nat.le_refl _, Nat.le_refl _⟩
  case lrem => obtain ⟨x, y, r, rfl, hne, e⟩ := oE2_i h; cases e; exact ⟨Nat.le_refl _, Nat.le_refl _⟩
  case i2l =>
    unfold pS at h
    dsimp only at h
    split at h
    · cases h; exact ⟨Nat.le_refl _, Nat.le_refl _⟩
    · cases h
  case l2i =>
    unfold pS at h
    dsimp only at h
    split at h
    · cases h; exact ⟨Nat.le_refl _, Nat.le_refl _⟩
    · cases h
  case lcmp =>
    unfold pS at h
    dsimp only at h
    split at h
    · cases h; exact ⟨Nat.le_refl _, Nat.le_refl _⟩
    · cases h
  case lshl =>
    unfold pS at h
    dsimp only at h
    split at h
    · cases h; exact ⟨Nat.le_refl _, Nat.le_refl _⟩
    · cases h
  case dup =>
    unfold pS at h
    dsimp only at h
    split at h
    · split at h
      · cases h; exact ⟨Nat.le_refl _, Nat.le_refl _⟩
      · cases h
    · cases h
  case dup2 =>
    unfold pS at h
    dsimp only at h
    split at h
    · split at h
      · cases h; exact ⟨Nat.le_refl _, Nat.le_refl _⟩
      · cases h
    · cases h
  case pop =>
    unfold pS at h
    dsimp only at h
    split at h
    · split at h
      · cases h; exact ⟨Nat.le_refl _, Nat.le_refl _⟩
      · cases h
    · cases h
  case pop2 =>
    unfold pS at h
    dsimp only at h
    split at h
    · split at h
      · cases h; exact ⟨Nat.le_refl _, Nat.le_refl _⟩
      · cases h
    · cases h
  case ifCond cc off =>
    unfold pS at h
    dsimp only at h
    split at h
    · obtain ⟨v, hv, e⟩ := Option.map_eq_some_iff.mp h; cases e; exact ⟨Nat.le_refl _, Nat.le_refl _⟩
    · cases h
  case if_icmp cc off =>
    unfold pS at h
    dsimp only at h
    split at h
    · obtain ⟨v, hv, e⟩ := Option.map_eq_some_iff.mp h; cases e; exact ⟨Nat.le_refl _, Nat.le_refl _⟩
    · cases h
  case tableswitch dd lo hi offs =>
    unfold pS at h
    dsimp only at h
    split at h
    · split at h
      · obtain ⟨v, hv, e⟩ := Option.map_eq_some_iff.mp h; cases e; exact ⟨Nat.le_refl _, Nat.le_refl _⟩
      · obtain ⟨off, ho, h2⟩ := Option.bind_eq_some_iff.mp h
        obtain ⟨v, hv, e⟩ := Option.map_eq_some_iff.mp h2; cases e; exact ⟨Nat.le_refl _, Nat.le_refl _⟩
    · cases h
  case lookupswitch dd ps =>
    unfold pS at h
    dsimp only at h
    split at h
    · split at h
      · obtain ⟨v, hv, e⟩ := Option.map_eq_some_iff.mp h; cases e; exact ⟨Nat.le_refl _, Nat.le_refl _⟩
      · cases h
    · cases h
  case iaload => rcases oLdI_i h with ⟨i, ob, r, rfl, hh, e⟩ | ⟨i, ob, r, rfl, hh, e⟩ <;> (cases e; exact ⟨Nat.le_refl _, Nat.le_refl _⟩)
  case baload => rcases oLdI_i h with ⟨i, ob, r, rfl, hh, e⟩ | ⟨i, ob, r, rfl, hh, e⟩ <;> (cases e; exact ⟨Nat.le_refl _, Nat.le_refl _⟩)
  case saload => rcases oLdI_i h with ⟨i, ob, r, rfl, hh, e⟩ | ⟨i, ob, r, rfl, hh, e⟩ <;> (cases e; exact ⟨Nat.le_refl _, Nat.le_refl _⟩)
  case laload => obtain ⟨i, ob, r, rfl, hh, e⟩ := oLdL_i h; cases e; exact ⟨Nat.le_refl _, Nat.le_refl _⟩
  case aaload => obtain ⟨i, ob, r, j, rfl, hh, hj, e⟩ := oLdA_i h; cases e; exact ⟨Nat.le_refl _, Nat.le_refl _⟩
  case arraylength => rcases oLen_i h with ⟨ob, r, rfl, hh, e⟩ | ⟨ob, r, rfl, hh, e⟩ <;> (cases e; exact ⟨Nat.le_refl _, Nat.le_refl _⟩)
  all_goals (have h2 : (none : PO) = some (pc2, st2, σ2) := h; cases h2)

/-! ===== one instruction: rows ===== -/
theorem CX.kn {Λ : PRo} {X : Ctx} (C : CX Λ X) : KN Λ (xD X) (xA X) (xo X) (xt X) (xs X) (xs X).heap := C.2.2.2.2.2.2.2.2.1
theorem va_S.lo {b0 : Nat} {H0 H : Heap} {locs : List Loc} (h : va_S (fun q => b0 ≤ q) H0 H locs) (hz : b0 ≤ H0.size) : b0 ≤ H.size ∧ ∀ q : Nat, q < b0 → H[q]? = H0[q]? := ⟨Nat.le_trans hz h.1, fun q hq => h.2.1 q (by omega) (by show ¬ b0 ≤ q; omega)⟩
theorem KN.at {Λ : PRo} {X : Ctx} (C : CX Λ X) {H : Heap} {locs : List Loc} (hS : va_S (fun q => xo X ≤ q) (xs X).heap H locs) : KN Λ (xD X) (xA X) (xo X) (xt X) (xs X) H := by
  have h := hS.lo C.kn.2.1
  exact C.kn.moved (Vm.Alike.refl _) h.1 h.2
theorem ws_iald {Λ : PRo} {X : Ctx} (C : CX Λ X) {pc : Nat} {L : PL} {o : Nat} {i : Int32} {r : List Value} {σ : PSt} (hd : decode (mB (xm X)) pc = .ok (.iaload, 1)) (ho : o < pnc σ) (hp : (ply σ o).1 = 1) (hi : vin i (ply σ o).2)
    (kk : WS X (pc + 1) L (.int (piv σ o i.toNatClampNeg) :: r) σ) : WS X pc L (.int i :: .ref o :: r) σ := by
  intro H locs cells slots ls hH hS hc hs hl
  have hat := hH.2 o ho
  rw [ent_a hp (by decide)] at hat
  have hcell : H[xo X + o]? = some (vp_cell (xA X 1) ((ply σ o).2, .inl (piv σ o))) := hat
  have hT := (C.kn.1.2 0 _ rfl).1
  exact W.iald (v := .int (piv σ o i.toNatClampNeg)) C.1 C.2.1 hcell (hT _ (fun j => .int (piv σ o j))) (fun q => by cases q) (by show ¬ (i < 0 ∨ (arrV _ _ _).slots.size ≤ _); rw [arrV_size]; exact vin_in hi) (by show (arrV _ _ _).slots[_]? = _; rw [arrV_read _ _ (vin_lt hi)]) rfl rfl hd (kk H locs cells slots ls hH hS hc hs hl)
theorem ws_bald {Λ : PRo} {X : Ctx} (C : CX Λ X) {pc : Nat} {L : PL} {o : Nat} {i : Int32} {r : List Value} {σ : PSt} (hd : decode (mB (xm X)) pc = .ok (.baload, 1)) (ho : o < pnc σ) (hp : (ply σ o).1 = 2) (hi : vin i (ply σ o).2)
    (kk : WS X (pc + 1) L (.int (piv σ o i.toNatClampNeg) :: r) σ) : WS X pc L (.int i :: .ref o :: r) σ := by
  intro H locs cells slots ls hH hS hc hs hl
  have hat := hH.2 o ho
  rw [ent_a hp (by decide)] at hat
  have hcell : H[xo X + o]? = some (vp_cell (xA X 2) ((ply σ o).2, .inl (piv σ o))) := hat
  have hT := (C.kn.1.2 1 _ rfl).1
  exact W.bald (v := .int (piv σ o i.toNatClampNeg)) C.1 C.2.1 hcell (hT _ (fun j => .int (piv σ o j))) (fun q => by cases q) (by show ¬ (i < 0 ∨ (arrV _ _ _).slots.size ≤ _); rw [arrV_size]; exact vin_in hi) (by show (arrV _ _ _).slots[_]? = _; rw [arrV_read _ _ (vin_lt hi)]) rfl rfl hd (kk H locs cells slots ls hH hS hc hs hl)
theorem ws_sald {Λ : PRo} {X : Ctx} (C : CX Λ X) {pc : Nat} {L : PL} {o : Nat} {i : Int32} {r : List Value} {σ : PSt} (hd : decode (mB (xm X)) pc = .ok (.saload, 1)) (ho : o < pnc σ) (hp : (ply σ o).1 = 3) (hi : vin i (ply σ o).2)
    (kk : WS X (pc + 1) L (.int (piv σ o i.toNatClampNeg) :: r) σ) : WS X pc L (.int i :: .ref o :: r) σ := by
  intro H locs cells slots ls hH hS hc hs hl
  have hat := hH.2 o ho
  rw [ent_a hp (by decide)] at hat
  have hcell : H[xo X + o]? = some (vp_cell (xA X 3) ((ply σ o).2, .inl (piv σ o))) := hat
  have hT := (C.kn.1.2 2 _ rfl).1
  exact W.sald (v := .int (piv σ o i.toNatClampNeg)) C.1 C.2.1 hcell (hT _ (fun j => .int (piv σ o j))) (fun q => by cases q) (by show ¬ (i < 0 ∨ (arrV _ _ _).slots.size ≤ _); rw [arrV_size]; exact vin_in hi) (by show (arrV _ _ _).slots[_]? = _; rw [arrV_read _ _ (vin_lt hi)]) rfl rfl hd (kk H locs cells slots ls hH hS hc hs hl)
theorem ws_lald {Λ : PRo} {X : Ctx} (C : CX Λ X) {pc : Nat} {L : PL} {o : Nat} {i : Int32} {r : List Value} {σ : PSt} (hd : decode (mB (xm X)) pc = .ok (.laload, 1)) (ho : o < pnc σ) (hp : (ply σ o).1 = 4) (hi : vin i (ply σ o).2)
    (kk : WS X (pc + 1) L (.long (plv σ o i.toNatClampNeg) :: r) σ) : WS X pc L (.int i :: .ref o :: r) σ := by
  intro H locs cells slots ls hH hS hc hs hl
  have hat := hH.2 o ho
  rw [ent_a hp (by decide)] at hat
  have hcell : H[xo X + o]? = some (vp_cell (xA X 4) ((ply σ o).2, .inr (.inl (plv σ o)))) := hat
  have hT := (C.kn.1.2 3 _ rfl).1
  exact W.lald (v := .long (plv σ o i.toNatClampNeg)) C.1 C.2.1 hcell (hT _ (fun j => .long (plv σ o j))) (fun q => by cases q) (by show ¬ (i < 0 ∨ (arrV _ _ _).slots.size ≤ _); rw [arrV_size]; exact vin_in hi) (by show (arrV _ _ _).slots[_]? = _; rw [arrV_read _ _ (vin_lt hi)]) rfl rfl hd (kk H locs cells slots ls hH hS hc hs hl)
theorem ws_aald {Λ : PRo} {X : Ctx} (C : CX Λ X) {pc : Nat} {L : PL} {o j : Nat} {i : Int32} {r : List Value} {σ : PSt} (hd : decode (mB (xm X)) pc = .ok (.aaload, 1)) (ho : o < pnc σ) (hp : (ply σ o).1 = 5 ∨ (ply σ o).1 = 6) (hi : vin i (ply σ o).2) (hj : prv σ o i.toNatClampNeg = some j)
    (kk : WS X (pc + 1) L (.ref j :: r) σ) : WS X pc L (.int i :: .ref o :: r) σ := by
  intro H locs cells slots ls hH hS hc hs hl
  have hat := hH.2 o ho
  rcases hp with hp | hp
  · rw [ent_a hp (by decide)] at hat
    have hcell : H[xo X + o]? = some (vp_cell (xA X 5) ((ply σ o).2, .inr (.inr (.inr (.inr (fun i => (prv σ o i).map (fun j => xo X + j))))))) := hat
    have hT := (C.kn.1.2 4 _ rfl).1
    exact W.aald (v := .ref (xo X + j)) C.1 C.2.1 hcell (hT _ (fun i => va_rf ((prv σ o i).map (fun j => xo X + j)))) rfl (fun q => by cases q) (by show ¬ (i < 0 ∨ (arrV _ _ _).slots.size ≤ _); rw [arrV_size]; exact vin_in hi) (by show (arrV _ _ _).slots[_]? = _; rw [arrV_read _ _ (vin_lt hi)]; show some (va_rf ((prv σ o i.toNatClampNeg).map (fun j => xo X + j))) = _; rw [hj]; rfl) rfl rfl hd (kk H locs cells slots ls hH hS hc hs hl)
  · rw [ent_a hp (by decide)] at hat
    have hcell : H[xo X + o]? = some (vp_cell (xA X 6) ((ply σ o).2, .inr (.inr (.inr (.inr (fun i => (prv σ o i).map (fun j => xo X + j))))))) := hat
    have hT := (C.kn.1.2 5 _ rfl).1
    exact W.aald (v := .ref (xo X + j)) C.1 C.2.1 hcell (hT _ (fun i => va_rf ((prv σ o i).map (fun j => xo X + j)))) rfl (fun q => by cases q) (by show ¬ (i < 0 ∨ (arrV _ _ _).slots.size ≤ _); rw [arrV_size]; exact vin_in hi) (by show (arrV _ _ _).slots[_]? = _; rw [arrV_read _ _ (vin_lt hi)]; show some (va_rf ((prv σ o i.toNatClampNeg).map (fun j => xo X + j))) = _; rw [hj]; rfl) rfl rfl hd (kk H locs cells slots ls hH hS hc hs hl)
theorem ws_rold {Λ : PRo} {X : Ctx} (C : CX Λ X) {pc : Nat} {L : PL} {o : Nat} {i : Int32} {r : List Value} {σ : PSt} (hd : decode (mB (xm X)) pc = .ok (.iaload, 1)) (ho : o < Λ.1) (hi : vin i (Λ.2.1 o))
    (kk : WS X (pc + 1) L (.int (Λ.2.2 o i.toNatClampNeg) :: r) σ) : WS X pc L (.int i :: .retAddr o :: r) σ := by
  intro H locs cells slots ls hH hS hc hs hl
  exact va_ti C.1 C.2.1 (C.kn.2.2.1 o ho) hS (vin_in hi) rfl hd (kk H locs cells slots ls hH hS hc hs hl)
theorem ws_rolen {Λ : PRo} {X : Ctx} (C : CX Λ X) {pc : Nat} {L : PL} {o : Nat} {r : List Value} {σ : PSt} (hd : decode (mB (xm X)) pc = .ok (.arraylength, 1)) (ho : o < Λ.1)
    (kk : WS X (pc + 1) L (.int (Int32.ofNat (Λ.2.1 o)) :: r) σ) : WS X pc L (.retAddr o :: r) σ := by
  intro H locs cells slots ls hH hS hc hs hl
  exact va_tlen C.1 C.2.1 (C.kn.2.2.1 o ho) hS rfl hd (kk H locs cells slots ls hH hS hc hs hl)
theorem ws_len {Λ : PRo} {X : Ctx} (C : CX Λ X) {pc : Nat} {L : PL} {o : Nat} {r : List Value} {σ : PSt} (hd : decode (mB (xm X)) pc = .ok (.arraylength, 1)) (ho : o < pnc σ) (h1 : 1 ≤ (ply σ o).1) (h6 : (ply σ o).1 ≤ 6)
    (kk : WS X (pc + 1) L (.int (Int32.ofNat (ply σ o).2) :: r) σ) : WS X pc L (.ref o :: r) σ := by
  intro H locs cells slots ls hH hS hc hs hl
  have hat := hH.2 o ho
  rw [ent_a rfl (by omega)] at hat
  have hT := (C.kn.1.2 ((ply σ o).1 - 1) _ (tysL_at h1 h6)).1
  have hcell : H[xo X + o]? = some (vp_cell (xA X (ply σ o).1) ((ply σ o).2, arc (xo X) σ (ply σ o).1 o)) := hat
  have e : ∃ f, vp_cell (xA X (ply σ o).1) ((ply σ o).2, arc (xo X) σ (ply σ o).1 o) = arrV (xA X (ply σ o).1) (ply σ o).2 f := by
    unfold arc vp_cell
    dsimp only
    split <;> exact ⟨_, rfl⟩
  obtain ⟨f, e⟩ := e
  rw [e] at hcell
  exact W.alen (n := Int32.ofNat (ply σ o).2) C.1 C.2.1 hcell (hT _ f) (by rw [arrV_size] <;> rfl) rfl rfl hd (kk H locs cells slots ls hH hS hc hs hl)
theorem ws_iast {Λ : PRo} {X : Ctx} (C : CX Λ X) {pc : Nat} {L : PL} {o : Nat} {i x : Int32} {r : List Value} {σ : PSt} (hd : decode (mB (xm X)) pc = .ok (.iastore, 1)) (ho : o < pnc σ) (hp : (ply σ o).1 = 1) (hi : vin i (ply σ o).2)
    (kk : WS X (pc + 1) L r (wiv σ o i.toNatClampNeg (x))) : WS X pc L (.int x :: .int i :: .ref o :: r) σ := by
  intro H locs cells slots ls hH hS hc hs hl
  have hat := hH.2 o ho
  rw [ent_a hp (by decide)] at hat
  have hcell : H[xo X + o]? = some (vp_cell (xA X 1) ((ply σ o).2, .inl (piv σ o))) := hat
  have hT := (C.kn.1.2 0 _ rfl).1
  refine W.iast C.1 C.2.1 hcell (hT _ (fun j => .int (piv σ o j))) (fun q => by cases q) (by show ¬ (i < 0 ∨ (arrV _ _ _).slots.size ≤ _); rw [arrV_size]; exact vin_in hi) rfl rfl hd fun H1 e z oq => ?_
  refine kk H1 _ cells slots ls (hH.upd (k := o) rfl z oq (fun j hj => ent_congr rfl rfl (up2_n hj) rfl) ?_) (hS.put z oq (show xo X ≤ xo X + o by omega)) hc hs hl
  rw [ent_a (show (ply (wiv σ o i.toNatClampNeg (x)) o).1 = 1 from hp) (by decide)]
  show H1[xo X + o]? = some (vp_cell (xA X 1) ((ply σ o).2, .inl (up2 (piv σ) o i.toNatClampNeg (x) o)))
  rw [e, vp_cell_i, vp_cell_i, arrV_store]
  congr 2
  funext q
  by_cases hq : q = i.toNatClampNeg
  · subst hq
    simp [updV, up2]
    try rfl
  · simp [updV, up2, hq]
theorem ws_bast {Λ : PRo} {X : Ctx} (C : CX Λ X) {pc : Nat} {L : PL} {o : Nat} {i x : Int32} {r : List Value} {σ : PSt} (hd : decode (mB (xm X)) pc = .ok (.bastore, 1)) (ho : o < pnc σ) (hp : (ply σ o).1 = 2) (hi : vin i (ply σ o).2)
    (kk : WS X (pc + 1) L r (wiv σ o i.toNatClampNeg (x.toInt8.toInt32))) : WS X pc L (.int x :: .int i :: .ref o :: r) σ := by
  intro H locs cells slots ls hH hS hc hs hl
  have hat := hH.2 o ho
  rw [ent_a hp (by decide)] at hat
  have hcell : H[xo X + o]? = some (vp_cell (xA X 2) ((ply σ o).2, .inl (piv σ o))) := hat
  have hT := (C.kn.1.2 1 _ rfl).1
  refine W.bast C.1 C.2.1 hcell (hT _ (fun j => .int (piv σ o j))) (fun q => by cases q) (by show ¬ (i < 0 ∨ (arrV _ _ _).slots.size ≤ _); rw [arrV_size]; exact vin_in hi) rfl rfl hd fun H1 e z oq => ?_
  refine kk H1 _ cells slots ls (hH.upd (k := o) rfl z oq (fun j hj => ent_congr rfl rfl (up2_n hj) rfl) ?_) (hS.put z oq (show xo X ≤ xo X + o by omega)) hc hs hl
  rw [ent_a (show (ply (wiv σ o i.toNatClampNeg (x.toInt8.toInt32)) o).1 = 2 from hp) (by decide)]
  show H1[xo X + o]? = some (vp_cell (xA X 2) ((ply σ o).2, .inl (up2 (piv σ) o i.toNatClampNeg (x.toInt8.toInt32) o)))
  rw [e, vp_cell_i, vp_cell_i, arrV_store]
  congr 2
  funext q
  by_cases hq : q = i.toNatClampNeg
  · subst hq
    simp [updV, up2]
    try rfl
  · simp [updV, up2, hq]
theorem ws_sast {Λ : PRo} {X : Ctx} (C : CX Λ X) {pc : Nat} {L : PL} {o : Nat} {i x : Int32} {r : List Value} {σ : PSt} (hd : decode (mB (xm X)) pc = .ok (.sastore, 1)) (ho : o < pnc σ) (hp : (ply σ o).1 = 3) (hi : vin i (ply σ o).2)
    (kk : WS X (pc + 1) L r (wiv σ o i.toNatClampNeg (x.toInt16.toInt32))) : WS X pc L (.int x :: .int i :: .ref o :: r) σ := by
  intro H locs cells slots ls hH hS hc hs hl
  have hat := hH.2 o ho
  rw [ent_a hp (by decide)] at hat
  have hcell : H[xo X + o]? = some (vp_cell (xA X 3) ((ply σ o).2, .inl (piv σ o))) := hat
  have hT := (C.kn.1.2 2 _ rfl).1
  refine W.sast C.1 C.2.1 hcell (hT _ (fun j => .int (piv σ o j))) (fun q => by cases q) (by show ¬ (i < 0 ∨ (arrV _ _ _).slots.size ≤ _); rw [arrV_size]; exact vin_in hi) rfl rfl hd fun H1 e z oq => ?_
  refine kk H1 _ cells slots ls (hH.upd (k := o) rfl z oq (fun j hj => ent_congr rfl rfl (up2_n hj) rfl) ?_) (hS.put z oq (show xo X ≤ xo X + o by omega)) hc hs hl
  rw [ent_a (show (ply (wiv σ o i.toNatClampNeg (x.toInt16.toInt32)) o).1 = 3 from hp) (by decide)]
  show H1[xo X + o]? = some (vp_cell (xA X 3) ((ply σ o).2, .inl (up2 (piv σ) o i.toNatClampNeg (x.toInt16.toInt32) o)))
  rw [e, vp_cell_i, vp_cell_i, arrV_store]
  congr 2
  funext q
  by_cases hq : q = i.toNatClampNeg
  · subst hq
    simp [updV, up2]
    try rfl
  · simp [updV, up2, hq]
theorem ws_last {Λ : PRo} {X : Ctx} (C : CX Λ X) {pc : Nat} {L : PL} {o : Nat} {i : Int32} {x : Int64} {r : List Value} {σ : PSt} (hd : decode (mB (xm X)) pc = .ok (.lastore, 1)) (ho : o < pnc σ) (hp : (ply σ o).1 = 4) (hi : vin i (ply σ o).2)
    (kk : WS X (pc + 1) L r (wlv σ o i.toNatClampNeg x)) : WS X pc L (.long x :: .int i :: .ref o :: r) σ := by
  intro H locs cells slots ls hH hS hc hs hl
  have hat := hH.2 o ho
  rw [ent_a hp (by decide)] at hat
  have hcell : H[xo X + o]? = some (vp_cell (xA X 4) ((ply σ o).2, .inr (.inl (plv σ o)))) := hat
  have hT := (C.kn.1.2 3 _ rfl).1
  refine W.last C.1 C.2.1 hcell (hT _ (fun j => .long (plv σ o j))) (fun q => by cases q) (by show ¬ (i < 0 ∨ (arrV _ _ _).slots.size ≤ _); rw [arrV_size]; exact vin_in hi) rfl rfl hd fun H1 e z oq => ?_
  refine kk H1 _ cells slots ls (hH.upd (k := o) rfl z oq (fun j hj => ent_congr rfl rfl rfl (up2_n hj)) ?_) (hS.put z oq (show xo X ≤ xo X + o by omega)) hc hs hl
  rw [ent_a (show (ply (wlv σ o i.toNatClampNeg x) o).1 = 4 from hp) (by decide)]
  show H1[xo X + o]? = some (vp_cell (xA X 4) ((ply σ o).2, .inr (.inl (up2 (plv σ) o i.toNatClampNeg x o))))
  rw [e, vp_cell_l, vp_cell_l, arrV_store]
  congr 2
  funext q
  by_cases hq : q = i.toNatClampNeg
  · subst hq
    simp [updV, up2]
  · simp [updV, up2, hq]
theorem ws_gets {Λ : PRo} {X : Ctx} (C : CX Λ X) {pc : Nat} {L : PL} {j k : Nat} {r : List Value} {σ : PSt} (hd : decode (mB (xm X)) pc = .ok (.getstatic k, 3)) (h : sk (mC (xm X)) k = some j) (kk : WS X (pc + 3) L (.retAddr j :: r) σ) : WS X pc L r σ := by
  intro H locs cells slots ls hH hS hc hs hl
  obtain ⟨h1, h4⟩ := sk_14 _ C.mc _ (lkp_in h)
  exact va_gets C.1 C.2.1 (C.kn.2.2.2.1 j h1 h4) hS C.2.2.2.2.1 (C.2.2.2.2.2.1 _ (w_sk C.mc h)) (fun _ h9 => h9) hd (kk H locs cells slots ls hH hS hc hs hl)
theorem mkc_old {σ : PSt} {t a n j : Nat} (hj : j ≠ pnc σ) : ply (mkc σ t a n) j = ply σ j ∧ prv (mkc σ t a n) j = prv σ j ∧ piv (mkc σ t a n) j = piv σ j ∧ plv (mkc σ t a n) j = plv σ j := ⟨up1_n hj, up1_n hj, up1_n hj, up1_n hj⟩
theorem mkc_new {σ : PSt} {t a n : Nat} : ply (mkc σ t a n) (pnc σ) = (t, a) ∧ prv (mkc σ t a n) (pnc σ) = (fun _ => none) ∧ piv (mkc σ t a n) (pnc σ) = (fun _ => 0) ∧ plv (mkc σ t a n) (pnc σ) = (fun _ => 0) := ⟨up1_s, up1_s, up1_s, up1_s⟩
theorem va_S.grow {b0 : Nat} {H0 H H1 : Heap} {locs : List Loc} (h : va_S (fun q => b0 ≤ q) H0 H locs) (z : H.size ≤ H1.size) (o : ∀ q : Nat, q < H.size → H1[q]? = H[q]?) : va_S (fun q => b0 ≤ q) H0 H1 locs := ⟨Nat.le_trans h.1 z, fun q h1 h2 => (o q (Nat.lt_of_lt_of_le h1 h.1)).trans (h.2.1 q h1 h2), h.2.2⟩
theorem ws_new {Λ : PRo} {X : Ctx} (C : CX Λ X) {pc : Nat} {L : PL} {k ci : Nat} {r : List Value} {σ : PSt} (hd : decode (mB (xm X)) pc = .ok (.new k, 3)) (h : nw (mC (xm X)) k = some ci) (hr1 : pnc σ + 1 ≤ xk X + (xR X).cells) (hr2 : pns σ + nF ci ≤ xn X + (xR X).slots)
    (kk : WS X (pc + 3) L (.ref (pnc σ) :: r) (mkc σ 0 ci (nF ci))) : WS X pc L r σ := by
  intro H locs cells slots ls hH hS hc hs hl
  have hci : ci < NX := nw_lt _ C.mc _ (lkp_in h)
  have hKn := C.kn.1.1 ci _ (vwCl_at hci)
  have hb : xo X + pnc σ = H.size := hH.1.symm
  refine W.newcK (n := nF ci) C.1 C.2.1 C.2.2.2.2.1 (C.2.2.2.2.2.1 _ (w_nw C.mc h)) (C.2.2.2.2.2.1 _ (w_is hci)) (C.2.2.2.2.2.1 _ (w_in (nx_cl hci))) rfl hd (by omega) (by omega) hKn.2.1 rfl fun H1 kC hkC e1 z1 o1 => ?_
  rw [← hb]
  refine kk H1 locs (cells + 1) (slots + nF ci) ls (hH.push (τ := mkc σ 0 ci (nF ci)) rfl z1 o1 (fun j hj => ?_) ?_) (hS.grow (by omega) o1) (by show pnc σ + 1 = _; omega) (by show pns σ + nF ci = _; omega) hl
  · obtain ⟨a1, a2, a3, a4⟩ := mkc_old (σ := σ) (t := 0) (a := ci) (n := nF ci) (show j ≠ pnc σ by omega)
    exact ent_congr a1 a2 a3 a4
  · obtain ⟨a1, a2, a3, a4⟩ := mkc_new (σ := σ) (t := 0) (a := ci) (n := nF ci)
    rw [ent_o a1]
    refine ⟨_, vwCl_at hci, ?_⟩
    have hB := u_born (cTy ci) C.2.2.2.2.2.1 (w_lay hci) hKn hkC e1 (cT_ty hci)
    rw [hb]
    refine hB.to fun j hj => ?_
    have hj2 : j < nF ci := hj
    have a5 : vp_V (fls (xo X) (xt X) (mkc σ 0 ci (nF ci)) ci (pnc σ)) j = cv (xo X) (xt X) (fval (mkc σ 0 ci (nF ci)) ci (pnc σ) j) := by simp [vp_V, fls_get hj2]
    rw [a5]
    obtain ⟨k1, k2, k3, k4, k5, -⟩ := fk_ok ci hci j hj2
    have hfk : fk ci j = 0 ∨ fk ci j = 1 ∨ fk ci j = 2 ∨ fk ci j = 3 := by omega
    unfold fval
    rcases hfk with e | e | e | e
    · rw [e, a2]
      have := k4 e
      generalize cTy ci j = t at this
      cases t <;> first | rfl | cases this
    · rw [e, a3, k1 e]; rfl
    · rw [e, a4, k2 e]; rfl
    · rw [e, a3, k3 e]; rfl
theorem ws_newa_int {Λ : PRo} {X : Ctx} (C : CX Λ X) {pc : Nat} {L : PL} {n : Int32} {r : List Value} {σ : PSt} (hd : decode (mB (xm X)) pc = .ok (.newarray .int, 2)) (hn : ¬ n < 0) (hn2 : n.toNatClampNeg ≤ 10000) (hr1 : pnc σ + 1 ≤ xk X + (xR X).cells) (hr2 : pns σ + n.toNatClampNeg ≤ xn X + (xR X).slots)
    (kk : WS X (pc + 2) L (.ref (pnc σ) :: r) (mkc σ 1 n.toNatClampNeg n.toNatClampNeg)) : WS X pc L (.int n :: r) σ := by
  intro H locs cells slots ls hH hS hc hs hl
  have hb : xo X + pnc σ = H.size := hH.1.symm
  refine va_newaK C.1 C.2.1 (atype := .int) (C.2.2.2.2.2.1 (.arrayClass .int) (w_ex (by decide +kernel) rfl)) rfl hd rfl hn rfl (Nat.le_trans (Nat.mul_le_mul hn2 (show componentBytes .int ≤ 8 by decide)) (Nat.le_of_ble_eq_true rfl)) (by omega) (by omega) rfl fun H1 cA e1 z1 o1 hAr hNm => ?_
  have hRA : (xs X).vm.findClass ("[" ++ (newarray.typeOf .int).toString) = some (xA X 1) := (C.kn.1.2 0 _ rfl).2
  obtain rfl : cA = xA X 1 := Option.some.inj (hNm.symm.trans hRA)
  rw [← hb]
  refine kk H1 locs (cells + 1) (slots + n.toNatClampNeg) ls (hH.push (τ := mkc σ 1 n.toNatClampNeg n.toNatClampNeg) rfl z1 o1 (fun j hj => ?_) ?_) (hS.grow (by omega) o1) (by show pnc σ + 1 = _; omega) (by show pns σ + n.toNatClampNeg = _; omega) hl
  · obtain ⟨a1, a2, a3, a4⟩ := mkc_old (σ := σ) (t := 1) (a := n.toNatClampNeg) (n := n.toNatClampNeg) (show j ≠ pnc σ by omega)
    exact ent_congr a1 a2 a3 a4
  · obtain ⟨a1, a2, a3, a4⟩ := mkc_new (σ := σ) (t := 1) (a := n.toNatClampNeg) (n := n.toNatClampNeg)
    rw [ent_a (t := 1) (by rw [a1]) (by decide), a1]
    show H1[xo X + pnc σ]? = some (vp_cell (xA X 1) (n.toNatClampNeg, .inl (piv (mkc σ 1 n.toNatClampNeg n.toNatClampNeg) (pnc σ))))
    rw [a3, hb, e1]
    rfl
theorem ws_newa_byte {Λ : PRo} {X : Ctx} (C : CX Λ X) {pc : Nat} {L : PL} {n : Int32} {r : List Value} {σ : PSt} (hd : decode (mB (xm X)) pc = .ok (.newarray .byte, 2)) (hn : ¬ n < 0) (hn2 : n.toNatClampNeg ≤ 10000) (hr1 : pnc σ + 1 ≤ xk X + (xR X).cells) (hr2 : pns σ + n.toNatClampNeg ≤ xn X + (xR X).slots)
    (kk : WS X (pc + 2) L (.ref (pnc σ) :: r) (mkc σ 2 n.toNatClampNeg n.toNatClampNeg)) : WS X pc L (.int n :: r) σ := by
  intro H locs cells slots ls hH hS hc hs hl
  have hb : xo X + pnc σ = H.size := hH.1.symm
  refine va_newaK C.1 C.2.1 (atype := .byte) (C.2.2.2.2.2.1 (.arrayClass .byte) (w_ex (by decide +kernel) rfl)) rfl hd rfl hn rfl (Nat.le_trans (Nat.mul_le_mul hn2 (show componentBytes .byte ≤ 8 by decide)) (Nat.le_of_ble_eq_true rfl)) (by omega) (by omega) rfl fun H1 cA e1 z1 o1 hAr hNm => ?_
  have hRA : (xs X).vm.findClass ("[" ++ (newarray.typeOf .byte).toString) = some (xA X 2) := (C.kn.1.2 1 _ rfl).2
  obtain rfl : cA = xA X 2 := Option.some.inj (hNm.symm.trans hRA)
  rw [← hb]
  refine kk H1 locs (cells + 1) (slots + n.toNatClampNeg) ls (hH.push (τ := mkc σ 2 n.toNatClampNeg n.toNatClampNeg) rfl z1 o1 (fun j hj => ?_) ?_) (hS.grow (by omega) o1) (by show pnc σ + 1 = _; omega) (by show pns σ + n.toNatClampNeg = _; omega) hl
  · obtain ⟨a1, a2, a3, a4⟩ := mkc_old (σ := σ) (t := 2) (a := n.toNatClampNeg) (n := n.toNatClampNeg) (show j ≠ pnc σ by omega)
    exact ent_congr a1 a2 a3 a4
  · obtain ⟨a1, a2, a3, a4⟩ := mkc_new (σ := σ) (t := 2) (a := n.toNatClampNeg) (n := n.toNatClampNeg)
    rw [ent_a (t := 2) (by rw [a1]) (by decide), a1]
    show H1[xo X + pnc σ]? = some (vp_cell (xA X 2) (n.toNatClampNeg, .inl (piv (mkc σ 2 n.toNatClampNeg n.toNatClampNeg) (pnc σ))))
    rw [a3, hb, e1]
    rfl
theorem ws_newa_short {Λ : PRo} {X : Ctx} (C : CX Λ X) {pc : Nat} {L : PL} {n : Int32} {r : List Value} {σ : PSt} (hd : decode (mB (xm X)) pc = .ok (.newarray .short, 2)) (hn : ¬ n < 0) (hn2 : n.toNatClampNeg ≤ 10000) (hr1 : pnc σ + 1 ≤ xk X + (xR X).cells) (hr2 : pns σ + n.toNatClampNeg ≤ xn X + (xR X).slots)
    (kk : WS X (pc + 2) L (.ref (pnc σ) :: r) (mkc σ 3 n.toNatClampNeg n.toNatClampNeg)) : WS X pc L (.int n :: r) σ := by
  intro H locs cells slots ls hH hS hc hs hl
  have hb : xo X + pnc σ = H.size := hH.1.symm
  refine va_newaK C.1 C.2.1 (atype := .short) (C.2.2.2.2.2.1 (.arrayClass .short) (w_ex (by decide +kernel) rfl)) rfl hd rfl hn rfl (Nat.le_trans (Nat.mul_le_mul hn2 (show componentBytes .short ≤ 8 by decide)) (Nat.le_of_ble_eq_true rfl)) (by omega) (by omega) rfl fun H1 cA e1 z1 o1 hAr hNm => ?_
  have hRA : (xs X).vm.findClass ("[" ++ (newarray.typeOf .short).toString) = some (xA X 3) := (C.kn.1.2 2 _ rfl).2
  obtain rfl : cA = xA X 3 := Option.some.inj (hNm.symm.trans hRA)
  rw [← hb]
  refine kk H1 locs (cells + 1) (slots + n.toNatClampNeg) ls (hH.push (τ := mkc σ 3 n.toNatClampNeg n.toNatClampNeg) rfl z1 o1 (fun j hj => ?_) ?_) (hS.grow (by omega) o1) (by show pnc σ + 1 = _; omega) (by show pns σ + n.toNatClampNeg = _; omega) hl
  · obtain ⟨a1, a2, a3, a4⟩ := mkc_old (σ := σ) (t := 3) (a := n.toNatClampNeg) (n := n.toNatClampNeg) (show j ≠ pnc σ by omega)
    exact ent_congr a1 a2 a3 a4
  · obtain ⟨a1, a2, a3, a4⟩ := mkc_new (σ := σ) (t := 3) (a := n.toNatClampNeg) (n := n.toNatClampNeg)
    rw [ent_a (t := 3) (by rw [a1]) (by decide), a1]
    show H1[xo X + pnc σ]? = some (vp_cell (xA X 3) (n.toNatClampNeg, .inl (piv (mkc σ 3 n.toNatClampNeg n.toNatClampNeg) (pnc σ))))
    rw [a3, hb, e1]
    rfl
theorem ws_newa_long {Λ : PRo} {X : Ctx} (C : CX Λ X) {pc : Nat} {L : PL} {n : Int32} {r : List Value} {σ : PSt} (hd : decode (mB (xm X)) pc = .ok (.newarray .long, 2)) (hn : ¬ n < 0) (hn2 : n.toNatClampNeg ≤ 10000) (hr1 : pnc σ + 1 ≤ xk X + (xR X).cells) (hr2 : pns σ + n.toNatClampNeg ≤ xn X + (xR X).slots)
    (kk : WS X (pc + 2) L (.ref (pnc σ) :: r) (mkc σ 4 n.toNatClampNeg n.toNatClampNeg)) : WS X pc L (.int n :: r) σ := by
  intro H locs cells slots ls hH hS hc hs hl
  have hb : xo X + pnc σ = H.size := hH.1.symm
  refine va_newaK C.1 C.2.1 (atype := .long) (C.2.2.2.2.2.1 (.arrayClass .long) (w_ex (by decide +kernel) rfl)) rfl hd rfl hn rfl (Nat.le_trans (Nat.mul_le_mul hn2 (show componentBytes .long ≤ 8 by decide)) (Nat.le_of_ble_eq_true rfl)) (by omega) (by omega) rfl fun H1 cA e1 z1 o1 hAr hNm => ?_
  have hRA : (xs X).vm.findClass ("[" ++ (newarray.typeOf .long).toString) = some (xA X 4) := (C.kn.1.2 3 _ rfl).2
  obtain rfl : cA = xA X 4 := Option.some.inj (hNm.symm.trans hRA)
  rw [← hb]
  refine kk H1 locs (cells + 1) (slots + n.toNatClampNeg) ls (hH.push (τ := mkc σ 4 n.toNatClampNeg n.toNatClampNeg) rfl z1 o1 (fun j hj => ?_) ?_) (hS.grow (by omega) o1) (by show pnc σ + 1 = _; omega) (by show pns σ + n.toNatClampNeg = _; omega) hl
  · obtain ⟨a1, a2, a3, a4⟩ := mkc_old (σ := σ) (t := 4) (a := n.toNatClampNeg) (n := n.toNatClampNeg) (show j ≠ pnc σ by omega)
    exact ent_congr a1 a2 a3 a4
  · obtain ⟨a1, a2, a3, a4⟩ := mkc_new (σ := σ) (t := 4) (a := n.toNatClampNeg) (n := n.toNatClampNeg)
    rw [ent_a (t := 4) (by rw [a1]) (by decide), a1]
    show H1[xo X + pnc σ]? = some (vp_cell (xA X 4) (n.toNatClampNeg, .inr (.inl (plv (mkc σ 4 n.toNatClampNeg n.toNatClampNeg) (pnc σ)))))
    rw [a4, hb, e1]
    rfl

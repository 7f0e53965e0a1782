/-! ===== words by their places ===== -/
theorem w_code {m : Nat} (h : m < NM) : wCode m ∈ WALL := by
  have h1 : wCode0 m ∈ lw_tbl.filter k2_isCode := by
    rw [sgCode_ok]
    exact List.mem_map.mpr ⟨m, sgCode_all m h, rfl⟩
  have h2 : wCode0 m = wCode m := by
    have h3 := nm_9999
    have e1 : Nat.beq m 9999 = false := by
      cases e : Nat.beq m 9999
      · rfl
      · have := Nat.eq_of_beq_eq_true e; omega
    have e2 : Nat.beq m 9998 = false := by
      cases e : Nat.beq m 9998
      · rfl
      · have := Nat.eq_of_beq_eq_true e; omega
    have e3 : Nat.beq m 9997 = false := by
      cases e : Nat.beq m 9997
      · rfl
      · have := Nat.eq_of_beq_eq_true e; omega
    unfold wCode0
    rw [e1, e2, e3]
    rfl
  rw [h2] at h1
  exact wall_in (List.mem_filter.mp h1).1 rfl
theorem w_code0 {w : Cond} {m : Nat} (hm : m ∈ sgCode) (h : wCode0 m = w) (hg : goodWord w = true) : w ∈ WALL := by
  have h1 : wCode0 m ∈ lw_tbl.filter k2_isCode := by
    rw [sgCode_ok]
    exact List.mem_map.mpr ⟨m, hm, rfl⟩
  rw [h] at h1
  exact wall_in (List.mem_filter.mp h1).1 hg
theorem w_im {m : Nat} (h : m < NM) (hk : ¬ mK m = 2) : Cond.instanceMethod (mY m) ∈ WALL := wall_in (chk_map (f := wIm) sgIm_ok (sgIm_all m h hk)) rfl
theorem w_sel {m : Nat} (h : m < NM) (hk : mK m = 0) : wSel m ∈ WALL := wall_in (chk_map (f := wSel) sgSel_ok (sgSel_all m h hk)) rfl
theorem w_st {m : Nat} (h : m < NM) (hk : mK m = 2) : Cond.static (mY m) ∈ WALL := wall_in (chk_map (f := wSt) sgSt_ok (sgSt_all m h hk)) rfl
theorem w_ca {c k y : Nat} (hc : c < NCL) (h : ca c k = some y) : Cond.methodLink (cnm c) k (mY y) ∈ WALL := wall_in (chk_map (f := wCa1) sgCa_ok (sgCa_all c hc _ (lkp_in h))) rfl
theorem ca_y {c k y : Nat} (hc : c < NCL) (h : ca c k = some y) : y < NM := ca_lt c hc _ (lkp_in h)
theorem w_fl {c k : Nat} {e : Nat × Nat} (hc : c < NCL) (h : fl c k = some e) : wFl c (k, e) ∈ WALL := wall_in (chk_map (f := wFl1) sgFl_ok (sgFl_all c hc _ (lkp_in h))) rfl
theorem fl_y {c k : Nat} {e : Nat × Nat} (hc : c < NCL) (h : fl c k = some e) : e.1 < NX ∧ e.2 < nF e.1 := fl_lt c hc _ (lkp_in h)
theorem w_sk {c k j : Nat} (hc : c < NCL) (h : sk c k = some j) : wSk c (k, j) ∈ WALL := wall_in (chk_map (f := wSk1) sgSk_ok (sgSk_all c hc _ (lkp_in h))) rfl
theorem w_nw {c k j : Nat} (hc : c < NCL) (h : nw c k = some j) : wNw c (k, j) ∈ WALL := wall_in (chk_map (f := wNw1) sgNw_ok (sgNw_all c hc _ (lkp_in h))) rfl
theorem w_mn {c k j : Nat} (hc : c < NCL) (h : mn c k = some j) : wMn c (k, j) ∈ WALL := wall_in (chk_map (f := wMn1) sgMn_ok (sgMn_all c hc _ (lkp_in h))) rfl
theorem w_ki {c k : Nat} {v : Int32} (hc : c < NCL) (h : ki c k = some v) : Cond.constant (cnm c) k v ∈ WALL := wall_in (chk_map (f := wKi) sgKi_ok (sgKi_all c hc _ (lkp_in h))) rfl
theorem w_kl {c k : Nat} {v : Int64} (hc : c < NCL) (h : kl c k = some v) : Cond.constantLong (cnm c) k v ∈ WALL := wall_in (chk_map (f := wKl) sgKl_ok (sgKl_all c hc _ (lkp_in h))) rfl
theorem w_mm {c k j : Nat} (hc : c < NCL) (h : mm c k = some j) : Cond.methodLink (cnm c) k (mmN j) ∈ WALL := wall_in (chk_map (f := wMm) sgMm_ok (sgMm_all c hc _ (lkp_in h))) rfl
theorem w_oi {c k : Nat} (hc : c < NCL) (h : oi c k = true) : Cond.methodLink (cnm c) k objectInit ∈ WALL := wall_in (chk_map (f := wOi) sgOi_ok (sgOi_all c hc _ (List.contains_iff_mem.mp h))) rfl
theorem w_ac {c k : Nat} (hc : c < NCL) (h : ac c k = true) : Cond.methodLink (cnm c) k arraycopyName ∈ WALL := wall_in (chk_map (f := wAc) sgAc_ok (sgAc_all c hc _ (List.contains_iff_mem.mp h))) rfl
theorem w_lay {c : Nat} (hc : c < NX) : ∀ w ∈ u_ws (cnm c) (cT c) (nF c), w ∈ WALL := by
  intro w hw
  obtain ⟨k, hk, rfl⟩ := List.mem_map.mp hw
  refine wall_in (chk_map (f := wLay) sgLay_ok (sgLay_all c hc k (List.mem_range.mp hk))) ?_
  unfold u_lay
  split <;> rfl
theorem w_in {c : Nat} (hc : c < NCL) : Cond.initialized (cnm c) ∈ WALL := wall_in (chk_map (f := wInit) sgIn_ok (sgIn_all c hc)) rfl
theorem w_is {c : Nat} (hc : c < NX) : Cond.instantiable (cnm c) (nF c) ∈ WALL := wall_in (chk_map (f := wIns) sgIs_ok (sgIs_all c hc)) rfl
theorem w_ex {w : Cond} (h : w ∈ sgEx.map (fun q => q.2)) (hg : goodWord w = true) : w ∈ WALL := wall_in (chk_map (f := wEx) sgEx_ok h) hg
theorem nx_cl {c : Nat} (h : c < NX) : c < NCL := by
  have h1 : c < 13 := h
  show c < 15
  omega
/-! ===== one instruction: a field read, a field written, rows ===== -/
theorem CX.mc {Λ : PRo} {X : Ctx} (C : CX Λ X) : mC (xm X) < NCL := mC_lt _ C.2.2.2.2.2.2.2.2.2
theorem ws_get {Λ : PRo} {X : Ctx} (C : CX Λ X) {pc : Nat} {L : PL} {o ci f k : Nat} {r : List Value} {σ : PSt} (hd : decode (mB (xm X)) pc = .ok (.getfield k, 3)) (hfl : fl (mC (xm X)) k = some (ci, f)) (ho : o < pnc σ) (hp : ply σ o = (0, ci)) (hf : f < nF ci)
    (kk : WS X (pc + 3) L (fval σ ci o f :: r) σ) : WS X pc L (.ref o :: r) σ := by
  intro H locs cells slots ls hH hS hc hs hl
  obtain ⟨hci, -⟩ := fl_y C.mc hfl
  have hat := hH.2 o ho
  rw [ent_o hp] at hat
  obtain ⟨r0, h1, cell, q1, q2, q3, q4⟩ := hat
  have hr : r0 = (cnm ci, cT ci, nF ci) := Option.some.inj (h1.symm.trans (vwCl_at hci))
  subst hr
  obtain ⟨hSl, hfc, kC, hkC, hkind⟩ := C.2.2.2.2.2.2.2.2.1.1.1 ci _ h1
  obtain ⟨cf, kf, fi, fd, hi, hsl⟩ := hSl f hf
  have hlink := C.2.2.2.2.2.1 _ (w_fl C.mc hfl)
  have hT1 := (fk_ok ci hci f hf).2.2.2.2.2.2
  have hi2 : (xs X).fieldFound? (cnm ci) (cT ci f).2.1 (cT ci f).2.2.1 = some (cf, kf, fi, fd) := by rw [← hT1]; exact hi
  refine W.getf C.1 C.2.1 C.2.2.2.2.1 hlink hi2 (u_facts hfc hkC (u_lays C.2.2.2.2.2.1 (w_lay hci) hf) hi).1 q1 (by rw [q3]; exact fun h => by cases h) (v := cv (xo X) (xt X) (fval σ ci o f)) ?_ rfl rfl hd (kk H locs cells slots ls hH hS hc hs hl)
  rw [hsl, q4 f hf]
  have := fls_get (b0 := xo X) (tt := xt X) (σ := σ) (k := o) hf
  simp [vp_V, this]
theorem pval_i {σ τ : PSt} {ci o f : Nat} {v : Value} (h : pval σ (fk ci f) o f v = some τ) : pnc τ = pnc σ ∧ pns τ = pns σ ∧ ply τ = ply σ ∧ (∀ j, j ≠ o → prv τ j = prv σ j ∧ piv τ j = piv σ j ∧ plv τ j = plv σ j) ∧ ∀ j, fval τ ci o j = if j = f then v else fval σ ci o j := by
  unfold pval at h
  split at h
  · split at h
    next x hk =>
      cases h
      refine ⟨rfl, rfl, rfl, fun j hj => ⟨rfl, up2_n hj, rfl⟩, fun j => ?_⟩
      by_cases hj : j = f
      · subst hj
        rw [if_pos rfl]
        have : fk ci j = 1 ∨ fk ci j = 3 := by rcases hk with h | h; exact Or.inl h; exact Or.inr h.1
        unfold fval
        rcases this with e | e <;> rw [e] <;> exact congrArg Value.int up2_s
      · rw [if_neg hj]
        unfold fval
        have e : piv (wiv σ o f x) o j = piv σ o j := by show up2 (piv σ) o f x o j = _; simp [up2, hj]
        rw [e]
        rfl
    next => cases h
  · split at h
    next x hk =>
      cases h
      refine ⟨rfl, rfl, rfl, fun j hj => ⟨rfl, rfl, up2_n hj⟩, fun j => ?_⟩
      by_cases hj : j = f
      · subst hj
        rw [if_pos rfl]
        unfold fval
        rw [hk]
        exact congrArg Value.long up2_s
      · rw [if_neg hj]
        unfold fval
        have e : plv (wlv σ o f x) o j = plv σ o j := by show up2 (plv σ) o f x o j = _; simp [up2, hj]
        rw [e]
        rfl
    next => cases h
  · split at h
    next x hk =>
      cases h
      refine ⟨rfl, rfl, rfl, fun j hj => ⟨up2_n hj, rfl, rfl⟩, fun j => ?_⟩
      by_cases hj : j = f
      · subst hj
        rw [if_pos rfl]
        unfold fval
        rw [hk]
        have e : prv (wrv σ o j (some x)) o j = some x := up2_s
        rw [e]
        rfl
      · rw [if_neg hj]
        unfold fval
        have e : prv (wrv σ o f (some x)) o j = prv σ o j := by show up2 (prv σ) o f (some x) o j = _; simp [up2, hj]
        rw [e]
        rfl
    next => cases h
  · cases h
theorem pval_fit {σ τ : PSt} {ci o f : Nat} {v : Value} {b0 : Nat} {tt : Nat → Nat} (hci : ci < NX) (hf : f < nF ci) (h : pval σ (fk ci f) o f v = some τ) : narrow (cTy ci f) (cv b0 tt v) = cv b0 tt v ∧ fits (cTy ci f) (cv b0 tt v) = true := by
  obtain ⟨k1, k2, k3, k4, -⟩ := fk_ok ci hci f hf
  unfold pval at h
  split at h
  · split at h
    next x hk =>
      rcases hk with hk | ⟨hk, hx⟩
      · rw [k1 hk]; exact ⟨rfl, rfl⟩
      · rw [k3 hk]
        rcases hx with rfl | rfl
        · show narrow .boolean (.int 0) = .int 0 ∧ fits .boolean (.int 0) = true
          decide
        · show narrow .boolean (.int 1) = .int 1 ∧ fits .boolean (.int 1) = true
          decide
    next => cases h
  · split at h
    next x hk => rw [k2 hk]; exact ⟨rfl, rfl⟩
    next => cases h
  · split at h
    next x hk =>
      have := k4 hk
      generalize cTy ci f = t at this
      cases t <;> first | exact ⟨rfl, rfl⟩ | cases this
    next => cases h
  · cases h
theorem Hd.fld {D : va_G} {dA : Nat → ClassId} {b0 : Nat} {tt : Nat → Nat} {σ τ : PSt} {H H1 : Heap} {o ci f : Nat} {v : Value} {cell : Cell} (h : Hd D dA b0 tt σ H) (hp : ply σ o = (0, ci)) (hci : ci < NX) (hf : f < nF ci) (hv : pval σ (fk ci f) o f v = some τ) (hz : H1.size = H.size) (oq : ∀ q : Nat, q ≠ b0 + o → H1[q]? = H[q]?)
    (q2 : cell.cls = D.1 ci) (q3 : cell.vm = .none) (q4 : ∀ k, k < nF ci → cell.slots[D.2 ci k]? = some (vp_V (fls b0 tt σ ci o) k)) (hap : ∀ x y, x < nF ci → y < nF ci → x ≠ y → D.2 ci x ≠ D.2 ci y) (e1 : H1[b0 + o]? = some (cell.setSlot (D.2 ci f) (cv b0 tt v))) : Hd D dA b0 tt τ H1 := by
  obtain ⟨i1, i2, i3, i4, i5⟩ := pval_i hv
  refine h.upd i1 hz oq (fun j hj => ent_congr (by rw [i3]) (i4 j hj).1 (i4 j hj).2.1 (i4 j hj).2.2) ?_
  rw [ent_o (show ply τ o = (0, ci) by rw [i3]; exact hp)]
  refine ⟨_, vwCl_at hci, t_OB.to (V := updV (vp_V (fls b0 tt σ ci o)) f (cv b0 tt v)) ⟨_, e1, q2, q3, t_set q4 hap hf _⟩ (fun j hj => ?_)⟩
  have hj2 : j < nF ci := hj
  have a1 : vp_V (fls b0 tt σ ci o) j = cv b0 tt (fval σ ci o j) := by simp [vp_V, fls_get hj2]
  have a2 : vp_V (fls b0 tt τ ci o) j = cv b0 tt (fval τ ci o j) := by simp [vp_V, fls_get hj2]
  rw [a2, i5 j]
  by_cases hjf : j = f
  · subst hjf; simp [updV]
  · simp [updV, hjf, a1]
theorem ws_put {Λ : PRo} {X : Ctx} (C : CX Λ X) {pc : Nat} {L : PL} {o ci f k : Nat} {v : Value} {r : List Value} {σ τ : PSt} (hd : decode (mB (xm X)) pc = .ok (.putfield k, 3)) (hfl : fl (mC (xm X)) k = some (ci, f)) (ho : o < pnc σ) (hp : ply σ o = (0, ci)) (hf : f < nF ci)
    (hfin : ffin ci f = true → isIni (xm X) = true ∧ mC (xm X) = ci) (hv : pval σ (fk ci f) o f v = some τ) (kk : WS X (pc + 3) L r τ) : WS X pc L (v :: .ref o :: r) σ := by
  intro H locs cells slots ls hH hS hc hs hl
  obtain ⟨hci, -⟩ := fl_y C.mc hfl
  have hat := hH.2 o ho
  rw [ent_o hp] at hat
  obtain ⟨r0, h1, cell, q1, q2, q3, q4⟩ := hat
  have hr : r0 = (cnm ci, cT ci, nF ci) := Option.some.inj (h1.symm.trans (vwCl_at hci))
  subst hr
  have hap := va_apart (own := cnm ci) C.2.2.2.2.2.1 (w_lay hci) (cTy ci) (cT_ty hci) (cT_nm hci) C.2.2.2.2.2.2.2.2.1.1 h1
  obtain ⟨hSl, hfc, kC, hkC, hkind⟩ := C.2.2.2.2.2.2.2.2.1.1.1 ci _ h1
  obtain ⟨cf, kf, fi, fd, hi, hsl⟩ := hSl f hf
  have hlink := C.2.2.2.2.2.1 _ (w_fl C.mc hfl)
  obtain ⟨-, -, -, -, -, hff, hT1⟩ := fk_ok ci hci f hf
  have hi2 : (xs X).fieldFound? (cnm ci) (cT ci f).2.1 (cT ci f).2.2.1 = some (cf, kf, fi, fd) := by rw [← hT1]; exact hi
  have hlay := C.2.2.2.2.2.1 _ (w_lay hci _ (u_in_lay hf))
  have hst := (u_facts hfc hkC (u_lays C.2.2.2.2.2.1 (w_lay hci) hf) hi).1
  obtain ⟨hn9, hfit⟩ := pval_fit (b0 := xo X) (tt := xt X) hci hf hv
  obtain ⟨i1, i2, -⟩ := pval_i hv
  cases hb : ffin ci f with
  | false =>
    unfold u_lay at hlay
    rw [if_neg (by rw [← hff, hb]; decide)] at hlay
    have h6 := u_store hfc hkC hkind hlay hi (cT_ty hci f hf) hn9 hfit
    refine W.putK C.1 C.2.1 (f := fd) ⟨C.2.2.2.2.1, hlink, ⟨_, _, _, hi2⟩, hst⟩ (by rw [q2]; exact h6) q1 q3 (by rw [hsl]; exact k2_hasslot (q4 f hf)) rfl rfl hd fun H' e1 e2 e3 => ?_
    rw [hsl] at e1
    exact kk H' _ cells slots ls (hH.fld hp hci hf hv e2 e3 q2 q3 q4 hap e1) (hS.put e2 e3 (show xo X ≤ xo X + o by omega)) (by rw [i1]; exact hc) (by rw [i2]; exact hs) hl
  | true =>
    unfold u_lay at hlay
    rw [if_pos (by rw [← hff, hb])] at hlay
    obtain ⟨hini, hcc⟩ := hfin hb
    have hcf : (xi X).cls = cf := by
      obtain ⟨_, _, c', _, _, _, -, -, hf', -, -, -, hown2, -⟩ := Cond.laysFinal_spec hlay
      have e1 : c' = cf := by have := hi.symm.trans hf'; simp at this; exact this.1.symm
      rw [hT1] at hown2
      have hown := C.2.2.2.2.1
      rw [hcc] at hown
      rw [← e1]; exact Option.some.inj (hown.symm.trans hown2)
    have h6 := u_fits hfc hkC hkind (Or.inr hlay) hi (cT_ty hci f hf) hn9 hfit
    refine W.putFinK C.1 C.2.1 C.2.2.2.2.1 hlink hi2 hst hcf (C.2.2.2.2.2.2.2.1 hini) (by rw [q2]; exact h6) q1 q3 (by rw [hsl]; exact k2_hasslot (q4 f hf)) rfl rfl hd fun H' e1 e2 e3 => ?_
    rw [hsl] at e1
    exact kk H' _ cells slots ls (hH.fld hp hci hf hv e2 e3 q2 q3 q4 hap e1) (hS.put e2 e3 (show xo X ≤ xo X + o by omega)) (by rw [i1]; exact hc) (by rw [i2]; exact hs) hl

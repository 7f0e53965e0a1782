/-! ===== new int[n][k], new long[n][k]; then any instruction that calls nothing ===== -/
theorem mkrows_spec (t n : Nat) : ∀ (j : Nat) (σ : PSt), pnc (mkrows t n j σ) = pnc σ + j ∧ pns (mkrows t n j σ) = pns σ + j * n ∧
    (∀ q, q < pnc σ → ply (mkrows t n j σ) q = ply σ q ∧ prv (mkrows t n j σ) q = prv σ q ∧ piv (mkrows t n j σ) q = piv σ q ∧ plv (mkrows t n j σ) q = plv σ q) ∧
    ∀ q, pnc σ ≤ q → q < pnc σ + j → ply (mkrows t n j σ) q = (t, n) ∧ prv (mkrows t n j σ) q = (fun _ => none) ∧ piv (mkrows t n j σ) q = (fun _ => 0) ∧ plv (mkrows t n j σ) q = (fun _ => 0)
  | 0, σ => ⟨rfl, by show pns σ = pns σ + 0 * n; omega, fun _ _ => ⟨rfl, rfl, rfl, rfl⟩, fun q h1 h2 => by omega⟩
  | j + 1, σ => by
    obtain ⟨h1, h2, h3, h4⟩ := mkrows_spec t n j (mkc σ t n n)
    have e1 : pnc (mkc σ t n n) = pnc σ + 1 := rfl
    have e2 : pns (mkc σ t n n) = pns σ + n := rfl
    refine ⟨by show pnc (mkrows t n j (mkc σ t n n)) = _; rw [h1, e1]; omega, by show pns (mkrows t n j (mkc σ t n n)) = _; rw [h2, e2, Nat.succ_mul]; omega, fun q hq => ?_, fun q hq1 hq2 => ?_⟩
    · obtain ⟨a1, a2, a3, a4⟩ := h3 q (by rw [e1]; omega)
      obtain ⟨b1, b2, b3, b4⟩ := mkc_old (σ := σ) (t := t) (a := n) (n := n) (show q ≠ pnc σ by omega)
      exact ⟨a1.trans b1, a2.trans b2, a3.trans b3, a4.trans b4⟩
    · by_cases hq : q = pnc σ
      · subst hq
        obtain ⟨a1, a2, a3, a4⟩ := h3 (pnc σ) (by rw [e1]; omega)
        obtain ⟨b1, b2, b3, b4⟩ := mkc_new (σ := σ) (t := t) (a := n) (n := n)
        exact ⟨a1.trans b1, a2.trans b2, a3.trans b3, a4.trans b4⟩
      · exact h4 q (by rw [e1]; omega) (by rw [e1]; omega)
theorem mna_outer (c : ClassId) (N h0 : Nat) : ∀ i : Nat, Jvm.Free.Multi.outerC c N h0 i = arrV c N (fun j => va_rf (if j < i then some (h0 + 1 + j) else none))
  | 0 => by
    show ({ cls := c, slots := Array.replicate N .null, vm := .none } : Cell) = _
    rw [arrV_new]
    refine congrArg (arrV c N) (funext fun j => ?_)
    simp [va_rf]
  | i + 1 => by
    show (Jvm.Free.Multi.outerC c N h0 i).setSlot i (.ref (h0 + 1 + i)) = _
    rw [mna_outer c N h0 i, arrV_store]
    refine congrArg (arrV c N) (funext fun j => ?_)
    by_cases e : j = i
    · subst e
      simp [updV, va_rf]
    · by_cases h : j < i
      · simp [updV, e, h, Nat.lt_succ_of_lt h]
      · simp [updV, e, h, show ¬ j < i + 1 by omega]
theorem ws_mna {Λ : PRo} {X : Ctx} (C : CX Λ X) {pc : Nat} {L : PL} {n k : Int32} {idx t t1 : Nat} {ty : FieldType} {r : List Value} {σ : PSt} (hd : decode (mB (xm X)) pc = .ok (.multianewarray idx 2, 4)) (hm : mn (mC (xm X)) idx = some t) (hty : aty t = .array ty) (h56 : t = 5 ∧ t1 = 1 ∧ ty = .int ∨ t = 6 ∧ t1 = 4 ∧ ty = .long)
    (hn : ¬ n < 0) (hk : ¬ k < 0) (hn2 : n.toNatClampNeg ≤ 100) (hk2 : k.toNatClampNeg ≤ 100)
    (hr1 : pnc σ + 1 + n.toNatClampNeg ≤ xk X + (xR X).cells) (hr2 : pns σ + n.toNatClampNeg + n.toNatClampNeg * k.toNatClampNeg ≤ xn X + (xR X).slots)
    (kk : WS X (pc + 4) L (.ref (pnc σ) :: r) (mkrows t1 k.toNatClampNeg n.toNatClampNeg (wrr (mkc σ t n.toNatClampNeg n.toNatClampNeg) (pnc σ) (fun i => if i < n.toNatClampNeg then some (pnc σ + 1 + i) else none)))) : WS X pc L (.int k :: .int n :: r) σ := by
  intro H locs cells slots ls hH hS hc hs hl
  have hb : xo X + pnc σ = H.size := hH.1.symm
  have hcl : (Cond.classLink (cnm (mC (xm X))) idx ("[" ++ (FieldType.array ty).toString)).before (xa X) (xs X) = true := by
    have := C.2.2.2.2.2.1 _ (w_mn C.mc hm)
    unfold wMn at this
    rw [hty] at this
    exact this
  have hov : (Cond.arrayOver (.array ty)).before (xa X) (xs X) = true := by
    rcases h56 with ⟨-, -, rfl⟩ | ⟨-, -, rfl⟩
    · exact C.kn.2.2.2.2.1
    · exact C.kn.2.2.2.2.2
  have har : (Cond.arrayClass ty).before (xa X) (xs X) = true := by
    rcases h56 with ⟨-, -, rfl⟩ | ⟨-, -, rfl⟩
    · exact C.2.2.2.2.2.1 _ (w_ex (by decide +kernel) rfl)
    · exact C.2.2.2.2.2.1 _ (w_ex (by decide +kernel) rfl)
  have hcb : componentBytes ty ≤ 8 ∧ fits ty (defaultValue ty) = true ∧ (defaultValue ty).isDefault = true := by
    rcases h56 with ⟨-, -, rfl⟩ | ⟨-, -, rfl⟩ <;> decide
  have hmul : n.toNatClampNeg * 4 ≤ 400 := by omega
  have hmul2 : k.toNatClampNeg * componentBytes ty ≤ 100 * 8 := Nat.mul_le_mul hk2 hcb.1
  intro T hT Xs
  obtain ⟨vm₁, cA, comp, -, fA, fC, hO, hI, X', step⟩ := Xs.multianewarray2F C.1 C.2.2.2.2.1 hcl hov har (g := F0 (xi X) pc ls (.int k :: .int n :: r.map (cv (xo X) (xt X)))) rfl (by rw [C.2.1]; exact hd) rfl hn hk (by omega) (by omega) (by omega) hcb.2.1 hcb.2.2 (by omega) (by omega)
  have hRt : (xs X).vm.findClass ("[" ++ (FieldType.array ty).toString) = some (xA X t) := by
    rcases h56 with ⟨rfl, -, rfl⟩ | ⟨rfl, -, rfl⟩
    · exact (C.kn.1.2 4 _ rfl).2
    · exact (C.kn.1.2 5 _ rfl).2
  have hR1 : (xs X).vm.findClass (FieldType.array ty).toString = some (xA X t1) := by
    rcases h56 with ⟨-, rfl, rfl⟩ | ⟨-, rfl, rfl⟩
    · exact (C.kn.1.2 0 _ rfl).2
    · exact (C.kn.1.2 3 _ rfl).2
  obtain rfl : cA = xA X t := Option.some.inj (fA.symm.trans hRt)
  obtain rfl : comp = xA X t1 := Option.some.inj (fC.symm.trans hR1)
  generalize hF : Jvm.Free.Multi.fill (T.setVm vm₁) (xA X t) (xA X t1) n.toNatClampNeg k.toNatClampNeg (defaultValue ty) n.toNatClampNeg = F at X' step
  have hTh : (T.setVm vm₁).heap = H := hT
  obtain ⟨f1, f2, -, -⟩ := Jvm.Free.Multi.fill_facts (T.setVm vm₁) (xA X t) (xA X t1) n.toNatClampNeg k.toNatClampNeg (defaultValue ty) n.toNatClampNeg
  rw [hF, hTh] at f1 f2
  have hold : ∀ x : Nat, x < H.size → F.heap[x]? = H[x]? := fun x hx => by
    have := Jvm.Free.Multi.fill_old (T.setVm vm₁) (xA X t) (xA X t1) n.toNatClampNeg k.toNatClampNeg (defaultValue ty) (a := x) (by rw [hTh]; exact hx) n.toNatClampNeg
    rw [hF, hTh] at this
    exact this
  have hrow : ∀ j : Nat, j < n.toNatClampNeg → F.heap[H.size + 1 + j]? = some (Jvm.Free.Multi.innerC (xA X t1) k.toNatClampNeg (defaultValue ty)) := fun j hj => by
    have := Jvm.Free.Multi.fill_inner (T.setVm vm₁) (xA X t) (xA X t1) n.toNatClampNeg k.toNatClampNeg (defaultValue ty) n.toNatClampNeg j hj
    rw [hF, hTh] at this
    exact this
  rw [mna_outer] at f2
  generalize hσ0 : wrr (mkc σ t n.toNatClampNeg n.toNatClampNeg) (pnc σ) (fun i => if i < n.toNatClampNeg then some (pnc σ + 1 + i) else none) = σ0 at kk
  have z1 : pnc σ0 = pnc σ + 1 := by rw [← hσ0]; rfl
  have z2 : pns σ0 = pns σ + n.toNatClampNeg := by rw [← hσ0]; rfl
  have z3 : ∀ j, j ≠ pnc σ → ply σ0 j = ply σ j ∧ prv σ0 j = prv σ j ∧ piv σ0 j = piv σ j ∧ plv σ0 j = plv σ j := by
    intro j hj
    rw [← hσ0]
    obtain ⟨a1, a2, a3, a4⟩ := mkc_old (σ := σ) (t := t) (a := n.toNatClampNeg) (n := n.toNatClampNeg) hj
    refine ⟨a1, ?_, a3, a4⟩
    show up1 (prv (mkc σ t n.toNatClampNeg n.toNatClampNeg)) (pnc σ) _ j = _
    rw [up1_n hj]
    exact a2
  have z4 : ply σ0 (pnc σ) = (t, n.toNatClampNeg) ∧ prv σ0 (pnc σ) = (fun i => if i < n.toNatClampNeg then some (pnc σ + 1 + i) else none) := by
    rw [← hσ0]
    refine ⟨(mkc_new (σ := σ) (t := t) (a := n.toNatClampNeg) (n := n.toNatClampNeg)).1, ?_⟩
    show up1 (prv (mkc σ t n.toNatClampNeg n.toNatClampNeg)) (pnc σ) _ (pnc σ) = _
    exact up1_s
  obtain ⟨m1, m2, m3, m4⟩ := mkrows_spec t1 k.toNatClampNeg n.toNatClampNeg σ0
  generalize hτ : mkrows t1 k.toNatClampNeg n.toNatClampNeg σ0 = τ at kk m1 m2 m3 m4
  have ht0 : t ≠ 0 ∧ t1 ≠ 0 := by omega
  have hHd : Hd (xD X) (xA X) (xo X) (xt X) τ F.heap := by
    refine ⟨by rw [f1, m1, z1]; omega, fun j hj => ?_⟩
    by_cases hj1 : j < pnc σ
    · obtain ⟨a1, a2, a3, a4⟩ := m3 j (by omega)
      obtain ⟨b1, b2, b3, b4⟩ := z3 j (by omega)
      rw [ent_congr (a1.trans b1) (a2.trans b2) (a3.trans b3) (a4.trans b4)]
      exact (hH.2 j hj1).kept (hold _ (by show xo X + j < H.size; omega))
    · by_cases hj2 : j = pnc σ
      · subst hj2
        obtain ⟨a1, a2, a3, a4⟩ := m3 (pnc σ) (by omega)
        rw [ent_a (t := t) (by rw [a1, z4.1]) ht0.1, a1, z4.1]
        show F.heap[xo X + pnc σ]? = some (vp_cell (xA X t) (n.toNatClampNeg, arc (xo X) τ t (pnc σ)))
        rw [hb, f2]
        have ea : arc (xo X) τ t (pnc σ) = .inr (.inr (.inr (.inr (fun i => (prv τ (pnc σ) i).map (fun j => xo X + j))))) := by
          unfold arc
          rw [if_neg (by omega), if_pos (by omega)]
        rw [ea, vp_cell_q, a2, z4.2]
        refine congrArg some (congrArg (arrV (xA X t) n.toNatClampNeg) (funext fun q => congrArg va_rf ?_))
        by_cases hq : q < n.toNatClampNeg
        · simp only [hq, if_true, Option.map_some]
          congr 1
          omega
        · simp only [hq, if_false, Option.map_none]
      · obtain ⟨a1, a2, a3, a4⟩ := m4 j (by omega) (by omega)
        rw [ent_a (t := t1) (by rw [a1]) ht0.2, a1]
        show F.heap[xo X + j]? = some (vp_cell (xA X t1) (k.toNatClampNeg, arc (xo X) τ t1 j))
        have hr := hrow (j - (pnc σ + 1)) (by omega)
        rw [show H.size + 1 + (j - (pnc σ + 1)) = xo X + j by omega] at hr
        rw [hr]
        have e9 : Jvm.Free.Multi.innerC (xA X t1) k.toNatClampNeg (defaultValue ty) = arrV (xA X t1) k.toNatClampNeg (fun _ => defaultValue ty) := arrV_new _ _ _
        rw [e9]
        rcases h56 with ⟨-, rfl, rfl⟩ | ⟨-, rfl, rfl⟩
        · show some (arrV _ _ _) = some (arrV (xA X 1) k.toNatClampNeg (fun q => .int (piv τ j q)))
          rw [a3]; rfl
        · show some (arrV _ _ _) = some (arrV (xA X 4) k.toNatClampNeg (fun q => .long (plv τ j q)))
          rw [a4]; rfl
  obtain ⟨t9, a1, b1⟩ := kk F.heap locs (cells + 1 + n.toNatClampNeg) (slots + n.toNatClampNeg + n.toNatClampNeg * k.toNatClampNeg) ls hHd (hS.grow (by rw [f1]; omega) hold) (by rw [m1, z1]; omega) (by rw [m2, z2]; omega) hl F rfl X'
  refine ⟨t9, step t9 ?_, b1⟩
  have e : T.heap.size = xo X + pnc σ := by rw [hT, hb]
  rw [e]
  exact a1

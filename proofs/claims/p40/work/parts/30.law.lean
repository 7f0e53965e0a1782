/-! ===== THE LAW'S RUN: the two objects are made, then the loop ===== -/
theorem pS_new {Λ : PRo} {ini : Bool} {c pc pc' k y : Nat} {σ : PSt} {st : List Value} (h : nw c k = some y) : pS Λ ini c pc pc' σ (.new k) st = some (pc', .ref (pnc σ) :: st, mkc σ 0 y (nF y)) := by
  show Option.map _ (nw c k) = _
  rw [h]
  rfl
theorem vok_new {y ci k n : Nat} {σ : PSt} {as : List Value} (hc : mC y = ci) : vOk k y (.ref (pnc σ) :: as) (mkc σ 0 ci n) = true := by
  unfold vOk
  cases Nat.beq k 2 with
  | true => rfl
  | false =>
    have e : ply (mkc σ 0 ci n) (pnc σ) = (0, ci) := up1_s
    show (Nat.blt (pnc σ) (pnc σ + 1) && (Nat.beq (ply (mkc σ 0 ci n) (pnc σ)).1 0 && Nat.beq (ply (mkc σ 0 ci n) (pnc σ)).2 (mC y))) = true
    rw [e, hc]
    have : Nat.blt (pnc σ) (pnc σ + 1) = true := Nat.ble_eq_true_of_le (Nat.le_refl _)
    rw [this]
    show (true && (true && Nat.beq ci ci)) = true
    rw [Nat.beq_refl]
    rfl
theorem prun_up {Λ : PRo} {n n' d m pc : Nat} {L : PL} {st : List Value} {σ : PSt} {r : Option Value × PSt} (h : prun Λ n d m pc L st σ = some r) (hn : n ≤ n') : prun Λ n' d m pc L st σ = some r := prun_mono _ _ (Or.inr rfl) _ _ _ _ _ _ _ _ h _ _ _ hn (Nat.le_refl _) (fun _ _ h => h)
theorem law_pre {Λ : PRo} {τX τM : PSt} {N d : Nat} {r : Option Value × PSt}
    (hX : prun Λ N d 138 0 [(0, .ref 0)] [] (mkc σ00 0 11 11) = some (none, τX))
    (hM : prun Λ N d 188 0 [(0, .ref (pnc τX))] [] (mkc τX 0 12 60) = some (none, τM))
    (hk : prun Λ N (d + 1) NM 18 [(0, .retAddr 0), (1, .ref 0), (2, .ref (pnc τX)), (3, .int 0)] [] τM = some r) :
    prun Λ (N + 10) (d + 1) NM 0 [(0, .retAddr 0)] [] σ00 = some r := by
  refine (prun_S (pc2 := 3) (st2 := [.ref 0]) (σ2 := mkc σ00 0 11 11) gL_law_0.1 rfl (pS_new (y := 11) rfl)).trans ?_
  refine (prun_S (pc2 := 4) (st2 := [.ref 0, .ref 0]) (σ2 := mkc σ00 0 11 11) gL_law_0.2.1 rfl rfl).trans ?_
  refine (prun_C (k := 1) (idx := 9) (y := 138) (as := [.ref 0]) (rest := [.ref 0]) gL_law_0.2.2.1 rfl rfl rfl rfl rfl ⟨by decide, by decide, vok_new (σ := σ00) rfl⟩ (prun_up hX (by omega))).trans ?_
  refine (prun_L (L2 := [(0, .retAddr 0), (1, .ref 0)]) (st2 := []) gL_law_0.2.2.2.1 rfl rfl).trans ?_
  refine (prun_S (pc2 := 11) (st2 := [.ref (pnc τX)]) (σ2 := mkc τX 0 12 60) gL_law_0.2.2.2.2.1 rfl (pS_new (y := 12) rfl)).trans ?_
  refine (prun_S (pc2 := 12) (st2 := [.ref (pnc τX), .ref (pnc τX)]) (σ2 := mkc τX 0 12 60) gL_law_0.2.2.2.2.2.1 rfl rfl).trans ?_
  refine (prun_C (k := 1) (idx := 12) (y := 188) (as := [.ref (pnc τX)]) (rest := [.ref (pnc τX)]) gL_law_0.2.2.2.2.2.2.1 rfl rfl rfl rfl rfl ⟨Nat.le_of_ble_eq_true rfl, Nat.le_of_ble_eq_true rfl, vok_new rfl⟩ (prun_up hM (by omega))).trans ?_
  refine (prun_L (L2 := [(0, .retAddr 0), (1, .ref 0), (2, .ref (pnc τX))]) (st2 := []) gL_law_0.2.2.2.2.2.2.2.1 rfl rfl).trans ?_
  refine (prun_S (pc2 := 17) (st2 := [.int 0]) (σ2 := τM) gL_law_0.2.2.2.2.2.2.2.2.1 rfl rfl).trans ?_
  refine (prun_L (L2 := [(0, .retAddr 0), (1, .ref 0), (2, .ref (pnc τX)), (3, .int 0)]) (st2 := []) gL_law_0.2.2.2.2.2.2.2.2.2.1 rfl rfl).trans ?_
  exact hk
theorem p_run_gen {L : Nat} {xs : Nat → Int32} {τX τM : PSt} {q' : SS} (hX : prun LAM0 1500 12 138 0 [(0, .ref 0)] [] (mkc σ00 0 11 11) = some (none, τX)) (hM : prun LAM0 1500 12 188 0 [(0, .ref (pnc τX))] [] (mkc τX 0 12 60) = some (none, τM)) (h60 : pnc τX = 60) (hE : GE (L, xs, τM)) (h : f_L_law L xs (qof τM) 0 = some (1, q')) : ∃ n, prun (LAM L xs) n 906 NM 0 [(0, .retAddr 0)] [] σ00 = some (some (.int 1), mk (L, xs, τM) q') := by
  obtain ⟨n, hn⟩ := e_L_law hE (qof τM) 0 (1, q') h
  rw [mk_eta] at hn
  have hn2 := prun_up hn (Nat.le_max_left n 1500)
  have hX2 := prun_mono _ (LAM L xs) (Or.inl rfl) _ _ _ _ _ _ _ _ hX (max n 1500) (905) [(0, .ref 0)] (Nat.le_max_right _ _) (by decide) (fun _ _ h => h)
  have hM2 := prun_mono _ (LAM L xs) (Or.inl rfl) _ _ _ _ _ _ _ _ hM (max n 1500) (905) [(0, .ref (pnc τX))] (Nat.le_max_right _ _) (by decide) (fun _ _ h => h)
  exact ⟨_, law_pre hX2 hM2 (by rw [h60]; exact hn2)⟩
theorem mk_small {L : Nat} {xs : Nat → Int32} {τ : PSt} {q : SS} (h1 : pnc τ = 93) (h2 : pns τ ≤ 7302250) : pnc (mk (L, xs, τ) q) ≤ 600000 ∧ pns (mk (L, xs, τ) q) ≤ 7302250 := by
  refine ⟨?_, h2⟩
  show pnc τ ≤ 600000
  omega
theorem p_run {L : Nat} {xs : Nat → Int32} {q' : SS} (h : f_L_law L xs (qof σM) 0 = some (1, q')) : ∃ n τ, prun (LAM L xs) n 906 NM 0 [(0, .retAddr 0)] [] σ00 = some (some (.int 1), τ) ∧ pnc τ ≤ 600000 ∧ pns τ ≤ 7302250 := by
  have h1 := runX_ok
  have h2 := runM_ok
  unfold runX at h1
  unfold runM at h2
  obtain ⟨n, hn⟩ := p_run_gen h1 h2 pnc_X (ge_M L xs) h
  exact ⟨n, _, hn, mk_small (ge_M L xs).1 pns_M⟩

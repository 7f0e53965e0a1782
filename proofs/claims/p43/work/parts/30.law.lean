/-! ===== THE LAW'S RUN: the two objects are made, then the loop ===== -/
theorem pS_new {Λ : PRo} {ini : Bool} {c pc pc' k y : Nat} {σ : PSt} {st : List Value} (h : nw c k = some y) : pS Λ ini c pc pc' σ (.new k) st = some (pc', .ref (pnc σ) :: st, mkc σ 0 y (nF y)) := by
  show Option.map _ (nw c k) = _
  rw [h]
  rfl
theorem vok_new {y ci k n : Nat} {σ : PSt} {as : List Value} (hc : mC y = ci) : vOk k y (.ref (pnc σ) :: as) (mkc σ 0 ci n) = true := by
  unfold vOk
  cases Nat.beq k 2 with
  | true => rfl
  | false =>
    have e : ply (mkc σ 0 ci n) (pnc σ) = (0, ci) := up1_s
    show (Nat.blt (pnc σ) (pnc σ + 1) && (Nat.beq (ply (mkc σ 0 ci n) (pnc σ)).1 0 && Nat.beq (ply (mkc σ 0 ci n) (pnc σ)).2 (mC y))) = true
    rw [e, hc]
    have : Nat.blt (pnc σ) (pnc σ + 1) = true := Nat.ble_eq_true_of_le (Nat.le_refl _)
    rw [this]
    show (true && (true && Nat.beq ci ci)) = true
    rw [Nat.beq_refl]
    rfl
theorem prun_up {Λ : PRo} {n n' d m pc : Nat} {L : PL} {st : List Value} {σ : PSt} {r : Option Value × PSt} (h : prun Λ n d m pc L st σ = some r) (hn : n ≤ n') : prun Λ n' d m pc L st σ = some r := prun_mono _ _ (Or.inr rfl) _ _ _ _ _ _ _ _ h _ _ _ hn (Nat.le_refl _) (fun _ _ h => h)
theorem law_pre {Λ : PRo} {τX τM : PSt} {N d : Nat} {r : Option Value × PSt}
    (hX : prun Λ N d 138 0 [(0, .ref 0)] [] (mkc σ00 0 11 11) = some (none, τX))
    (hM : prun Λ N d 188 0 [(0, .ref (pnc τX))] [] (mkc τX 0 12 60) = some (none, τM))
    (hk : prun Λ N (d + 1) NM 18 [(0, .retAddr 0), (1, .ref 0), (2, .ref (pnc τX)), (3, .int 0)] [] τM = some r) :
    prun Λ (N + 10) (d + 1) NM 0 [(0, .retAddr 0)] [] σ00 = some r := by
  refine (prun_S (pc2 := 3) (st2 := [.ref 0]) (σ2 := mkc σ00 0 11 11) gL_law_0.1 rfl (pS_new (y := 11) rfl)).trans ?_
  refine (prun_S (pc2 := 4) (st2 := [.ref 0, .ref 0]) (σ2 := mkc σ00 0 11 11) gL_law_0.2.1 rfl rfl).trans ?_
  refine (prun_C (k := 1) (idx := 9) (y := 138) (as := [.ref 0]) (rest := [.ref 0]) gL_law_0.2.2.1 rfl rfl rfl rfl rfl ⟨by decide, by decide, vok_new (σ := σ00) rfl⟩ (prun_up hX (by omega))).trans ?_
  refine (prun_L (L2 := [(0, .retAddr 0), (1, .ref 0)]) (st2 := []) gL_law_0.2.2.2.1 rfl rfl).trans ?_
  refine (prun_S (pc2 := 11) (st2 := [.ref (pnc τX)]) (σ2 := mkc τX 0 12 60) gL_law_0.2.2.2.2.1 rfl (pS_new (y := 12) rfl)).trans ?_
  refine (prun_S (pc2 := 12) (st2 := [.ref (pnc τX), .ref (pnc τX)]) (σ2 := mkc τX 0 12 60) gL_law_0.2.2.2.2.2.1 rfl rfl).trans ?_
  refine (prun_C (k := 1) (idx := 12) (y := 188) (as := [.ref (pnc τX)]) (rest := [.ref (pnc τX)]) gL_law_0.2.2.2.2.2.2.1 rfl rfl rfl rfl rfl ⟨Nat.le_of_ble_eq_true rfl, Nat.le_of_ble_eq_true rfl, vok_new rfl⟩ (prun_up hM (by omega))).trans ?_
  refine (prun_L (L2 := [(0, .retAddr 0), (1, .ref 0), (2, .ref (pnc τX))]) (st2 := []) gL_law_0.2.2.2.2.2.2.2.1 rfl rfl).trans ?_
  refine (prun_S (pc2 := 17) (st2 := [.int 0]) (σ2 := τM) gL_law_0.2.2.2.2.2.2.2.2.1 rfl rfl).trans ?_
  refine (prun_L (L2 := [(0, .retAddr 0), (1, .ref 0), (2, .ref (pnc τX)), (3, .int 0)]) (st2 := []) gL_law_0.2.2.2.2.2.2.2.2.2.1 rfl rfl).trans ?_
  exact hk
theorem p_run_gen {L : Nat} {xs : Nat → Int32} {τX τM : PSt} {q' : SS} (hX : prun LAM0 1500 12 138 0 [(0, .ref 0)] [] (mkc σ00 0 11 11) = some (none, τX)) (hM : prun LAM0 1500 12 188 0 [(0, .ref (pnc τX))] [] (mkc τX 0 12 60) = some (none, τM)) (h60 : pnc τX = 60) (hE : GE (L, xs, τM)) (h : f_L_law L xs (qof τM) 0 = some (1, q')) : ∃ n, prun (LAM L xs) n 906 NM 0 [(0, .retAddr 0)] [] σ00 = some (some (.int 1), mk (L, xs, τM) q') := by
  obtain ⟨n, hn⟩ := e_L_law hE (qof τM) 0 (1, q') h
  rw [mk_eta] at hn
  have hn2 := prun_up hn (Nat.le_max_left n 1500)
  have hX2 := prun_mono _ (LAM L xs) (Or.inl rfl) _ _ _ _ _ _ _ _ hX (max n 1500) (905) [(0, .ref 0)] (Nat.le_max_right _ _) (by decide) (fun _ _ h => h)
  have hM2 := prun_mono _ (LAM L xs) (Or.inl rfl) _ _ _ _ _ _ _ _ hM (max n 1500) (905) [(0, .ref (pnc τX))] (Nat.le_max_right _ _) (by decide) (fun _ _ h => h)
  exact ⟨_, law_pre hX2 hM2 (by rw [h60]; exact hn2)⟩
theorem mk_small {L : Nat} {xs : Nat → Int32} {τ : PSt} {q : SS} (h1 : pnc τ = 93) (h2 : pns τ ≤ 7302250) : pnc (mk (L, xs, τ) q) ≤ 600000 ∧ pns (mk (L, xs, τ) q) ≤ 7302250 := by
  refine ⟨?_, h2⟩
  show pnc τ ≤ 600000
  omega
theorem p_run {L : Nat} {xs : Nat → Int32} {q' : SS} (h : f_L_law L xs (qof σM) 0 = some (1, q')) : ∃ n τ, prun (LAM L xs) n 906 NM 0 [(0, .retAddr 0)] [] σ00 = some (some (.int 1), τ) ∧ pnc τ ≤ 600000 ∧ pns τ ≤ 7302250 := by
  have h1 := runX_ok
  have h2 := runM_ok
  unfold runX at h1
  unfold runM at h2
  obtain ⟨n, hn⟩ := p_run_gen h1 h2 pnc_X (ge_M L xs) h
  exact ⟨n, _, hn, mk_small (ge_M L xs).1 pns_M⟩
/-! ===== a run's answer, and what holds of it ===== -/
def T {ρ : Type} (o : Option ρ) (P : ρ → Prop) : Prop := ∃ r, o = some r ∧ P r
theorem T_some {ρ : Type} {r : ρ} {P : ρ → Prop} : T (some r) P ↔ P r := ⟨fun ⟨_, h, k⟩ => by cases h; exact k, fun h => ⟨_, rfl, h⟩⟩
theorem T_none {ρ : Type} {P : ρ → Prop} : T (none : Option ρ) P ↔ False := ⟨fun ⟨_, h, _⟩ => (by cases h), fun h => h.elim⟩
theorem T_bind {α ρ : Type} {o : Option α} {f : α → Option ρ} {P : ρ → Prop} : T (o.bind f) P ↔ T o (fun r => T (f r) P) := by
  cases o with
  | none => simp [T_none]
  | some x => simp [T_some]
theorem T_ite {ρ : Type} {c : Prop} [Decidable c] {a b : Option ρ} {P : ρ → Prop} : T (if c then a else b) P ↔ (c → T a P) ∧ (¬ c → T b P) := by
  by_cases h : c <;> simp [h]
theorem T_chk {ρ : Type} {c : Prop} [Decidable c] {a : Option ρ} {P : ρ → Prop} : T (if c then a else none) P ↔ c ∧ (c → T a P) := by
  by_cases h : c <;> simp [h, T_none]
theorem nm_eq {α β : Type} (e : α) (k : α → β) : nm e k = k e := rfl
theorem fu_s : FU = 999999 + 1 := rfl
theorem fx1_s {A0 ρ : Type} {F : (A0 → Option ρ) → A0 → Option ρ} {a0 : A0} : fx1 F FU a0 = F (fx1 F 999999) a0 := rfl
theorem fx2_s {A0 A1 ρ : Type} {F : (A0 → A1 → Option ρ) → A0 → A1 → Option ρ} {a0 : A0} {a1 : A1} : fx2 F FU a0 a1 = F (fx2 F 999999) a0 a1 := rfl
theorem fx3_s {A0 A1 A2 ρ : Type} {F : (A0 → A1 → A2 → Option ρ) → A0 → A1 → A2 → Option ρ} {a0 : A0} {a1 : A1} {a2 : A2} : fx3 F FU a0 a1 a2 = F (fx3 F 999999) a0 a1 a2 := rfl
theorem fx4_s {A0 A1 A2 A3 ρ : Type} {F : (A0 → A1 → A2 → A3 → Option ρ) → A0 → A1 → A2 → A3 → Option ρ} {a0 : A0} {a1 : A1} {a2 : A2} {a3 : A3} : fx4 F FU a0 a1 a2 a3 = F (fx4 F 999999) a0 a1 a2 a3 := rfl
theorem fx5_s {A0 A1 A2 A3 A4 ρ : Type} {F : (A0 → A1 → A2 → A3 → A4 → Option ρ) → A0 → A1 → A2 → A3 → A4 → Option ρ} {a0 : A0} {a1 : A1} {a2 : A2} {a3 : A3} {a4 : A4} : fx5 F FU a0 a1 a2 a3 a4 = F (fx5 F 999999) a0 a1 a2 a3 a4 := rfl
theorem fx6_s {A0 A1 A2 A3 A4 A5 ρ : Type} {F : (A0 → A1 → A2 → A3 → A4 → A5 → Option ρ) → A0 → A1 → A2 → A3 → A4 → A5 → Option ρ} {a0 : A0} {a1 : A1} {a2 : A2} {a3 : A3} {a4 : A4} {a5 : A5} : fx6 F FU a0 a1 a2 a3 a4 a5 = F (fx6 F 999999) a0 a1 a2 a3 a4 a5 := rfl
theorem fx7_s {A0 A1 A2 A3 A4 A5 A6 ρ : Type} {F : (A0 → A1 → A2 → A3 → A4 → A5 → A6 → Option ρ) → A0 → A1 → A2 → A3 → A4 → A5 → A6 → Option ρ} {a0 : A0} {a1 : A1} {a2 : A2} {a3 : A3} {a4 : A4} {a5 : A5} {a6 : A6} : fx7 F FU a0 a1 a2 a3 a4 a5 a6 = F (fx7 F 999999) a0 a1 a2 a3 a4 a5 a6 := rfl
theorem fx8_s {A0 A1 A2 A3 A4 A5 A6 A7 ρ : Type} {F : (A0 → A1 → A2 → A3 → A4 → A5 → A6 → A7 → Option ρ) → A0 → A1 → A2 → A3 → A4 → A5 → A6 → A7 → Option ρ} {a0 : A0} {a1 : A1} {a2 : A2} {a3 : A3} {a4 : A4} {a5 : A5} {a6 : A6} {a7 : A7} : fx8 F FU a0 a1 a2 a3 a4 a5 a6 a7 = F (fx8 F 999999) a0 a1 a2 a3 a4 a5 a6 a7 := rfl
theorem fx9_s {A0 A1 A2 A3 A4 A5 A6 A7 A8 ρ : Type} {F : (A0 → A1 → A2 → A3 → A4 → A5 → A6 → A7 → A8 → Option ρ) → A0 → A1 → A2 → A3 → A4 → A5 → A6 → A7 → A8 → Option ρ} {a0 : A0} {a1 : A1} {a2 : A2} {a3 : A3} {a4 : A4} {a5 : A5} {a6 : A6} {a7 : A7} {a8 : A8} : fx9 F FU a0 a1 a2 a3 a4 a5 a6 a7 a8 = F (fx9 F 999999) a0 a1 a2 a3 a4 a5 a6 a7 a8 := rfl
theorem fx10_s {A0 A1 A2 A3 A4 A5 A6 A7 A8 A9 ρ : Type} {F : (A0 → A1 → A2 → A3 → A4 → A5 → A6 → A7 → A8 → A9 → Option ρ) → A0 → A1 → A2 → A3 → A4 → A5 → A6 → A7 → A8 → A9 → Option ρ} {a0 : A0} {a1 : A1} {a2 : A2} {a3 : A3} {a4 : A4} {a5 : A5} {a6 : A6} {a7 : A7} {a8 : A8} {a9 : A9} : fx10 F FU a0 a1 a2 a3 a4 a5 a6 a7 a8 a9 = F (fx10 F 999999) a0 a1 a2 a3 a4 a5 a6 a7 a8 a9 := rfl
theorem fx11_s {A0 A1 A2 A3 A4 A5 A6 A7 A8 A9 A10 ρ : Type} {F : (A0 → A1 → A2 → A3 → A4 → A5 → A6 → A7 → A8 → A9 → A10 → Option ρ) → A0 → A1 → A2 → A3 → A4 → A5 → A6 → A7 → A8 → A9 → A10 → Option ρ} {a0 : A0} {a1 : A1} {a2 : A2} {a3 : A3} {a4 : A4} {a5 : A5} {a6 : A6} {a7 : A7} {a8 : A8} {a9 : A9} {a10 : A10} : fx11 F FU a0 a1 a2 a3 a4 a5 a6 a7 a8 a9 a10 = F (fx11 F 999999) a0 a1 a2 a3 a4 a5 a6 a7 a8 a9 a10 := rfl
theorem fx12_s {A0 A1 A2 A3 A4 A5 A6 A7 A8 A9 A10 A11 ρ : Type} {F : (A0 → A1 → A2 → A3 → A4 → A5 → A6 → A7 → A8 → A9 → A10 → A11 → Option ρ) → A0 → A1 → A2 → A3 → A4 → A5 → A6 → A7 → A8 → A9 → A10 → A11 → Option ρ} {a0 : A0} {a1 : A1} {a2 : A2} {a3 : A3} {a4 : A4} {a5 : A5} {a6 : A6} {a7 : A7} {a8 : A8} {a9 : A9} {a10 : A10} {a11 : A11} : fx12 F FU a0 a1 a2 a3 a4 a5 a6 a7 a8 a9 a10 a11 = F (fx12 F 999999) a0 a1 a2 a3 a4 a5 a6 a7 a8 a9 a10 a11 := rfl
theorem stv3_0 : stV 3 0 = 12 := rfl
theorem stv3_1 : stV 3 1 = 1 := rfl
theorem stv3_2 : stV 3 2 = 99 := rfl
theorem stv3_3 : stV 3 3 = 9 := rfl
theorem stv3_4 : stV 3 4 = 5 := rfl
theorem stv3_5 : stV 3 5 = 1 := rfl
theorem stv3_6 : stV 3 6 = 4 := rfl
theorem stv3_7 : stV 3 7 = 11 := rfl
theorem stv3_8 : stV 3 8 = 9 := rfl
theorem T_fx1 {A0 ρ : Type} {P : ρ → Prop} {F : (A0 → Option ρ) → A0 → Option ρ} (I : A0 → Prop) (μ : A0 → Nat) (h : ∀ rec a0, I a0 → (∀ b0, I b0 → μ b0 < μ a0 → T (rec b0) P) → T (F rec a0) P) : ∀ n a0, I a0 → μ a0 < n → T (fx1 F n a0) P
  | 0, _, _, hm => absurd hm (Nat.not_lt_zero _)
  | n + 1, a0, hI, hm => h _ a0 hI (fun b0 hb hl => T_fx1 I μ h n b0 hb (by omega))
theorem T_fx2 {A0 A1 ρ : Type} {P : ρ → Prop} {F : (A0 → A1 → Option ρ) → A0 → A1 → Option ρ} (I : A0 → A1 → Prop) (μ : A0 → A1 → Nat) (h : ∀ rec a0 a1, I a0 a1 → (∀ b0 b1, I b0 b1 → μ b0 b1 < μ a0 a1 → T (rec b0 b1) P) → T (F rec a0 a1) P) : ∀ n a0 a1, I a0 a1 → μ a0 a1 < n → T (fx2 F n a0 a1) P
  | 0, _, _, _, hm => absurd hm (Nat.not_lt_zero _)
  | n + 1, a0, a1, hI, hm => h _ a0 a1 hI (fun b0 b1 hb hl => T_fx2 I μ h n b0 b1 hb (by omega))
theorem T_fx3 {A0 A1 A2 ρ : Type} {P : ρ → Prop} {F : (A0 → A1 → A2 → Option ρ) → A0 → A1 → A2 → Option ρ} (I : A0 → A1 → A2 → Prop) (μ : A0 → A1 → A2 → Nat) (h : ∀ rec a0 a1 a2, I a0 a1 a2 → (∀ b0 b1 b2, I b0 b1 b2 → μ b0 b1 b2 < μ a0 a1 a2 → T (rec b0 b1 b2) P) → T (F rec a0 a1 a2) P) : ∀ n a0 a1 a2, I a0 a1 a2 → μ a0 a1 a2 < n → T (fx3 F n a0 a1 a2) P
  | 0, _, _, _, _, hm => absurd hm (Nat.not_lt_zero _)
  | n + 1, a0, a1, a2, hI, hm => h _ a0 a1 a2 hI (fun b0 b1 b2 hb hl => T_fx3 I μ h n b0 b1 b2 hb (by omega))
theorem T_fx4 {A0 A1 A2 A3 ρ : Type} {P : ρ → Prop} {F : (A0 → A1 → A2 → A3 → Option ρ) → A0 → A1 → A2 → A3 → Option ρ} (I : A0 → A1 → A2 → A3 → Prop) (μ : A0 → A1 → A2 → A3 → Nat) (h : ∀ rec a0 a1 a2 a3, I a0 a1 a2 a3 → (∀ b0 b1 b2 b3, I b0 b1 b2 b3 → μ b0 b1 b2 b3 < μ a0 a1 a2 a3 → T (rec b0 b1 b2 b3) P) → T (F rec a0 a1 a2 a3) P) : ∀ n a0 a1 a2 a3, I a0 a1 a2 a3 → μ a0 a1 a2 a3 < n → T (fx4 F n a0 a1 a2 a3) P
  | 0, _, _, _, _, _, hm => absurd hm (Nat.not_lt_zero _)
  | n + 1, a0, a1, a2, a3, hI, hm => h _ a0 a1 a2 a3 hI (fun b0 b1 b2 b3 hb hl => T_fx4 I μ h n b0 b1 b2 b3 hb (by omega))
theorem T_fx5 {A0 A1 A2 A3 A4 ρ : Type} {P : ρ → Prop} {F : (A0 → A1 → A2 → A3 → A4 → Option ρ) → A0 → A1 → A2 → A3 → A4 → Option ρ} (I : A0 → A1 → A2 → A3 → A4 → Prop) (μ : A0 → A1 → A2 → A3 → A4 → Nat) (h : ∀ rec a0 a1 a2 a3 a4, I a0 a1 a2 a3 a4 → (∀ b0 b1 b2 b3 b4, I b0 b1 b2 b3 b4 → μ b0 b1 b2 b3 b4 < μ a0 a1 a2 a3 a4 → T (rec b0 b1 b2 b3 b4) P) → T (F rec a0 a1 a2 a3 a4) P) : ∀ n a0 a1 a2 a3 a4, I a0 a1 a2 a3 a4 → μ a0 a1 a2 a3 a4 < n → T (fx5 F n a0 a1 a2 a3 a4) P
  | 0, _, _, _, _, _, _, hm => absurd hm (Nat.not_lt_zero _)
  | n + 1, a0, a1, a2, a3, a4, hI, hm => h _ a0 a1 a2 a3 a4 hI (fun b0 b1 b2 b3 b4 hb hl => T_fx5 I μ h n b0 b1 b2 b3 b4 hb (by omega))
theorem T_fx6 {A0 A1 A2 A3 A4 A5 ρ : Type} {P : ρ → Prop} {F : (A0 → A1 → A2 → A3 → A4 → A5 → Option ρ) → A0 → A1 → A2 → A3 → A4 → A5 → Option ρ} (I : A0 → A1 → A2 → A3 → A4 → A5 → Prop) (μ : A0 → A1 → A2 → A3 → A4 → A5 → Nat) (h : ∀ rec a0 a1 a2 a3 a4 a5, I a0 a1 a2 a3 a4 a5 → (∀ b0 b1 b2 b3 b4 b5, I b0 b1 b2 b3 b4 b5 → μ b0 b1 b2 b3 b4 b5 < μ a0 a1 a2 a3 a4 a5 → T (rec b0 b1 b2 b3 b4 b5) P) → T (F rec a0 a1 a2 a3 a4 a5) P) : ∀ n a0 a1 a2 a3 a4 a5, I a0 a1 a2 a3 a4 a5 → μ a0 a1 a2 a3 a4 a5 < n → T (fx6 F n a0 a1 a2 a3 a4 a5) P
  | 0, _, _, _, _, _, _, _, hm => absurd hm (Nat.not_lt_zero _)
  | n + 1, a0, a1, a2, a3, a4, a5, hI, hm => h _ a0 a1 a2 a3 a4 a5 hI (fun b0 b1 b2 b3 b4 b5 hb hl => T_fx6 I μ h n b0 b1 b2 b3 b4 b5 hb (by omega))
theorem T_fx7 {A0 A1 A2 A3 A4 A5 A6 ρ : Type} {P : ρ → Prop} {F : (A0 → A1 → A2 → A3 → A4 → A5 → A6 → Option ρ) → A0 → A1 → A2 → A3 → A4 → A5 → A6 → Option ρ} (I : A0 → A1 → A2 → A3 → A4 → A5 → A6 → Prop) (μ : A0 → A1 → A2 → A3 → A4 → A5 → A6 → Nat) (h : ∀ rec a0 a1 a2 a3 a4 a5 a6, I a0 a1 a2 a3 a4 a5 a6 → (∀ b0 b1 b2 b3 b4 b5 b6, I b0 b1 b2 b3 b4 b5 b6 → μ b0 b1 b2 b3 b4 b5 b6 < μ a0 a1 a2 a3 a4 a5 a6 → T (rec b0 b1 b2 b3 b4 b5 b6) P) → T (F rec a0 a1 a2 a3 a4 a5 a6) P) : ∀ n a0 a1 a2 a3 a4 a5 a6, I a0 a1 a2 a3 a4 a5 a6 → μ a0 a1 a2 a3 a4 a5 a6 < n → T (fx7 F n a0 a1 a2 a3 a4 a5 a6) P
  | 0, _, _, _, _, _, _, _, _, hm => absurd hm (Nat.not_lt_zero _)
  | n + 1, a0, a1, a2, a3, a4, a5, a6, hI, hm => h _ a0 a1 a2 a3 a4 a5 a6 hI (fun b0 b1 b2 b3 b4 b5 b6 hb hl => T_fx7 I μ h n b0 b1 b2 b3 b4 b5 b6 hb (by omega))
theorem T_fx8 {A0 A1 A2 A3 A4 A5 A6 A7 ρ : Type} {P : ρ → Prop} {F : (A0 → A1 → A2 → A3 → A4 → A5 → A6 → A7 → Option ρ) → A0 → A1 → A2 → A3 → A4 → A5 → A6 → A7 → Option ρ} (I : A0 → A1 → A2 → A3 → A4 → A5 → A6 → A7 → Prop) (μ : A0 → A1 → A2 → A3 → A4 → A5 → A6 → A7 → Nat) (h : ∀ rec a0 a1 a2 a3 a4 a5 a6 a7, I a0 a1 a2 a3 a4 a5 a6 a7 → (∀ b0 b1 b2 b3 b4 b5 b6 b7, I b0 b1 b2 b3 b4 b5 b6 b7 → μ b0 b1 b2 b3 b4 b5 b6 b7 < μ a0 a1 a2 a3 a4 a5 a6 a7 → T (rec b0 b1 b2 b3 b4 b5 b6 b7) P) → T (F rec a0 a1 a2 a3 a4 a5 a6 a7) P) : ∀ n a0 a1 a2 a3 a4 a5 a6 a7, I a0 a1 a2 a3 a4 a5 a6 a7 → μ a0 a1 a2 a3 a4 a5 a6 a7 < n → T (fx8 F n a0 a1 a2 a3 a4 a5 a6 a7) P
  | 0, _, _, _, _, _, _, _, _, _, hm => absurd hm (Nat.not_lt_zero _)
  | n + 1, a0, a1, a2, a3, a4, a5, a6, a7, hI, hm => h _ a0 a1 a2 a3 a4 a5 a6 a7 hI (fun b0 b1 b2 b3 b4 b5 b6 b7 hb hl => T_fx8 I μ h n b0 b1 b2 b3 b4 b5 b6 b7 hb (by omega))
theorem T_fx9 {A0 A1 A2 A3 A4 A5 A6 A7 A8 ρ : Type} {P : ρ → Prop} {F : (A0 → A1 → A2 → A3 → A4 → A5 → A6 → A7 → A8 → Option ρ) → A0 → A1 → A2 → A3 → A4 → A5 → A6 → A7 → A8 → Option ρ} (I : A0 → A1 → A2 → A3 → A4 → A5 → A6 → A7 → A8 → Prop) (μ : A0 → A1 → A2 → A3 → A4 → A5 → A6 → A7 → A8 → Nat) (h : ∀ rec a0 a1 a2 a3 a4 a5 a6 a7 a8, I a0 a1 a2 a3 a4 a5 a6 a7 a8 → (∀ b0 b1 b2 b3 b4 b5 b6 b7 b8, I b0 b1 b2 b3 b4 b5 b6 b7 b8 → μ b0 b1 b2 b3 b4 b5 b6 b7 b8 < μ a0 a1 a2 a3 a4 a5 a6 a7 a8 → T (rec b0 b1 b2 b3 b4 b5 b6 b7 b8) P) → T (F rec a0 a1 a2 a3 a4 a5 a6 a7 a8) P) : ∀ n a0 a1 a2 a3 a4 a5 a6 a7 a8, I a0 a1 a2 a3 a4 a5 a6 a7 a8 → μ a0 a1 a2 a3 a4 a5 a6 a7 a8 < n → T (fx9 F n a0 a1 a2 a3 a4 a5 a6 a7 a8) P
  | 0, _, _, _, _, _, _, _, _, _, _, hm => absurd hm (Nat.not_lt_zero _)
  | n + 1, a0, a1, a2, a3, a4, a5, a6, a7, a8, hI, hm => h _ a0 a1 a2 a3 a4 a5 a6 a7 a8 hI (fun b0 b1 b2 b3 b4 b5 b6 b7 b8 hb hl => T_fx9 I μ h n b0 b1 b2 b3 b4 b5 b6 b7 b8 hb (by omega))
theorem T_fx10 {A0 A1 A2 A3 A4 A5 A6 A7 A8 A9 ρ : Type} {P : ρ → Prop} {F : (A0 → A1 → A2 → A3 → A4 → A5 → A6 → A7 → A8 → A9 → Option ρ) → A0 → A1 → A2 → A3 → A4 → A5 → A6 → A7 → A8 → A9 → Option ρ} (I : A0 → A1 → A2 → A3 → A4 → A5 → A6 → A7 → A8 → A9 → Prop) (μ : A0 → A1 → A2 → A3 → A4 → A5 → A6 → A7 → A8 → A9 → Nat) (h : ∀ rec a0 a1 a2 a3 a4 a5 a6 a7 a8 a9, I a0 a1 a2 a3 a4 a5 a6 a7 a8 a9 → (∀ b0 b1 b2 b3 b4 b5 b6 b7 b8 b9, I b0 b1 b2 b3 b4 b5 b6 b7 b8 b9 → μ b0 b1 b2 b3 b4 b5 b6 b7 b8 b9 < μ a0 a1 a2 a3 a4 a5 a6 a7 a8 a9 → T (rec b0 b1 b2 b3 b4 b5 b6 b7 b8 b9) P) → T (F rec a0 a1 a2 a3 a4 a5 a6 a7 a8 a9) P) : ∀ n a0 a1 a2 a3 a4 a5 a6 a7 a8 a9, I a0 a1 a2 a3 a4 a5 a6 a7 a8 a9 → μ a0 a1 a2 a3 a4 a5 a6 a7 a8 a9 < n → T (fx10 F n a0 a1 a2 a3 a4 a5 a6 a7 a8 a9) P
  | 0, _, _, _, _, _, _, _, _, _, _, _, hm => absurd hm (Nat.not_lt_zero _)
  | n + 1, a0, a1, a2, a3, a4, a5, a6, a7, a8, a9, hI, hm => h _ a0 a1 a2 a3 a4 a5 a6 a7 a8 a9 hI (fun b0 b1 b2 b3 b4 b5 b6 b7 b8 b9 hb hl => T_fx10 I μ h n b0 b1 b2 b3 b4 b5 b6 b7 b8 b9 hb (by omega))
theorem T_fx11 {A0 A1 A2 A3 A4 A5 A6 A7 A8 A9 A10 ρ : Type} {P : ρ → Prop} {F : (A0 → A1 → A2 → A3 → A4 → A5 → A6 → A7 → A8 → A9 → A10 → Option ρ) → A0 → A1 → A2 → A3 → A4 → A5 → A6 → A7 → A8 → A9 → A10 → Option ρ} (I : A0 → A1 → A2 → A3 → A4 → A5 → A6 → A7 → A8 → A9 → A10 → Prop) (μ : A0 → A1 → A2 → A3 → A4 → A5 → A6 → A7 → A8 → A9 → A10 → Nat) (h : ∀ rec a0 a1 a2 a3 a4 a5 a6 a7 a8 a9 a10, I a0 a1 a2 a3 a4 a5 a6 a7 a8 a9 a10 → (∀ b0 b1 b2 b3 b4 b5 b6 b7 b8 b9 b10, I b0 b1 b2 b3 b4 b5 b6 b7 b8 b9 b10 → μ b0 b1 b2 b3 b4 b5 b6 b7 b8 b9 b10 < μ a0 a1 a2 a3 a4 a5 a6 a7 a8 a9 a10 → T (rec b0 b1 b2 b3 b4 b5 b6 b7 b8 b9 b10) P) → T (F rec a0 a1 a2 a3 a4 a5 a6 a7 a8 a9 a10) P) : ∀ n a0 a1 a2 a3 a4 a5 a6 a7 a8 a9 a10, I a0 a1 a2 a3 a4 a5 a6 a7 a8 a9 a10 → μ a0 a1 a2 a3 a4 a5 a6 a7 a8 a9 a10 < n → T (fx11 F n a0 a1 a2 a3 a4 a5 a6 a7 a8 a9 a10) P
  | 0, _, _, _, _, _, _, _, _, _, _, _, _, hm => absurd hm (Nat.not_lt_zero _)
  | n + 1, a0, a1, a2, a3, a4, a5, a6, a7, a8, a9, a10, hI, hm => h _ a0 a1 a2 a3 a4 a5 a6 a7 a8 a9 a10 hI (fun b0 b1 b2 b3 b4 b5 b6 b7 b8 b9 b10 hb hl => T_fx11 I μ h n b0 b1 b2 b3 b4 b5 b6 b7 b8 b9 b10 hb (by omega))
theorem T_fx12 {A0 A1 A2 A3 A4 A5 A6 A7 A8 A9 A10 A11 ρ : Type} {P : ρ → Prop} {F : (A0 → A1 → A2 → A3 → A4 → A5 → A6 → A7 → A8 → A9 → A10 → A11 → Option ρ) → A0 → A1 → A2 → A3 → A4 → A5 → A6 → A7 → A8 → A9 → A10 → A11 → Option ρ} (I : A0 → A1 → A2 → A3 → A4 → A5 → A6 → A7 → A8 → A9 → A10 → A11 → Prop) (μ : A0 → A1 → A2 → A3 → A4 → A5 → A6 → A7 → A8 → A9 → A10 → A11 → Nat) (h : ∀ rec a0 a1 a2 a3 a4 a5 a6 a7 a8 a9 a10 a11, I a0 a1 a2 a3 a4 a5 a6 a7 a8 a9 a10 a11 → (∀ b0 b1 b2 b3 b4 b5 b6 b7 b8 b9 b10 b11, I b0 b1 b2 b3 b4 b5 b6 b7 b8 b9 b10 b11 → μ b0 b1 b2 b3 b4 b5 b6 b7 b8 b9 b10 b11 < μ a0 a1 a2 a3 a4 a5 a6 a7 a8 a9 a10 a11 → T (rec b0 b1 b2 b3 b4 b5 b6 b7 b8 b9 b10 b11) P) → T (F rec a0 a1 a2 a3 a4 a5 a6 a7 a8 a9 a10 a11) P) : ∀ n a0 a1 a2 a3 a4 a5 a6 a7 a8 a9 a10 a11, I a0 a1 a2 a3 a4 a5 a6 a7 a8 a9 a10 a11 → μ a0 a1 a2 a3 a4 a5 a6 a7 a8 a9 a10 a11 < n → T (fx12 F n a0 a1 a2 a3 a4 a5 a6 a7 a8 a9 a10 a11) P
  | 0, _, _, _, _, _, _, _, _, _, _, _, _, _, hm => absurd hm (Nat.not_lt_zero _)
  | n + 1, a0, a1, a2, a3, a4, a5, a6, a7, a8, a9, a10, a11, hI, hm => h _ a0 a1 a2 a3 a4 a5 a6 a7 a8 a9 a10 a11 hI (fun b0 b1 b2 b3 b4 b5 b6 b7 b8 b9 b10 b11 hb hl => T_fx12 I μ h n b0 b1 b2 b3 b4 b5 b6 b7 b8 b9 b10 b11 hb (by omega))
/-! ===== small facts: T, reads, ints ===== -/
theorem bind_s {α ρ : Type} (x : α) (f : α → Option ρ) : (some x).bind f = f x := rfl
theorem T_of {ρ : Type} {o : Option ρ} {r : ρ} {P : ρ → Prop} (h : o = some r) (hp : P r) : T o P := ⟨r, h, hp⟩
theorem T_mono {ρ : Type} {o : Option ρ} {P Q : ρ → Prop} (h : T o P) (hq : ∀ r, P r → Q r) : T o Q := by
  obtain ⟨r, h1, h2⟩ := h
  exact ⟨r, h1, hq r h2⟩
theorem T_b {α ρ : Type} {o : Option α} {f : α → Option ρ} {P : ρ → Prop} {Q : α → Prop} (h : T o Q) (k : ∀ r, Q r → T (f r) P) : T (o.bind f) P := by
  obtain ⟨r, h1, h2⟩ := h
  rw [h1]
  exact k r h2
theorem T_i {ρ : Type} {c : Prop} [Decidable c] {a b : Option ρ} {P : ρ → Prop} (h1 : c → T a P) (h2 : ¬ c → T b P) : T (if c then a else b) P := by
  by_cases h : c
  · rw [if_pos h]; exact h1 h
  · rw [if_neg h]; exact h2 h
theorem T_c {ρ : Type} {c : Prop} [Decidable c] {a : Option ρ} {P : ρ → Prop} (h : c) (h1 : T a P) : T (if c then a else none) P := by
  rw [if_pos h]; exact h1
theorem T_n {ρ : Type} {c : Prop} [Decidable c] {a : Option ρ} {P : ρ → Prop} (h : ¬ c) (h1 : T a P) : T (if c then none else a) P := by
  rw [if_neg h]; exact h1
theorem T_sw {ρ : Type} {P : ρ → Prop} {x : Int32} {k : Int} {o1 d : Option ρ} {t : List (Int × Option ρ)} (h : x.toInt = k → T o1 P) (h2 : x.toInt ≠ k → T (sw x t d) P) : T (sw x ((k, o1) :: t) d) P := by
  show T (if x.toInt = k then o1 else sw x t d) P
  by_cases g : x.toInt = k
  · rw [if_pos g]; exact h g
  · rw [if_neg g]; exact h2 g
theorem T_sw0 {ρ : Type} {P : ρ → Prop} {x : Int32} {d : Option ρ} (h : T d P) : T (sw x [] d) P := h
theorem sI_rd {q : SS} {o i a j : Nat} {x : Int32} : (sI q o i x).1 a j = if a = o ∧ j = i then x else q.1 a j := rfl
theorem sI_rl {q : SS} {o i : Nat} {x : Int32} : (sI q o i x).2 = q.2 := rfl
theorem sL_rd {q : SS} {o i a j : Nat} {x : Int64} : (sL q o i x).2 a j = if a = o ∧ j = i then x else q.2 a j := rfl
theorem sL_ri {q : SS} {o i : Nat} {x : Int64} : (sL q o i x).1 = q.1 := rfl
theorem sR_rd {q : SS} {o a : Nat} {f : Nat → Int32} {j : Nat} : (sR q o f).1 a j = if a = o then f j else q.1 a j := by
  unfold sR up1
  dsimp only
  by_cases h : a = o <;> simp [h]
theorem sR_rl {q : SS} {o : Nat} {f : Nat → Int32} : (sR q o f).2 = q.2 := rfl
theorem sRL_rd {q : SS} {o a : Nat} {f : Nat → Int64} {j : Nat} : (sRL q o f).2 a j = if a = o then f j else q.2 a j := by
  unfold sRL up1
  dsimp only
  by_cases h : a = o <;> simp [h]
theorem sRL_ri {q : SS} {o : Nat} {f : Nat → Int64} : (sRL q o f).1 = q.1 := rfl
/-- a row that isn't written -/
theorem sI_ro {q : SS} {o i a : Nat} {x : Int32} (h : a ≠ o) : (sI q o i x).1 a = q.1 a := up2_n h
theorem sL_ro {q : SS} {o i a : Nat} {x : Int64} (h : a ≠ o) : (sL q o i x).2 a = q.2 a := up2_n h
theorem tadd {a b : Int32} (h1 : -2147483648 ≤ a.toInt + b.toInt) (h2 : a.toInt + b.toInt < 2147483648) : (a + b).toInt = a.toInt + b.toInt := by
  rw [Int32.toInt_add]
  exact Int.bmod_eq_of_le (by omega) (by omega)
theorem tsub {a b : Int32} (h1 : -2147483648 ≤ a.toInt - b.toInt) (h2 : a.toInt - b.toInt < 2147483648) : (a - b).toInt = a.toInt - b.toInt := by
  rw [Int32.toInt_sub]
  exact Int.bmod_eq_of_le (by omega) (by omega)
theorem tmul {a b : Int32} (h1 : -2147483648 ≤ a.toInt * b.toInt) (h2 : a.toInt * b.toInt < 2147483648) : (a * b).toInt = a.toInt * b.toInt := by
  rw [Int32.toInt_mul]
  exact Int.bmod_eq_of_le (by omega) (by omega)
theorem cn_eq {a : Int32} : a.toNatClampNeg = a.toInt.toNat := rfl
/-! ===== WHAT HOLDS BETWEEN CALLS: the class's cells and the model's, group by group ===== -/
abbrev okN (P K w n : Int) : Prop := (0 ≤ w ∧ w ≤ 3 ∧ 0 ≤ n ∧ n < P) ∨ (4 ≤ w ∧ w ≤ 6 ∧ 0 ≤ n ∧ n < K) ∨ (7 ≤ w ∧ w ≤ 8 ∧ n = 0)
abbrev okV (P w v : Int) : Prop := 0 ≤ v ∧ (w = 0 → v ≤ 12) ∧ (w = 1 → v ≤ 1) ∧ (w = 2 → v ≤ 99) ∧ (w = 3 → v ≤ 9) ∧ (w = 4 → v < P) ∧ (w = 5 → v ≤ 1) ∧ (w = 6 → v ≤ 4) ∧ (w = 7 → v ≤ 11) ∧ (w = 8 → v ≤ 9)
theorem s6 {s : Nat} (h : s < 6) : s = 0 ∨ s = 1 ∨ s = 2 ∨ s = 3 ∨ s = 4 ∨ s = 5 := by omega
def stepd (a w : Int32) (d : Nat) : Option Nat := if a = 1 then some (d + 1) else if a = 2 then (if 0 ≤ w.toInt ∧ w.toInt < 6 then some (d + 1) else none) else if a = 3 ∨ a = 4 then (if 1 ≤ d then some d else none) else (if 2 ≤ d then some (d - 1) else none)
/-- how many lie on the pile behind n steps from the i-th on -/
def dp (A W : Nat → Int32) : Nat → Nat → Nat → Option Nat
  | 0, _, d => some d
  | n + 1, i, d => (stepd (A i) (W i) d).bind fun d' => dp A W n (i + 1) d'
def okSeg (A W : Nat → Int32) (i j : Int) : Prop := dp A W (j - i).toNat i.toNat 0 = some 1
def okLine (A W : Nat → Int32) (s t e : Int) : Prop := 0 ≤ s ∧ s ≤ t ∧ t ≤ e ∧ e ≤ 130 ∧ okSeg A W t e ∧ (t ≠ s → okSeg A W s t)
def RY (q : SS) : Prop := (0 ≤ (q.1 60 1).toInt) ∧ ((q.1 60 1).toInt ≤ 6) ∧ (0 ≤ (q.1 60 6).toInt) ∧ ((q.1 60 6).toInt ≤ 12) ∧ (q.1 1 1 = q.1 60 1) ∧ (q.1 1 2 = q.1 60 6) ∧ (q.1 3 = q.1 61) ∧ (q.1 4 = q.1 62) ∧ (q.1 6 = q.1 64) ∧ (q.1 7 = q.1 65) ∧ (q.1 8 = q.1 66) ∧ (q.1 9 = q.1 67) ∧ (q.1 10 0 = q.1 68 0) ∧ (q.1 11 0 = q.1 68 1) ∧ (∀ i : Nat, (i : Int) < (q.1 60 1).toInt → q.1 5 i = q.1 63 i) ∧ (∀ i : Nat, (q.1 60 1).toInt ≤ (i : Int) → i < 6 → q.1 5 i = 10) ∧ (∀ i : Nat, (q.1 60 1).toInt ≤ (i : Int) → q.1 62 i = 0) ∧ (∀ i : Nat, (q.1 60 1).toInt ≤ (i : Int) → q.1 64 i = 0) ∧ (∀ i : Nat, (i : Int) < (q.1 60 1).toInt → 0 ≤ (q.1 61 i).toInt ∧ (q.1 61 i).toInt ≤ 12) ∧ (∀ i : Nat, (i : Int) < (q.1 60 1).toInt → 0 ≤ (q.1 62 i).toInt ∧ (q.1 62 i).toInt ≤ 1) ∧ (∀ i : Nat, (i : Int) < (q.1 60 1).toInt → 0 ≤ (q.1 63 i).toInt ∧ (q.1 63 i).toInt ≤ 99) ∧ (∀ i : Nat, (i : Int) < (q.1 60 1).toInt → 0 ≤ (q.1 64 i).toInt ∧ (q.1 64 i).toInt ≤ 9) ∧ (∀ t : Nat, (t : Int) < (q.1 60 6).toInt → 0 ≤ (q.1 65 t).toInt ∧ (q.1 65 t).toInt < (q.1 60 1).toInt) ∧ (∀ t : Nat, (t : Int) < (q.1 60 6).toInt → 0 ≤ (q.1 66 t).toInt ∧ (q.1 66 t).toInt ≤ 1) ∧ (∀ t : Nat, (t : Int) < (q.1 60 6).toInt → 0 ≤ (q.1 67 t).toInt ∧ (q.1 67 t).toInt ≤ 4) ∧ (0 ≤ (q.1 68 0).toInt) ∧ ((q.1 68 0).toInt ≤ 11) ∧ (0 ≤ (q.1 68 1).toInt) ∧ ((q.1 68 1).toInt ≤ 9)
theorem RY_p0 {q : SS} (h : RY q) : 0 ≤ (q.1 60 1).toInt := h.1
theorem RY_p6 {q : SS} (h : RY q) : (q.1 60 1).toInt ≤ 6 := h.2.1
theorem RY_k0 {q : SS} (h : RY q) : 0 ≤ (q.1 60 6).toInt := h.2.2.1
theorem RY_k12 {q : SS} (h : RY q) : (q.1 60 6).toInt ≤ 12 := h.2.2.2.1
theorem RY_p {q : SS} (h : RY q) : q.1 1 1 = q.1 60 1 := h.2.2.2.2.1
theorem RY_k {q : SS} (h : RY q) : q.1 1 2 = q.1 60 6 := h.2.2.2.2.2.1
theorem RY_wary {q : SS} (h : RY q) : q.1 3 = q.1 61 := h.2.2.2.2.2.2.1
theorem RY_child {q : SS} (h : RY q) : q.1 4 = q.1 62 := h.2.2.2.2.2.2.2.1
theorem RY_takes {q : SS} (h : RY q) : q.1 6 = q.1 64 := h.2.2.2.2.2.2.2.2.1
theorem RY_holder {q : SS} (h : RY q) : q.1 7 = q.1 65 := h.2.2.2.2.2.2.2.2.2.1
theorem RY_forged {q : SS} (h : RY q) : q.1 8 = q.1 66 := h.2.2.2.2.2.2.2.2.2.2.1
theorem RY_folds {q : SS} (h : RY q) : q.1 9 = q.1 67 := h.2.2.2.2.2.2.2.2.2.2.2.1
theorem RY_hour {q : SS} (h : RY q) : q.1 10 0 = q.1 68 0 := h.2.2.2.2.2.2.2.2.2.2.2.2.1
theorem RY_seen {q : SS} (h : RY q) : q.1 11 0 = q.1 68 1 := h.2.2.2.2.2.2.2.2.2.2.2.2.2.1
theorem RY_price {q : SS} (h : RY q) : ∀ i : Nat, (i : Int) < (q.1 60 1).toInt → q.1 5 i = q.1 63 i := h.2.2.2.2.2.2.2.2.2.2.2.2.2.2.1
theorem RY_price10 {q : SS} (h : RY q) : ∀ i : Nat, (q.1 60 1).toInt ≤ (i : Int) → i < 6 → q.1 5 i = 10 := h.2.2.2.2.2.2.2.2.2.2.2.2.2.2.2.1
theorem RY_child0 {q : SS} (h : RY q) : ∀ i : Nat, (q.1 60 1).toInt ≤ (i : Int) → q.1 62 i = 0 := h.2.2.2.2.2.2.2.2.2.2.2.2.2.2.2.2.1
theorem RY_takes0 {q : SS} (h : RY q) : ∀ i : Nat, (q.1 60 1).toInt ≤ (i : Int) → q.1 64 i = 0 := h.2.2.2.2.2.2.2.2.2.2.2.2.2.2.2.2.2.1
theorem RY_rwary {q : SS} (h : RY q) : ∀ i : Nat, (i : Int) < (q.1 60 1).toInt → 0 ≤ (q.1 61 i).toInt ∧ (q.1 61 i).toInt ≤ 12 := h.2.2.2.2.2.2.2.2.2.2.2.2.2.2.2.2.2.2.1
theorem RY_rchild {q : SS} (h : RY q) : ∀ i : Nat, (i : Int) < (q.1 60 1).toInt → 0 ≤ (q.1 62 i).toInt ∧ (q.1 62 i).toInt ≤ 1 := h.2.2.2.2.2.2.2.2.2.2.2.2.2.2.2.2.2.2.2.1
theorem RY_rprice {q : SS} (h : RY q) : ∀ i : Nat, (i : Int) < (q.1 60 1).toInt → 0 ≤ (q.1 63 i).toInt ∧ (q.1 63 i).toInt ≤ 99 := h.2.2.2.2.2.2.2.2.2.2.2.2.2.2.2.2.2.2.2.2.1
theorem RY_rtakes {q : SS} (h : RY q) : ∀ i : Nat, (i : Int) < (q.1 60 1).toInt → 0 ≤ (q.1 64 i).toInt ∧ (q.1 64 i).toInt ≤ 9 := h.2.2.2.2.2.2.2.2.2.2.2.2.2.2.2.2.2.2.2.2.2.1
theorem RY_rholder {q : SS} (h : RY q) : ∀ t : Nat, (t : Int) < (q.1 60 6).toInt → 0 ≤ (q.1 65 t).toInt ∧ (q.1 65 t).toInt < (q.1 60 1).toInt := h.2.2.2.2.2.2.2.2.2.2.2.2.2.2.2.2.2.2.2.2.2.2.1
theorem RY_rforged {q : SS} (h : RY q) : ∀ t : Nat, (t : Int) < (q.1 60 6).toInt → 0 ≤ (q.1 66 t).toInt ∧ (q.1 66 t).toInt ≤ 1 := h.2.2.2.2.2.2.2.2.2.2.2.2.2.2.2.2.2.2.2.2.2.2.2.1
theorem RY_rfolds {q : SS} (h : RY q) : ∀ t : Nat, (t : Int) < (q.1 60 6).toInt → 0 ≤ (q.1 67 t).toInt ∧ (q.1 67 t).toInt ≤ 4 := h.2.2.2.2.2.2.2.2.2.2.2.2.2.2.2.2.2.2.2.2.2.2.2.2.1
theorem RY_h0 {q : SS} (h : RY q) : 0 ≤ (q.1 68 0).toInt := h.2.2.2.2.2.2.2.2.2.2.2.2.2.2.2.2.2.2.2.2.2.2.2.2.2.1
theorem RY_h11 {q : SS} (h : RY q) : (q.1 68 0).toInt ≤ 11 := h.2.2.2.2.2.2.2.2.2.2.2.2.2.2.2.2.2.2.2.2.2.2.2.2.2.2.1
theorem RY_s0 {q : SS} (h : RY q) : 0 ≤ (q.1 68 1).toInt := h.2.2.2.2.2.2.2.2.2.2.2.2.2.2.2.2.2.2.2.2.2.2.2.2.2.2.2.1
theorem RY_s9 {q : SS} (h : RY q) : (q.1 68 1).toInt ≤ 9 := h.2.2.2.2.2.2.2.2.2.2.2.2.2.2.2.2.2.2.2.2.2.2.2.2.2.2.2.2
theorem RY_fr {q q' : SS} (e3 : q'.1 3 = q.1 3) (e4 : q'.1 4 = q.1 4) (e5 : q'.1 5 = q.1 5) (e6 : q'.1 6 = q.1 6) (e7 : q'.1 7 = q.1 7) (e8 : q'.1 8 = q.1 8) (e9 : q'.1 9 = q.1 9) (e61 : q'.1 61 = q.1 61) (e62 : q'.1 62 = q.1 62) (e63 : q'.1 63 = q.1 63) (e64 : q'.1 64 = q.1 64) (e65 : q'.1 65 = q.1 65) (e66 : q'.1 66 = q.1 66) (e67 : q'.1 67 = q.1 67) (e1_1 : q'.1 1 1 = q.1 1 1) (e1_2 : q'.1 1 2 = q.1 1 2) (e10_0 : q'.1 10 0 = q.1 10 0) (e11_0 : q'.1 11 0 = q.1 11 0) (e60_1 : q'.1 60 1 = q.1 60 1) (e60_6 : q'.1 60 6 = q.1 60 6) (e68_0 : q'.1 68 0 = q.1 68 0) (e68_1 : q'.1 68 1 = q.1 68 1) (h : RY q) : RY q' := by
  unfold RY at h ⊢
  simp only [e3, e4, e5, e6, e7, e8, e9, e61, e62, e63, e64, e65, e66, e67, e1_1, e1_2, e10_0, e11_0, e60_1, e60_6, e68_0, e68_1]
  exact h
def RC (q : SS) : Prop := (q.1 52 5 = q.1 60 11) ∧ (q.1 52 6 = q.1 60 12) ∧ (0 ≤ (q.1 60 11).toInt) ∧ (0 ≤ (q.1 60 12).toInt) ∧ ((q.1 60 11).toInt + (q.1 60 12).toInt ≤ 40) ∧ (q.1 53 = q.1 69) ∧ (q.1 54 = q.1 70) ∧ (q.1 55 = q.1 71) ∧ (q.1 56 = q.1 72) ∧ (∀ j : Nat, (j : Int) < (q.1 60 11).toInt + (q.1 60 12).toInt → okN (q.1 60 1).toInt (q.1 60 6).toInt (q.1 69 j).toInt (q.1 70 j).toInt ∧ okV (q.1 60 1).toInt (q.1 69 j).toInt (q.1 71 j).toInt ∧ okV (q.1 60 1).toInt (q.1 69 j).toInt (q.1 72 j).toInt)
theorem RC_done {q : SS} (h : RC q) : q.1 52 5 = q.1 60 11 := h.1
theorem RC_undone {q : SS} (h : RC q) : q.1 52 6 = q.1 60 12 := h.2.1
theorem RC_d0 {q : SS} (h : RC q) : 0 ≤ (q.1 60 11).toInt := h.2.2.1
theorem RC_u0 {q : SS} (h : RC q) : 0 ≤ (q.1 60 12).toInt := h.2.2.2.1
theorem RC_du {q : SS} (h : RC q) : (q.1 60 11).toInt + (q.1 60 12).toInt ≤ 40 := h.2.2.2.2.1
theorem RC_what {q : SS} (h : RC q) : q.1 53 = q.1 69 := h.2.2.2.2.2.1
theorem RC_num {q : SS} (h : RC q) : q.1 54 = q.1 70 := h.2.2.2.2.2.2.1
theorem RC_bef {q : SS} (h : RC q) : q.1 55 = q.1 71 := h.2.2.2.2.2.2.2.1
theorem RC_aft {q : SS} (h : RC q) : q.1 56 = q.1 72 := h.2.2.2.2.2.2.2.2.1
theorem RC_ok {q : SS} (h : RC q) : ∀ j : Nat, (j : Int) < (q.1 60 11).toInt + (q.1 60 12).toInt → okN (q.1 60 1).toInt (q.1 60 6).toInt (q.1 69 j).toInt (q.1 70 j).toInt ∧ okV (q.1 60 1).toInt (q.1 69 j).toInt (q.1 71 j).toInt ∧ okV (q.1 60 1).toInt (q.1 69 j).toInt (q.1 72 j).toInt := h.2.2.2.2.2.2.2.2.2
theorem RC_fr {q q' : SS} (e53 : q'.1 53 = q.1 53) (e54 : q'.1 54 = q.1 54) (e55 : q'.1 55 = q.1 55) (e56 : q'.1 56 = q.1 56) (e69 : q'.1 69 = q.1 69) (e70 : q'.1 70 = q.1 70) (e71 : q'.1 71 = q.1 71) (e72 : q'.1 72 = q.1 72) (e52_5 : q'.1 52 5 = q.1 52 5) (e52_6 : q'.1 52 6 = q.1 52 6) (e60_1 : q'.1 60 1 = q.1 60 1) (e60_6 : q'.1 60 6 = q.1 60 6) (e60_11 : q'.1 60 11 = q.1 60 11) (e60_12 : q'.1 60 12 = q.1 60 12) (h : RC q) : RC q' := by
  unfold RC at h ⊢
  simp only [e53, e54, e55, e56, e69, e70, e71, e72, e52_5, e52_6, e60_1, e60_6, e60_11, e60_12]
  exact h
def RD (q : SS) : Prop := (q.1 48 = q.1 83) ∧ (q.1 49 = q.1 86) ∧ (q.1 50 = q.1 84) ∧ (q.1 51 = q.1 85) ∧ (q.1 47 5 = q.1 60 47) ∧ (q.1 47 6 = q.1 60 48) ∧ (q.1 47 7 = q.1 60 46) ∧ (q.1 60 46 = 0 ∨ q.1 60 46 = 1) ∧ (0 ≤ (q.1 60 47).toInt) ∧ ((q.1 60 47).toInt ≤ (q.1 60 6).toInt) ∧ (0 ≤ (q.1 60 48).toInt) ∧ ((q.1 60 48).toInt ≤ 11) ∧ (∀ t : Nat, (t : Int) < (q.1 60 47).toInt → 0 ≤ (q.1 84 t).toInt ∧ (q.1 84 t).toInt < (q.1 60 1).toInt) ∧ (∀ t : Nat, (t : Int) < (q.1 60 47).toInt → 0 ≤ (q.1 85 t).toInt ∧ (q.1 85 t).toInt ≤ 4)
theorem RD_notes {q : SS} (h : RD q) : q.1 48 = q.1 83 := h.1
theorem RD_knotes {q : SS} (h : RD q) : q.1 49 = q.1 86 := h.2.1
theorem RD_kh {q : SS} (h : RD q) : q.1 50 = q.1 84 := h.2.2.1
theorem RD_kf {q : SS} (h : RD q) : q.1 51 = q.1 85 := h.2.2.2.1
theorem RD_kt {q : SS} (h : RD q) : q.1 47 5 = q.1 60 47 := h.2.2.2.2.1
theorem RD_khour {q : SS} (h : RD q) : q.1 47 6 = q.1 60 48 := h.2.2.2.2.2.1
theorem RD_img {q : SS} (h : RD q) : q.1 47 7 = q.1 60 46 := h.2.2.2.2.2.2.1
theorem RD_img01 {q : SS} (h : RD q) : q.1 60 46 = 0 ∨ q.1 60 46 = 1 := h.2.2.2.2.2.2.2.1
theorem RD_kt0 {q : SS} (h : RD q) : 0 ≤ (q.1 60 47).toInt := h.2.2.2.2.2.2.2.2.1
theorem RD_ktk {q : SS} (h : RD q) : (q.1 60 47).toInt ≤ (q.1 60 6).toInt := h.2.2.2.2.2.2.2.2.2.1
theorem RD_kh0 {q : SS} (h : RD q) : 0 ≤ (q.1 60 48).toInt := h.2.2.2.2.2.2.2.2.2.2.1
theorem RD_kh11 {q : SS} (h : RD q) : (q.1 60 48).toInt ≤ 11 := h.2.2.2.2.2.2.2.2.2.2.2.1
theorem RD_rkh {q : SS} (h : RD q) : ∀ t : Nat, (t : Int) < (q.1 60 47).toInt → 0 ≤ (q.1 84 t).toInt ∧ (q.1 84 t).toInt < (q.1 60 1).toInt := h.2.2.2.2.2.2.2.2.2.2.2.2.1
theorem RD_rkf {q : SS} (h : RD q) : ∀ t : Nat, (t : Int) < (q.1 60 47).toInt → 0 ≤ (q.1 85 t).toInt ∧ (q.1 85 t).toInt ≤ 4 := h.2.2.2.2.2.2.2.2.2.2.2.2.2
theorem RD_fr {q q' : SS} (e48 : q'.1 48 = q.1 48) (e49 : q'.1 49 = q.1 49) (e50 : q'.1 50 = q.1 50) (e51 : q'.1 51 = q.1 51) (e83 : q'.1 83 = q.1 83) (e84 : q'.1 84 = q.1 84) (e85 : q'.1 85 = q.1 85) (e86 : q'.1 86 = q.1 86) (e47_5 : q'.1 47 5 = q.1 47 5) (e47_6 : q'.1 47 6 = q.1 47 6) (e47_7 : q'.1 47 7 = q.1 47 7) (e60_1 : q'.1 60 1 = q.1 60 1) (e60_6 : q'.1 60 6 = q.1 60 6) (e60_46 : q'.1 60 46 = q.1 60 46) (e60_47 : q'.1 60 47 = q.1 60 47) (e60_48 : q'.1 60 48 = q.1 60 48) (h : RD q) : RD q' := by
  unfold RD at h ⊢
  simp only [e48, e49, e50, e51, e83, e84, e85, e86, e47_5, e47_6, e47_7, e60_1, e60_6, e60_46, e60_47, e60_48]
  exact h
def RT (q : SS) : Prop := (q.1 17 2 = q.1 60 18) ∧ (0 ≤ (q.1 60 18).toInt) ∧ ((q.1 60 18).toInt ≤ 120) ∧ (∀ i : Nat, (i : Int) < (q.1 60 18).toInt → 0 ≤ (q.1 18 i).toInt ∧ (q.1 18 i).toInt ≤ 255) ∧ (∀ i : Nat, (i : Int) < (q.1 60 18).toInt → q.1 73 i = (q.1 18 i).toInt8.toInt32)
theorem RT_len {q : SS} (h : RT q) : q.1 17 2 = q.1 60 18 := h.1
theorem RT_l0 {q : SS} (h : RT q) : 0 ≤ (q.1 60 18).toInt := h.2.1
theorem RT_l120 {q : SS} (h : RT q) : (q.1 60 18).toInt ≤ 120 := h.2.2.1
theorem RT_byte {q : SS} (h : RT q) : ∀ i : Nat, (i : Int) < (q.1 60 18).toInt → 0 ≤ (q.1 18 i).toInt ∧ (q.1 18 i).toInt ≤ 255 := h.2.2.2.1
theorem RT_tape {q : SS} (h : RT q) : ∀ i : Nat, (i : Int) < (q.1 60 18).toInt → q.1 73 i = (q.1 18 i).toInt8.toInt32 := h.2.2.2.2
theorem RT_fr {q q' : SS} (e18 : q'.1 18 = q.1 18) (e73 : q'.1 73 = q.1 73) (e17_2 : q'.1 17 2 = q.1 17 2) (e60_18 : q'.1 60 18 = q.1 60 18) (h : RT q) : RT q' := by
  unfold RT at h ⊢
  simp only [e18, e73, e17_2, e60_18]
  exact h
def RH (q : SS) : Prop := (q.1 57 2 = q.1 60 52) ∧ (0 ≤ (q.1 60 52).toInt) ∧ ((q.1 60 52).toInt ≤ 50) ∧ (q.1 58 = q.1 87) ∧ (∀ b : Nat, (b : Int) < (q.1 60 52).toInt → 0 ≤ (q.1 87 b).toInt ∧ (q.1 87 b).toInt ≤ 7) ∧ (q.1 57 3 = q.1 60 54) ∧ (0 ≤ (q.1 60 54).toInt) ∧ (q.1 59 = q.1 88)
theorem RH_bodies {q : SS} (h : RH q) : q.1 57 2 = q.1 60 52 := h.1
theorem RH_b0 {q : SS} (h : RH q) : 0 ≤ (q.1 60 52).toInt := h.2.1
theorem RH_b50 {q : SS} (h : RH q) : (q.1 60 52).toInt ≤ 50 := h.2.2.1
theorem RH_kind {q : SS} (h : RH q) : q.1 58 = q.1 87 := h.2.2.2.1
theorem RH_rkind {q : SS} (h : RH q) : ∀ b : Nat, (b : Int) < (q.1 60 52).toInt → 0 ≤ (q.1 87 b).toInt ∧ (q.1 87 b).toInt ≤ 7 := h.2.2.2.2.1
theorem RH_ran {q : SS} (h : RH q) : q.1 57 3 = q.1 60 54 := h.2.2.2.2.2.1
theorem RH_r0 {q : SS} (h : RH q) : 0 ≤ (q.1 60 54).toInt := h.2.2.2.2.2.2.1
theorem RH_trace {q : SS} (h : RH q) : q.1 59 = q.1 88 := h.2.2.2.2.2.2.2
theorem RH_fr {q q' : SS} (e58 : q'.1 58 = q.1 58) (e59 : q'.1 59 = q.1 59) (e87 : q'.1 87 = q.1 87) (e88 : q'.1 88 = q.1 88) (e57_2 : q'.1 57 2 = q.1 57 2) (e57_3 : q'.1 57 3 = q.1 57 3) (e60_52 : q'.1 60 52 = q.1 60 52) (e60_54 : q'.1 60 54 = q.1 60 54) (h : RH q) : RH q' := by
  unfold RH at h ⊢
  simp only [e58, e59, e87, e88, e57_2, e57_3, e60_52, e60_54]
  exact h
def RS (q : SS) : Prop := (q.1 28 = q.1 90) ∧ (∀ s : Nat, s < 6 → 0 ≤ (q.1 90 s).toInt ∧ (q.1 90 s).toInt ≤ 60) ∧ (∀ s : Nat, s < 6 → (q.1 27 s = -2 ∧ q.1 89 s = -1) ∨ (q.1 27 s = -1 ∧ q.1 89 s = q.1 29 s ∧ 0 ≤ (q.1 89 s).toInt ∧ (q.1 89 s).toInt < (q.1 60 52).toInt) ∨ (0 ≤ (q.1 27 s).toInt ∧ (q.1 27 s).toInt ≤ 4 ∧ (q.1 89 s).toInt = -2 - (q.1 27 s).toInt)) ∧ (∀ s : Nat, s < 6 → 0 ≤ (q.1 27 s).toInt → ∀ i : Nat, (i : Int) < (q.1 90 s).toInt → q.2 (31 + s) i = q.2 91 (60 * s + i))
theorem RS_size {q : SS} (h : RS q) : q.1 28 = q.1 90 := h.1
theorem RS_size0 {q : SS} (h : RS q) : ∀ s : Nat, s < 6 → 0 ≤ (q.1 90 s).toInt ∧ (q.1 90 s).toInt ≤ 60 := h.2.1
theorem RS_shelf {q : SS} (h : RS q) : ∀ s : Nat, s < 6 → (q.1 27 s = -2 ∧ q.1 89 s = -1) ∨ (q.1 27 s = -1 ∧ q.1 89 s = q.1 29 s ∧ 0 ≤ (q.1 89 s).toInt ∧ (q.1 89 s).toInt < (q.1 60 52).toInt) ∨ (0 ≤ (q.1 27 s).toInt ∧ (q.1 27 s).toInt ≤ 4 ∧ (q.1 89 s).toInt = -2 - (q.1 27 s).toInt) := h.2.2.1
theorem RS_el {q : SS} (h : RS q) : ∀ s : Nat, s < 6 → 0 ≤ (q.1 27 s).toInt → ∀ i : Nat, (i : Int) < (q.1 90 s).toInt → q.2 (31 + s) i = q.2 91 (60 * s + i) := h.2.2.2
theorem RS_fr {q q' : SS} (e27 : q'.1 27 = q.1 27) (e28 : q'.1 28 = q.1 28) (e29 : q'.1 29 = q.1 29) (e89 : q'.1 89 = q.1 89) (e90 : q'.1 90 = q.1 90) (e60_52 : q'.1 60 52 = q.1 60 52) (l91 : q'.2 91 = q.2 91) (l31 : ∀ s, s < 6 → q'.2 (31 + s) = q.2 (31 + s)) (h : RS q) : RS q' := by
  unfold RS at h ⊢
  rw [e27, e28, e29, e89, e90, e60_52]
  obtain ⟨h1, h2, h3, h4⟩ := h
  refine ⟨h1, h2, h3, fun s hs h0 i hi => ?_⟩
  rw [l31 s hs, l91]
  exact h4 s hs h0 i hi
def RW (q : SS) : Prop := (q.1 60 30 = 0 ∨ q.1 60 30 = 1) ∧ (q.1 60 30 = 1 → 0 ≤ (q.1 76 0).toInt ∧ (q.1 76 0).toInt ≤ 61) ∧ (q.1 60 30 = 1 → ∀ l : Nat, (l : Int) < (q.1 76 0).toInt → okLine (q.1 74) (q.1 75) (if l = 0 then 0 else (q.1 78 (l - 1)).toInt) (q.1 77 l).toInt (q.1 78 l).toInt)
theorem RW_told {q : SS} (h : RW q) : q.1 60 30 = 0 ∨ q.1 60 30 = 1 := h.1
theorem RW_m {q : SS} (h : RW q) : q.1 60 30 = 1 → 0 ≤ (q.1 76 0).toInt ∧ (q.1 76 0).toInt ≤ 61 := h.2.1
theorem RW_line {q : SS} (h : RW q) : q.1 60 30 = 1 → ∀ l : Nat, (l : Int) < (q.1 76 0).toInt → okLine (q.1 74) (q.1 75) (if l = 0 then 0 else (q.1 78 (l - 1)).toInt) (q.1 77 l).toInt (q.1 78 l).toInt := h.2.2
theorem RW_fr {q q' : SS} (e74 : q'.1 74 = q.1 74) (e75 : q'.1 75 = q.1 75) (e77 : q'.1 77 = q.1 77) (e78 : q'.1 78 = q.1 78) (e60_30 : q'.1 60 30 = q.1 60 30) (e76_0 : q'.1 76 0 = q.1 76 0) (h : RW q) : RW q' := by
  unfold RW at h ⊢
  simp only [e74, e75, e77, e78, e60_30, e76_0]
  exact h
def RJ (q : SS) : Prop := (0 ≤ (q.1 37 3).toInt) ∧ ((q.1 37 3).toInt ≤ 12) ∧ (∀ t : Nat, t < 12 → 0 ≤ (q.1 81 t).toInt ∧ (q.1 81 t).toInt ≤ 5)
theorem RJ_e0 {q : SS} (h : RJ q) : 0 ≤ (q.1 37 3).toInt := h.1
theorem RJ_e12 {q : SS} (h : RJ q) : (q.1 37 3).toInt ≤ 12 := h.2.1
theorem RJ_h1 {q : SS} (h : RJ q) : ∀ t : Nat, t < 12 → 0 ≤ (q.1 81 t).toInt ∧ (q.1 81 t).toInt ≤ 5 := h.2.2
theorem RJ_fr {q q' : SS} (e81 : q'.1 81 = q.1 81) (e37_3 : q'.1 37 3 = q.1 37 3) (h : RJ q) : RJ q' := by
  unfold RJ at h ⊢
  simp only [e81, e37_3]
  exact h
def INV (q : SS) : Prop := RY q ∧ RC q ∧ RD q ∧ RT q ∧ RH q ∧ RS q ∧ RW q ∧ RJ q
theorem INV_RY {q : SS} (h : INV q) : RY q := h.1
theorem INV_RC {q : SS} (h : INV q) : RC q := h.2.1
theorem INV_RD {q : SS} (h : INV q) : RD q := h.2.2.1
theorem INV_RT {q : SS} (h : INV q) : RT q := h.2.2.2.1
theorem INV_RH {q : SS} (h : INV q) : RH q := h.2.2.2.2.1
theorem INV_RS {q : SS} (h : INV q) : RS q := h.2.2.2.2.2.1
theorem INV_RW {q : SS} (h : INV q) : RW q := h.2.2.2.2.2.2.1
theorem INV_RJ {q : SS} (h : INV q) : RJ q := h.2.2.2.2.2.2.2
/-! frames: which cells a call may write -/
def Fr (w : Nat → Nat → Bool) (v : Nat → Bool) (q q' : SS) : Prop := (∀ k i, w k i = false → q'.1 k i = q.1 k i) ∧ (∀ k, v k = false → q'.2 k = q.2 k)
def wE (k i : Nat) : Bool := k == 15 || k == 16 || (k == 12 && i == 5)
def v0 (_ : Nat) : Bool := false
def wX (k i : Nat) : Bool := wE k i || k == 25 || (Nat.ble 37 k && Nat.ble k 46)
def vX (k : Nat) : Bool := k == 37 || k == 39
def wF (k _ : Nat) : Bool := k == 79 || k == 80
def wM (k i : Nat) : Bool := wF k i || k == 81 || k == 82 || (k == 60 && (Nat.ble 32 i && Nat.ble i 44))
def vM (k : Nat) : Bool := k == 60
theorem Fr_refl {w : Nat → Nat → Bool} {v : Nat → Bool} (q : SS) : Fr w v q q := ⟨fun _ _ _ => rfl, fun _ _ => rfl⟩
theorem Fr_tr {w : Nat → Nat → Bool} {v : Nat → Bool} {a b c : SS} (h : Fr w v a b) (g : Fr w v b c) : Fr w v a c := ⟨fun k i e => (g.1 k i e).trans (h.1 k i e), fun k e => (g.2 k e).trans (h.2 k e)⟩
theorem Fr_sI {w : Nat → Nat → Bool} {v : Nat → Bool} {a b : SS} {k i : Nat} {x : Int32} (h : Fr w v a b) (hw : w k i = true) : Fr w v a (sI b k i x) := by
  refine ⟨fun k2 i2 e => ?_, h.2⟩
  rw [sI_rd, if_neg]
  · exact h.1 k2 i2 e
  · rintro ⟨rfl, rfl⟩
    rw [hw] at e
    cases e
theorem Fr_sL {w : Nat → Nat → Bool} {v : Nat → Bool} {a b : SS} {k i : Nat} {x : Int64} (h : Fr w v a b) (hw : v k = true) : Fr w v a (sL b k i x) := by
  refine ⟨h.1, fun k2 e => ?_⟩
  rw [sL_ro]
  · exact h.2 k2 e
  · rintro rfl
    rw [hw] at e
    cases e
theorem Fr_le {w w' : Nat → Nat → Bool} {v v' : Nat → Bool} {a b : SS} (h : Fr w v a b) (hw : ∀ k i, w' k i = false → w k i = false) (hv : ∀ k, v' k = false → v k = false) : Fr w' v' a b := ⟨fun k i e => h.1 k i (hw k i e), fun k e => h.2 k (hv k e)⟩
theorem Fr_r {w : Nat → Nat → Bool} {v : Nat → Bool} {a b : SS} (h : Fr w v a b) {k : Nat} (hk : ∀ i, w k i = false) : b.1 k = a.1 k := funext fun i => h.1 k i (hk i)
theorem Fr_EX {a b : SS} (h : Fr wE v0 a b) : Fr wX vX a b := Fr_le h (fun k i e => by unfold wX at e; simp only [Bool.or_eq_false_iff] at e; exact e.1.1) (fun _ _ => rfl)
theorem Fr_FM {a b : SS} (h : Fr wF v0 a b) : Fr wM vM a b := Fr_le h (fun k i e => by unfold wM at e; simp only [Bool.or_eq_false_iff] at e; exact e.1.1.1) (fun _ _ => rfl)
theorem RY_wE {q q' : SS} (f : Fr wE v0 q q') (h : RY q) : RY q' := RY_fr (Fr_r f fun _ => rfl) (Fr_r f fun _ => rfl) (Fr_r f fun _ => rfl) (Fr_r f fun _ => rfl) (Fr_r f fun _ => rfl) (Fr_r f fun _ => rfl) (Fr_r f fun _ => rfl) (Fr_r f fun _ => rfl) (Fr_r f fun _ => rfl) (Fr_r f fun _ => rfl) (Fr_r f fun _ => rfl) (Fr_r f fun _ => rfl) (Fr_r f fun _ => rfl) (Fr_r f fun _ => rfl) (f.1 _ _ rfl) (f.1 _ _ rfl) (f.1 _ _ rfl) (f.1 _ _ rfl) (f.1 _ _ rfl) (f.1 _ _ rfl) (f.1 _ _ rfl) (f.1 _ _ rfl) h
theorem RC_wE {q q' : SS} (f : Fr wE v0 q q') (h : RC q) : RC q' := RC_fr (Fr_r f fun _ => rfl) (Fr_r f fun _ => rfl) (Fr_r f fun _ => rfl) (Fr_r f fun _ => rfl) (Fr_r f fun _ => rfl) (Fr_r f fun _ => rfl) (Fr_r f fun _ => rfl) (Fr_r f fun _ => rfl) (f.1 _ _ rfl) (f.1 _ _ rfl) (f.1 _ _ rfl) (f.1 _ _ rfl) (f.1 _ _ rfl) (f.1 _ _ rfl) h
theorem RD_wE {q q' : SS} (f : Fr wE v0 q q') (h : RD q) : RD q' := RD_fr (Fr_r f fun _ => rfl) (Fr_r f fun _ => rfl) (Fr_r f fun _ => rfl) (Fr_r f fun _ => rfl) (Fr_r f fun _ => rfl) (Fr_r f fun _ => rfl) (Fr_r f fun _ => rfl) (Fr_r f fun _ => rfl) (f.1 _ _ rfl) (f.1 _ _ rfl) (f.1 _ _ rfl) (f.1 _ _ rfl) (f.1 _ _ rfl) (f.1 _ _ rfl) (f.1 _ _ rfl) (f.1 _ _ rfl) h
theorem RT_wE {q q' : SS} (f : Fr wE v0 q q') (h : RT q) : RT q' := RT_fr (Fr_r f fun _ => rfl) (Fr_r f fun _ => rfl) (f.1 _ _ rfl) (f.1 _ _ rfl) h
theorem RH_wE {q q' : SS} (f : Fr wE v0 q q') (h : RH q) : RH q' := RH_fr (Fr_r f fun _ => rfl) (Fr_r f fun _ => rfl) (Fr_r f fun _ => rfl) (Fr_r f fun _ => rfl) (f.1 _ _ rfl) (f.1 _ _ rfl) (f.1 _ _ rfl) (f.1 _ _ rfl) h
theorem RS_wE {q q' : SS} (f : Fr wE v0 q q') (h : RS q) : RS q' := RS_fr (Fr_r f fun _ => rfl) (Fr_r f fun _ => rfl) (Fr_r f fun _ => rfl) (Fr_r f fun _ => rfl) (Fr_r f fun _ => rfl) (f.1 _ _ rfl) (f.2 _ rfl) (fun s hs => f.2 _ (by rcases s6 hs with rfl | rfl | rfl | rfl | rfl | rfl <;> rfl)) h
theorem RW_wE {q q' : SS} (f : Fr wE v0 q q') (h : RW q) : RW q' := RW_fr (Fr_r f fun _ => rfl) (Fr_r f fun _ => rfl) (Fr_r f fun _ => rfl) (Fr_r f fun _ => rfl) (f.1 _ _ rfl) (f.1 _ _ rfl) h
theorem RJ_wE {q q' : SS} (f : Fr wE v0 q q') (h : RJ q) : RJ q' := RJ_fr (Fr_r f fun _ => rfl) (f.1 _ _ rfl) h
theorem RY_wX {q q' : SS} (f : Fr wX vX q q') (h : RY q) : RY q' := RY_fr (Fr_r f fun _ => rfl) (Fr_r f fun _ => rfl) (Fr_r f fun _ => rfl) (Fr_r f fun _ => rfl) (Fr_r f fun _ => rfl) (Fr_r f fun _ => rfl) (Fr_r f fun _ => rfl) (Fr_r f fun _ => rfl) (Fr_r f fun _ => rfl) (Fr_r f fun _ => rfl) (Fr_r f fun _ => rfl) (Fr_r f fun _ => rfl) (Fr_r f fun _ => rfl) (Fr_r f fun _ => rfl) (f.1 _ _ rfl) (f.1 _ _ rfl) (f.1 _ _ rfl) (f.1 _ _ rfl) (f.1 _ _ rfl) (f.1 _ _ rfl) (f.1 _ _ rfl) (f.1 _ _ rfl) h
theorem RC_wX {q q' : SS} (f : Fr wX vX q q') (h : RC q) : RC q' := RC_fr (Fr_r f fun _ => rfl) (Fr_r f fun _ => rfl) (Fr_r f fun _ => rfl) (Fr_r f fun _ => rfl) (Fr_r f fun _ => rfl) (Fr_r f fun _ => rfl) (Fr_r f fun _ => rfl) (Fr_r f fun _ => rfl) (f.1 _ _ rfl) (f.1 _ _ rfl) (f.1 _ _ rfl) (f.1 _ _ rfl) (f.1 _ _ rfl) (f.1 _ _ rfl) h
theorem RD_wX {q q' : SS} (f : Fr wX vX q q') (h : RD q) : RD q' := RD_fr (Fr_r f fun _ => rfl) (Fr_r f fun _ => rfl) (Fr_r f fun _ => rfl) (Fr_r f fun _ => rfl) (Fr_r f fun _ => rfl) (Fr_r f fun _ => rfl) (Fr_r f fun _ => rfl) (Fr_r f fun _ => rfl) (f.1 _ _ rfl) (f.1 _ _ rfl) (f.1 _ _ rfl) (f.1 _ _ rfl) (f.1 _ _ rfl) (f.1 _ _ rfl) (f.1 _ _ rfl) (f.1 _ _ rfl) h
theorem RT_wX {q q' : SS} (f : Fr wX vX q q') (h : RT q) : RT q' := RT_fr (Fr_r f fun _ => rfl) (Fr_r f fun _ => rfl) (f.1 _ _ rfl) (f.1 _ _ rfl) h
theorem RH_wX {q q' : SS} (f : Fr wX vX q q') (h : RH q) : RH q' := RH_fr (Fr_r f fun _ => rfl) (Fr_r f fun _ => rfl) (Fr_r f fun _ => rfl) (Fr_r f fun _ => rfl) (f.1 _ _ rfl) (f.1 _ _ rfl) (f.1 _ _ rfl) (f.1 _ _ rfl) h
theorem RS_wX {q q' : SS} (f : Fr wX vX q q') (h : RS q) : RS q' := RS_fr (Fr_r f fun _ => rfl) (Fr_r f fun _ => rfl) (Fr_r f fun _ => rfl) (Fr_r f fun _ => rfl) (Fr_r f fun _ => rfl) (f.1 _ _ rfl) (f.2 _ rfl) (fun s hs => f.2 _ (by rcases s6 hs with rfl | rfl | rfl | rfl | rfl | rfl <;> rfl)) h
theorem RW_wX {q q' : SS} (f : Fr wX vX q q') (h : RW q) : RW q' := RW_fr (Fr_r f fun _ => rfl) (Fr_r f fun _ => rfl) (Fr_r f fun _ => rfl) (Fr_r f fun _ => rfl) (f.1 _ _ rfl) (f.1 _ _ rfl) h
theorem RY_wF {q q' : SS} (f : Fr wF v0 q q') (h : RY q) : RY q' := RY_fr (Fr_r f fun _ => rfl) (Fr_r f fun _ => rfl) (Fr_r f fun _ => rfl) (Fr_r f fun _ => rfl) (Fr_r f fun _ => rfl) (Fr_r f fun _ => rfl) (Fr_r f fun _ => rfl) (Fr_r f fun _ => rfl) (Fr_r f fun _ => rfl) (Fr_r f fun _ => rfl) (Fr_r f fun _ => rfl) (Fr_r f fun _ => rfl) (Fr_r f fun _ => rfl) (Fr_r f fun _ => rfl) (f.1 _ _ rfl) (f.1 _ _ rfl) (f.1 _ _ rfl) (f.1 _ _ rfl) (f.1 _ _ rfl) (f.1 _ _ rfl) (f.1 _ _ rfl) (f.1 _ _ rfl) h
theorem RC_wF {q q' : SS} (f : Fr wF v0 q q') (h : RC q) : RC q' := RC_fr (Fr_r f fun _ => rfl) (Fr_r f fun _ => rfl) (Fr_r f fun _ => rfl) (Fr_r f fun _ => rfl) (Fr_r f fun _ => rfl) (Fr_r f fun _ => rfl) (Fr_r f fun _ => rfl) (Fr_r f fun _ => rfl) (f.1 _ _ rfl) (f.1 _ _ rfl) (f.1 _ _ rfl) (f.1 _ _ rfl) (f.1 _ _ rfl) (f.1 _ _ rfl) h
theorem RD_wF {q q' : SS} (f : Fr wF v0 q q') (h : RD q) : RD q' := RD_fr (Fr_r f fun _ => rfl) (Fr_r f fun _ => rfl) (Fr_r f fun _ => rfl) (Fr_r f fun _ => rfl) (Fr_r f fun _ => rfl) (Fr_r f fun _ => rfl) (Fr_r f fun _ => rfl) (Fr_r f fun _ => rfl) (f.1 _ _ rfl) (f.1 _ _ rfl) (f.1 _ _ rfl) (f.1 _ _ rfl) (f.1 _ _ rfl) (f.1 _ _ rfl) (f.1 _ _ rfl) (f.1 _ _ rfl) h
theorem RT_wF {q q' : SS} (f : Fr wF v0 q q') (h : RT q) : RT q' := RT_fr (Fr_r f fun _ => rfl) (Fr_r f fun _ => rfl) (f.1 _ _ rfl) (f.1 _ _ rfl) h
theorem RH_wF {q q' : SS} (f : Fr wF v0 q q') (h : RH q) : RH q' := RH_fr (Fr_r f fun _ => rfl) (Fr_r f fun _ => rfl) (Fr_r f fun _ => rfl) (Fr_r f fun _ => rfl) (f.1 _ _ rfl) (f.1 _ _ rfl) (f.1 _ _ rfl) (f.1 _ _ rfl) h
theorem RS_wF {q q' : SS} (f : Fr wF v0 q q') (h : RS q) : RS q' := RS_fr (Fr_r f fun _ => rfl) (Fr_r f fun _ => rfl) (Fr_r f fun _ => rfl) (Fr_r f fun _ => rfl) (Fr_r f fun _ => rfl) (f.1 _ _ rfl) (f.2 _ rfl) (fun s hs => f.2 _ (by rcases s6 hs with rfl | rfl | rfl | rfl | rfl | rfl <;> rfl)) h
theorem RW_wF {q q' : SS} (f : Fr wF v0 q q') (h : RW q) : RW q' := RW_fr (Fr_r f fun _ => rfl) (Fr_r f fun _ => rfl) (Fr_r f fun _ => rfl) (Fr_r f fun _ => rfl) (f.1 _ _ rfl) (f.1 _ _ rfl) h
theorem RJ_wF {q q' : SS} (f : Fr wF v0 q q') (h : RJ q) : RJ q' := RJ_fr (Fr_r f fun _ => rfl) (f.1 _ _ rfl) h
theorem RY_wM {q q' : SS} (f : Fr wM vM q q') (h : RY q) : RY q' := RY_fr (Fr_r f fun _ => rfl) (Fr_r f fun _ => rfl) (Fr_r f fun _ => rfl) (Fr_r f fun _ => rfl) (Fr_r f fun _ => rfl) (Fr_r f fun _ => rfl) (Fr_r f fun _ => rfl) (Fr_r f fun _ => rfl) (Fr_r f fun _ => rfl) (Fr_r f fun _ => rfl) (Fr_r f fun _ => rfl) (Fr_r f fun _ => rfl) (Fr_r f fun _ => rfl) (Fr_r f fun _ => rfl) (f.1 _ _ rfl) (f.1 _ _ rfl) (f.1 _ _ rfl) (f.1 _ _ rfl) (f.1 _ _ rfl) (f.1 _ _ rfl) (f.1 _ _ rfl) (f.1 _ _ rfl) h
theorem RC_wM {q q' : SS} (f : Fr wM vM q q') (h : RC q) : RC q' := RC_fr (Fr_r f fun _ => rfl) (Fr_r f fun _ => rfl) (Fr_r f fun _ => rfl) (Fr_r f fun _ => rfl) (Fr_r f fun _ => rfl) (Fr_r f fun _ => rfl) (Fr_r f fun _ => rfl) (Fr_r f fun _ => rfl) (f.1 _ _ rfl) (f.1 _ _ rfl) (f.1 _ _ rfl) (f.1 _ _ rfl) (f.1 _ _ rfl) (f.1 _ _ rfl) h
theorem RD_wM {q q' : SS} (f : Fr wM vM q q') (h : RD q) : RD q' := RD_fr (Fr_r f fun _ => rfl) (Fr_r f fun _ => rfl) (Fr_r f fun _ => rfl) (Fr_r f fun _ => rfl) (Fr_r f fun _ => rfl) (Fr_r f fun _ => rfl) (Fr_r f fun _ => rfl) (Fr_r f fun _ => rfl) (f.1 _ _ rfl) (f.1 _ _ rfl) (f.1 _ _ rfl) (f.1 _ _ rfl) (f.1 _ _ rfl) (f.1 _ _ rfl) (f.1 _ _ rfl) (f.1 _ _ rfl) h
theorem RT_wM {q q' : SS} (f : Fr wM vM q q') (h : RT q) : RT q' := RT_fr (Fr_r f fun _ => rfl) (Fr_r f fun _ => rfl) (f.1 _ _ rfl) (f.1 _ _ rfl) h
theorem RH_wM {q q' : SS} (f : Fr wM vM q q') (h : RH q) : RH q' := RH_fr (Fr_r f fun _ => rfl) (Fr_r f fun _ => rfl) (Fr_r f fun _ => rfl) (Fr_r f fun _ => rfl) (f.1 _ _ rfl) (f.1 _ _ rfl) (f.1 _ _ rfl) (f.1 _ _ rfl) h
theorem RS_wM {q q' : SS} (f : Fr wM vM q q') (h : RS q) : RS q' := RS_fr (Fr_r f fun _ => rfl) (Fr_r f fun _ => rfl) (Fr_r f fun _ => rfl) (Fr_r f fun _ => rfl) (Fr_r f fun _ => rfl) (f.1 _ _ rfl) (f.2 _ rfl) (fun s hs => f.2 _ (by rcases s6 hs with rfl | rfl | rfl | rfl | rfl | rfl <;> rfl)) h
theorem RW_wM {q q' : SS} (f : Fr wM vM q q') (h : RW q) : RW q' := RW_fr (Fr_r f fun _ => rfl) (Fr_r f fun _ => rfl) (Fr_r f fun _ => rfl) (Fr_r f fun _ => rfl) (f.1 _ _ rfl) (f.1 _ _ rfl) h
theorem INV_wE {q q' : SS} (f : Fr wE v0 q q') (h : INV q) : INV q' := ⟨RY_wE f h.1, RC_wE f h.2.1, RD_wE f h.2.2.1, RT_wE f h.2.2.2.1, RH_wE f h.2.2.2.2.1, RS_wE f h.2.2.2.2.2.1, RW_wE f h.2.2.2.2.2.2.1, RJ_wE f h.2.2.2.2.2.2.2⟩
theorem INV_wF {q q' : SS} (f : Fr wF v0 q q') (h : INV q) : INV q' := ⟨RY_wF f h.1, RC_wF f h.2.1, RD_wF f h.2.2.1, RT_wF f h.2.2.2.1, RH_wF f h.2.2.2.2.1, RS_wF f h.2.2.2.2.2.1, RW_wF f h.2.2.2.2.2.2.1, RJ_wF f h.2.2.2.2.2.2.2⟩
theorem INV_wX {q q' : SS} (f : Fr wX vX q q') (g : RJ q') (h : INV q) : INV q' := ⟨RY_wX f h.1, RC_wX f h.2.1, RD_wX f h.2.2.1, RT_wX f h.2.2.2.1, RH_wX f h.2.2.2.2.1, RS_wX f h.2.2.2.2.2.1, RW_wX f h.2.2.2.2.2.2.1, g⟩
theorem INV_wM {q q' : SS} (f : Fr wM vM q q') (g : RJ q') (h : INV q) : INV q' := ⟨RY_wM f h.1, RC_wM f h.2.1, RD_wM f h.2.2.1, RT_wM f h.2.2.2.1, RH_wM f h.2.2.2.2.1, RS_wM f h.2.2.2.2.2.1, RW_wM f h.2.2.2.2.2.2.1, g⟩
/-! ===== readers, exactly: numbers, shelves, bodies ===== -/
def bI (c : Prop) [Decidable c] : Int32 := if c then 1 else 0
theorem bI_0 {c : Prop} [Decidable c] : (bI c = 0) ↔ ¬ c := by
  unfold bI
  by_cases h : c <;> simp [h]
theorem bI_1 {c : Prop} [Decidable c] : (bI c = 1) ↔ c := by
  unfold bI
  by_cases h : c <;> simp [h]
theorem bI_01 {c : Prop} [Decidable c] {α : Type} {a b : α} : (if bI c = 0 ∨ bI c = 1 then a else b) = a := by
  rw [if_pos]
  unfold bI
  by_cases h : c <;> simp [h]
theorem bI_c {c d : Prop} [Decidable c] [Decidable d] (h : c ↔ d) : bI c = bI d := by
  unfold bI
  simp only [h]
theorem lm1 : (-1 : Int32).toInt = -1 := rfl
theorem lm2 : (-2 : Int32).toInt = -2 := rfl
theorem lm3 : (-3 : Int32).toInt = -3 := rfl
/-- bits of a told slipping -/
theorem shr3 (a : Int32) : (jshr a 3).toInt = a.toInt / 8 := by
  have e : (a >>> ((3 : Int32) &&& 31)).toBitVec = a.toBitVec.sshiftRight 3 := by
    rw [Int32.toBitVec_shiftRight, BitVec.sshiftRight_eq']
    rfl
  show (a >>> ((3 : Int32) &&& 31)).toInt = _
  rw [← Int32.toInt_toBitVec, e, BitVec.toInt_sshiftRight, Int.shiftRight_eq_div_pow]
  rfl
theorem and7 (a : Int32) : (a &&& 7).toInt = a.toInt % 8 := by
  have e : (a &&& 7).toBitVec.toNat = a.toBitVec.toNat % 8 := by
    rw [Int32.toBitVec_and, BitVec.toNat_and]
    exact Nat.and_two_pow_sub_one_eq_mod _ 3
  rw [← Int32.toInt_toBitVec, ← Int32.toInt_toBitVec]
  have h1 := BitVec.toInt_eq_toNat_cond (a &&& 7).toBitVec
  have h2 := BitVec.toInt_eq_toNat_cond a.toBitVec
  rw [h1, h2, e]
  have := a.toBitVec.isLt
  split <;> split <;> omega
theorem div8 {a : Int32} (h : 0 ≤ a.toInt) : (a / 8).toInt = a.toInt / 8 := by
  rw [Int32.toInt_div_of_ne_right _ _ (by decide)]
  exact Int.tdiv_eq_ediv_of_nonneg h
theorem rem8 {a : Int32} (h : 0 ≤ a.toInt) : (jrem a 8).toInt = a.toInt % 8 := by
  have e := div8 h
  have hb : a.toInt < 2147483648 := Int32.toInt_lt a
  have e8 : (8 : Int32).toInt = 8 := rfl
  show (a - a / 8 * 8).toInt = _
  have e1 : (a / 8 * 8).toInt = a.toInt / 8 * 8 := by rw [tmul (by rw [e, e8]; omega) (by rw [e, e8]; omega), e, e8]
  rw [tsub (by rw [e1]; omega) (by rw [e1]; omega), e1]
  omega
theorem shr_div {a : Int32} (h : 0 ≤ a.toInt) : jshr a 3 = a / 8 := Int32.toInt_inj.mp ((shr3 a).trans (div8 h).symm)
theorem and_rem {a : Int32} (h : 0 ≤ a.toInt) : a &&& 7 = jrem a 8 := Int32.toInt_inj.mp ((and7 a).trans (rem8 h).symm)
theorem lgc_pos {x y : Int64} : 0 < lg_cmp x y ↔ y.toInt < x.toInt := by
  unfold lg_cmp
  rw [← Int64.lt_iff_toInt_lt]
  by_cases h : x > y
  · rw [if_pos h]; exact ⟨fun _ => h, fun _ => by decide⟩
  · rw [if_neg h]
    by_cases g : x = y
    · rw [if_pos g]; exact ⟨fun k => absurd k (by decide), fun k => absurd k h⟩
    · rw [if_neg g]; exact ⟨fun k => absurd k (by decide), fun k => absurd k h⟩
theorem lgc_z {x y : Int64} : lg_cmp x y = 0 ↔ x = y := by
  unfold lg_cmp
  by_cases h : x > y
  · rw [if_pos h]
    exact ⟨fun k => absurd k (by decide), fun k => by subst k; exact absurd h (Int64.lt_irrefl)⟩
  · rw [if_neg h]
    by_cases g : x = y
    · rw [if_pos g]; exact ⟨fun _ => g, fun _ => rfl⟩
    · rw [if_neg g]; exact ⟨fun k => absurd k (by decide), fun k => absurd k g⟩
theorem lgc_le {x y : Int64} : lg_cmp x y ≤ 0 ↔ x.toInt ≤ y.toInt := by
  rw [← Int32.not_lt, lgc_pos]
  omega
theorem lgc_neg {x y : Int64} : lg_cmp x y < 0 ↔ x.toInt < y.toInt := by
  unfold lg_cmp
  rw [← Int64.lt_iff_toInt_lt]
  by_cases h : x > y
  · rw [if_pos h]; exact ⟨fun k => absurd k (by decide), fun k => absurd (Int64.lt_trans k h) Int64.lt_irrefl⟩
  · rw [if_neg h]
    by_cases g : x = y
    · rw [if_pos g]; subst g; exact ⟨fun k => absurd k (by decide), fun k => absurd k Int64.lt_irrefl⟩
    · rw [if_neg g]
      refine ⟨fun _ => ?_, fun _ => by decide⟩
      rcases Int64.lt_or_eq_of_le (Int64.not_lt.mp h) with k | k
      · exact k
      · exact absurd k g
theorem lgc_ge {x y : Int64} : 0 ≤ lg_cmp x y ↔ y.toInt ≤ x.toInt := by
  rw [← Int32.not_lt, lgc_neg]
  omega
theorem i64 (a : Int32) : a.toInt64.toInt = a.toInt := Int32.toInt_toInt64 a
theorem ladd {a b : Int64} (h1 : -9223372036854775808 ≤ a.toInt + b.toInt) (h2 : a.toInt + b.toInt < 9223372036854775808) : (a + b).toInt = a.toInt + b.toInt := by
  rw [Int64.toInt_add]
  exact Int.bmod_eq_of_le (by omega) (by omega)
theorem lmul {a b : Int64} (h1 : -9223372036854775808 ≤ a.toInt * b.toInt) (h2 : a.toInt * b.toInt < 9223372036854775808) : (a * b).toInt = a.toInt * b.toInt := by
  rw [Int64.toInt_mul]
  exact Int.bmod_eq_of_le (by omega) (by omega)
theorem i64add (a b : Int32) : (a.toInt64 + b.toInt64).toInt = a.toInt + b.toInt := by
  have h1 := Int32.toInt_lt a
  have h2 := Int32.toInt_lt b
  have h3 := Int32.le_toInt a
  have h4 := Int32.le_toInt b
  rw [ladd (by rw [i64, i64]; omega) (by rw [i64, i64]; omega), i64, i64]
/-! ===== readers, exactly: the class ===== -/
theorem x_isShelf (q : SS) (a : Int32) : f_X7_isShelf q a = some (bI (0 ≤ a.toInt ∧ a.toInt < 6)) := by
  unfold f_X7_isShelf bI
  simp only [Int32.lt_iff_toInt_lt, Int32.le_iff_toInt_le, Int32.reduceToInt]
  grind
theorem x_isKind (q : SS) (a : Int32) : f_X3_isKind q a = some (bI (0 ≤ a.toInt ∧ a.toInt < 8)) := by
  unfold f_X3_isKind bI
  simp only [Int32.lt_iff_toInt_lt, Int32.le_iff_toInt_le, Int32.reduceToInt]
  grind
theorem x_isPerson (q : SS) (a : Int32) : f_X10_isPerson q a = some (bI (0 ≤ a.toInt ∧ a.toInt < (q.1 1 1).toInt)) := by
  unfold f_X10_isPerson bI
  simp only [Int32.lt_iff_toInt_lt, Int32.le_iff_toInt_le, Int32.reduceToInt]
  grind
theorem x_isTicket (q : SS) (a : Int32) : f_X10_isTicket q a = some (bI (0 ≤ a.toInt ∧ a.toInt < (q.1 1 2).toInt)) := by
  unfold f_X10_isTicket bI
  simp only [Int32.lt_iff_toInt_lt, Int32.le_iff_toInt_le, Int32.reduceToInt]
  grind
theorem x_isBody (q : SS) (a : Int32) : f_X3_isBody q a = some (bI (0 ≤ a.toInt ∧ a.toInt < (q.1 57 2).toInt)) := by
  unfold f_X3_isBody bI
  simp only [Int32.lt_iff_toInt_lt, Int32.le_iff_toInt_le, Int32.reduceToInt]
  grind
theorem x_isEmpty (q : SS) (a : Int32) : f_X7_isEmpty q a = some (bI (0 ≤ a.toInt ∧ a.toInt < 6 ∧ q.1 27 a.toNatClampNeg = -2)) := by
  unfold f_X7_isEmpty
  rw [x_isShelf, bind_s]
  simp only [bI_0, vin]
  unfold bI
  grind
theorem x_isSort (q : SS) (a : Int32) : f_X7_isSort q a = some (bI (0 ≤ a.toInt ∧ a.toInt ≤ 4)) := by
  unfold f_X7_isSort bI
  simp only [Int32.lt_iff_toInt_lt, Int32.le_iff_toInt_le, Int32.reduceToInt]
  grind
theorem x_isRow (q : SS) (a : Int32) : f_X7_isRow q a = some (bI (0 ≤ a.toInt ∧ a.toInt < 6 ∧ 0 ≤ (q.1 27 a.toNatClampNeg).toInt ∧ (q.1 27 a.toNatClampNeg).toInt ≤ 4)) := by
  unfold f_X7_isRow
  simp only [x_isShelf, x_isSort, bind_s, bI_0, vin]
  unfold bI
  grind
theorem x_sizeOf (q : SS) (a : Int32) : f_X7_sizeOf q a = some (if 0 ≤ a.toInt ∧ a.toInt < 6 ∧ 0 ≤ (q.1 27 a.toNatClampNeg).toInt ∧ (q.1 27 a.toNatClampNeg).toInt ≤ 4 then q.1 28 a.toNatClampNeg else 0) := by
  unfold f_X7_sizeOf
  simp only [x_isRow, bind_s, bI_0, vin]
  grind
theorem x_bodyOn (q : SS) (a : Int32) : f_X7_bodyOn q a = some (if 0 ≤ a.toInt ∧ a.toInt < 6 ∧ q.1 27 a.toNatClampNeg = -1 then q.1 29 a.toNatClampNeg else -1) := by
  unfold f_X7_bodyOn
  simp only [x_isShelf, bind_s, bI_0, vin]
  grind
theorem x_kindOf (q : SS) (h : (q.1 57 2).toInt ≤ 50) (a : Int32) : f_X3_kindOf q a = some (if 0 ≤ a.toInt ∧ a.toInt < (q.1 57 2).toInt then q.1 58 a.toNatClampNeg else -1) := by
  unfold f_X3_kindOf
  simp only [x_isBody, bind_s, bI_0, vin]
  grind
/-- the size of what lies on a shelf -/
def szX (q : SS) (a : Int32) : Int := if 0 ≤ a.toInt ∧ a.toInt < 6 ∧ 0 ≤ (q.1 27 a.toNatClampNeg).toInt ∧ (q.1 27 a.toNatClampNeg).toInt ≤ 4 then (q.1 28 a.toNatClampNeg).toInt else 0
theorem x_hasPlaces (q : SS) (a i n : Int32) : f_X7_hasPlaces q a i n = some (bI (0 ≤ i.toInt ∧ 0 ≤ n.toInt ∧ i.toInt + n.toInt ≤ szX q a)) := by
  unfold f_X7_hasPlaces szX
  by_cases h : 0 ≤ a.toInt ∧ a.toInt < 6 ∧ 0 ≤ (q.1 27 a.toNatClampNeg).toInt ∧ (q.1 27 a.toNatClampNeg).toInt ≤ 4
  · simp only [x_sizeOf, bind_s, if_pos h, lgc_pos, i64add, i64]
    simp only [Int32.lt_iff_toInt_lt, Int32.reduceToInt]
    unfold bI
    grind
  · simp only [x_sizeOf, bind_s, if_neg h, lgc_pos, i64add, i64]
    simp only [Int32.lt_iff_toInt_lt, Int32.reduceToInt]
    unfold bI
    grind
theorem x_refRow (q : SS) (a : Int32) : f_X7_refusalOfRow q a = some (if 0 ≤ a.toInt ∧ a.toInt < 6 then (if q.1 27 a.toNatClampNeg = -2 then -11 else if 0 ≤ (q.1 27 a.toNatClampNeg).toInt ∧ (q.1 27 a.toNatClampNeg).toInt ≤ 4 then 0 else -12) else -1) := by
  unfold f_X7_refusalOfRow
  simp only [x_isShelf, x_isEmpty, x_isRow, bind_s, bI_0]
  grind
theorem x_refBytes (q : SS) (a : Int32) : f_X7_refusalOfBytes q a = some (if 0 ≤ a.toInt ∧ a.toInt < 6 then (if q.1 27 a.toNatClampNeg = -2 then -11 else if q.1 27 a.toNatClampNeg = 0 then 0 else -12) else -1) := by
  unfold f_X7_refusalOfBytes
  rw [x_refRow, bind_s]
  by_cases h1 : 0 ≤ a.toInt ∧ a.toInt < 6
  · rw [if_pos h1, if_pos h1]
    by_cases h2 : q.1 27 a.toNatClampNeg = -2
    · rw [if_pos h2, if_pos h2]; rfl
    · rw [if_neg h2, if_neg h2]
      by_cases h3 : 0 ≤ (q.1 27 a.toNatClampNeg).toInt ∧ (q.1 27 a.toNatClampNeg).toInt ≤ 4
      · rw [if_pos h3, if_pos rfl, if_pos (show vin a 6 from h1)]
        by_cases h4 : q.1 27 a.toNatClampNeg = 0
        · rw [if_pos h4, if_pos h4]
        · rw [if_neg h4, if_neg h4]
      · rw [if_neg h3, if_neg (by decide), if_neg]
        intro h4
        rw [h4] at h3
        exact h3 (by decide)
  · rw [if_neg h1, if_neg h1]; rfl
theorem x_get7 (q : SS) (a i : Int32) (h : szX q a ≤ 60) : f_X7_get q a i = some (if 0 ≤ i.toInt ∧ i.toInt < szX q a then q.2 (31 + a.toNatClampNeg) i.toNatClampNeg else 0) := by
  unfold f_X7_get
  simp only [x_isRow, x_hasPlaces, bind_s, bI_0, vin, Int32.reduceToInt]
  unfold szX at *
  grind
theorem x_hasNumber (q : SS) (w n : Int32) : f_X10_hasNumber q w n = some (bI (0 ≤ w.toInt ∧ w.toInt ≤ 8 ∧ 0 ≤ n.toInt ∧ (w.toInt < 4 → n.toInt < (q.1 1 1).toInt) ∧ (4 ≤ w.toInt → w.toInt < 7 → n.toInt < (q.1 1 2).toInt) ∧ (7 ≤ w.toInt → n.toInt = 0))) := by
  unfold f_X10_hasNumber b_X10_hasNumber_49 bI
  simp only [Int32.lt_iff_toInt_lt, Int32.le_iff_toInt_le, Int32.reduceToInt, ← Int32.toInt_inj]
  grind
theorem x_getP (q : SS) (hp : (q.1 1 1).toInt ≤ 6) (w n : Int32) (h0 : 0 ≤ w.toInt) (h1 : w.toInt < 4) : f_X10_get q w n = some (if 0 ≤ n.toInt ∧ n.toInt < (q.1 1 1).toInt then q.1 (3 + w.toNatClampNeg) n.toNatClampNeg else 0) := by
  unfold f_X10_get
  simp only [x_hasNumber, bind_s, bI_0, vin]
  grind
theorem x_getT (q : SS) (hk : (q.1 1 2).toInt ≤ 12) (w n : Int32) (h0 : 4 ≤ w.toInt) (h1 : w.toInt < 7) : f_X10_get q w n = some (if 0 ≤ n.toInt ∧ n.toInt < (q.1 1 2).toInt then q.1 (3 + w.toNatClampNeg) n.toNatClampNeg else 0) := by
  unfold f_X10_get
  simp only [x_hasNumber, bind_s, bI_0, vin]
  grind
theorem x_getH (q : SS) (w : Int32) (h0 : 7 ≤ w.toInt) (h1 : w.toInt ≤ 8) : f_X10_get q w 0 = some (q.1 (3 + w.toNatClampNeg) 0) := by
  unfold f_X10_get
  simp only [x_hasNumber, bind_s, bI_0, vin, Int32.reduceToInt]
  grind
theorem x_get0 {q : SS} (hp : (q.1 1 1).toInt ≤ 6) (n : Int32) : f_X10_get q 0 n = some (if 0 ≤ n.toInt ∧ n.toInt < (q.1 1 1).toInt then q.1 3 n.toNatClampNeg else 0) := x_getP q hp 0 n (by decide) (by decide)
theorem x_get1 {q : SS} (hp : (q.1 1 1).toInt ≤ 6) (n : Int32) : f_X10_get q 1 n = some (if 0 ≤ n.toInt ∧ n.toInt < (q.1 1 1).toInt then q.1 4 n.toNatClampNeg else 0) := x_getP q hp 1 n (by decide) (by decide)
theorem x_get2 {q : SS} (hp : (q.1 1 1).toInt ≤ 6) (n : Int32) : f_X10_get q 2 n = some (if 0 ≤ n.toInt ∧ n.toInt < (q.1 1 1).toInt then q.1 5 n.toNatClampNeg else 0) := x_getP q hp 2 n (by decide) (by decide)
theorem x_get3 {q : SS} (hp : (q.1 1 1).toInt ≤ 6) (n : Int32) : f_X10_get q 3 n = some (if 0 ≤ n.toInt ∧ n.toInt < (q.1 1 1).toInt then q.1 6 n.toNatClampNeg else 0) := x_getP q hp 3 n (by decide) (by decide)
theorem x_get4 {q : SS} (hk : (q.1 1 2).toInt ≤ 12) (n : Int32) : f_X10_get q 4 n = some (if 0 ≤ n.toInt ∧ n.toInt < (q.1 1 2).toInt then q.1 7 n.toNatClampNeg else 0) := x_getT q hk 4 n (by decide) (by decide)
theorem x_get5 {q : SS} (hk : (q.1 1 2).toInt ≤ 12) (n : Int32) : f_X10_get q 5 n = some (if 0 ≤ n.toInt ∧ n.toInt < (q.1 1 2).toInt then q.1 8 n.toNatClampNeg else 0) := x_getT q hk 5 n (by decide) (by decide)
theorem x_get6 {q : SS} (hk : (q.1 1 2).toInt ≤ 12) (n : Int32) : f_X10_get q 6 n = some (if 0 ≤ n.toInt ∧ n.toInt < (q.1 1 2).toInt then q.1 9 n.toNatClampNeg else 0) := x_getT q hk 6 n (by decide) (by decide)
theorem x_get70 (q : SS) : f_X10_get q 7 0 = some (q.1 10 0) := x_getH q 7 (by decide) (by decide)
theorem x_get80 (q : SS) : f_X10_get q 8 0 = some (q.1 11 0) := x_getH q 8 (by decide) (by decide)
theorem x_hourNow (q : SS) : f_X10_hourNow q = some (q.1 10 0) := by
  unfold f_X10_hourNow
  rw [x_get70, bind_s]
theorem x_isSlipping (q : SS) (a : Int32) : f_X10_isSlipping q a = some (bI (0 ≤ a.toInt ∧ a.toInt / 8 < (q.1 1 2).toInt ∧ a.toInt % 8 < (q.1 1 1).toInt)) := by
  unfold f_X10_isSlipping
  simp only [x_isTicket, x_isPerson, bind_s, bI_0, shr3, and7]
  unfold bI
  grind
theorem x_isReal {q : SS} (hk : (q.1 1 2).toInt ≤ 12) (a : Int32) : f_X10_isReal q a = some (bI (0 ≤ a.toInt ∧ a.toInt < (q.1 1 2).toInt ∧ q.1 8 a.toNatClampNeg = 0)) := by
  unfold f_X10_isReal
  simp only [x_isTicket, x_get5 hk, bind_s, bI_0]
  unfold bI
  grind
theorem x_isLoose {q : SS} (hk : (q.1 1 2).toInt ≤ 12) (a : Int32) : f_X8_isLoose q a = some (bI (0 ≤ a.toInt → a.toInt < (q.1 1 2).toInt → (q.1 9 a.toNatClampNeg).toInt < 4)) := by
  unfold f_X8_isLoose
  rw [x_get6 hk, bind_s]
  by_cases h : 0 ≤ a.toInt ∧ a.toInt < (q.1 1 2).toInt
  · rw [if_pos h]
    simp only [Int32.le_iff_toInt_le, Int32.reduceToInt]
    unfold bI
    grind
  · rw [if_neg h]
    unfold bI
    rw [if_neg (by decide), if_pos (fun h1 h2 => absurd ⟨h1, h2⟩ h)]
theorem x_holderOf {q : SS} (hk : (q.1 1 2).toInt ≤ 12) (a : Int32) : f_X8_holderOf q a = some (if 0 ≤ a.toInt ∧ a.toInt < (q.1 1 2).toInt then q.1 25 a.toNatClampNeg else -2) := by
  unfold f_X8_holderOf
  simp only [x_isTicket, bind_s, bI_0, vin]
  grind
theorem x_canGive {q : SS} (hp : (q.1 1 1).toInt ≤ 6) (a b : Int32) : f_X8_canGive q a b = some (bI (a ≠ b ∧ 0 ≤ b.toInt ∧ b.toInt < (q.1 1 1).toInt ∧ q.1 4 b.toNatClampNeg = 0)) := by
  unfold f_X8_canGive
  simp only [x_isPerson, x_get1 hp, bind_s, bI_0]
  unfold bI
  grind
theorem x_canSlip {q : SS} (hp : (q.1 1 1).toInt ≤ 6) (hk : (q.1 1 2).toInt ≤ 12) (a b : Int32) : f_X8_canSlip q a b = some (bI (0 ≤ a.toInt ∧ a.toInt < (q.1 1 2).toInt ∧ (q.1 9 a.toNatClampNeg).toInt < 4 ∧ q.1 25 a.toNatClampNeg ≠ b ∧ 0 ≤ b.toInt ∧ b.toInt < (q.1 1 1).toInt ∧ q.1 4 b.toNatClampNeg = 0)) := by
  unfold f_X8_canSlip
  simp only [x_isTicket, x_isLoose hk, x_holderOf hk, x_canGive hp, bind_s, bI_0]
  unfold bI
  grind
/-! ===== readers, exactly: the model ===== -/
theorem m_in (q : SS) (a lo hi : Int32) : f_X12_in q a lo hi = some (bI (lo.toInt ≤ a.toInt ∧ a.toInt ≤ hi.toInt)) := by
  unfold f_X12_in bI
  simp only [Int32.lt_iff_toInt_lt, Int32.le_iff_toInt_le]
  grind
theorem dec1 {a : Int32} (h : 0 ≤ a.toInt) : (a - 1).toInt = a.toInt - 1 := by
  have := Int32.toInt_lt a
  have e : (1 : Int32).toInt = 1 := rfl
  rw [tsub (by omega) (by omega), e]
theorem inc1 {a : Int32} (h : -2 ≤ a.toInt) (h2 : a.toInt < 2000000000) : (a + 1).toInt = a.toInt + 1 := by
  have e : (1 : Int32).toInt = 1 := rfl
  rw [tadd (by omega) (by omega), e]
theorem inn {a : Int32} (h : 0 ≤ a.toInt) (h2 : a.toInt < 2000000000) : (a + 1).toInt.toNat = a.toInt.toNat + 1 := by
  rw [inc1 (by omega) h2]
  omega
theorem m_isShelf (q : SS) (a : Int32) : f_X12_isShelf q a = some (bI (0 ≤ a.toInt ∧ a.toInt < 6)) := by
  unfold f_X12_isShelf
  simp only [m_in, bind_s, bI_01, Int32.reduceToInt]
  exact congrArg some (bI_c (by omega))
theorem m_areMany (q : SS) (a : Int32) : f_X12_areMany q a = some (bI (0 ≤ a.toInt ∧ a.toInt ≤ 12)) := by
  unfold f_X12_areMany
  simp only [m_in, bind_s, bI_01, Int32.reduceToInt]
theorem m_isOne {q : SS} (h : 0 ≤ (q.1 60 1).toInt) (a : Int32) : f_X12_isOne q a = some (bI (0 ≤ a.toInt ∧ a.toInt < (q.1 60 1).toInt)) := by
  unfold f_X12_isOne
  simp only [m_in, bind_s, bI_01, Int32.reduceToInt, dec1 h]
  exact congrArg some (bI_c (by omega))
theorem m_isTicket {q : SS} (h : 0 ≤ (q.1 60 6).toInt) (a : Int32) : f_X12_isTicket q a = some (bI (0 ≤ a.toInt ∧ a.toInt < (q.1 60 6).toInt)) := by
  unfold f_X12_isTicket
  simp only [m_in, bind_s, bI_01, Int32.reduceToInt, dec1 h]
  exact congrArg some (bI_c (by omega))
theorem m_isBody {q : SS} (h : 0 ≤ (q.1 60 52).toInt) (a : Int32) : f_X12_isBody q a = some (bI (0 ≤ a.toInt ∧ a.toInt < (q.1 60 52).toInt)) := by
  unfold f_X12_isBody
  simp only [m_in, bind_s, bI_01, Int32.reduceToInt, dec1 h]
  exact congrArg some (bI_c (by omega))
theorem m_areSlip {q : SS} (hp : 0 ≤ (q.1 60 1).toInt) (hk : 0 ≤ (q.1 60 6).toInt) (a : Int32) : f_X12_areSlip q a = some (bI (0 ≤ a.toInt ∧ a.toInt / 8 < (q.1 60 6).toInt ∧ a.toInt % 8 < (q.1 60 1).toInt)) := by
  unfold f_X12_areSlip
  by_cases h : a.toInt < 0
  · rw [if_pos (Int32.lt_iff_toInt_lt.mpr h)]
    unfold bI
    rw [if_neg (fun k => by omega)]
  · have h0 : 0 ≤ a.toInt := by omega
    rw [if_neg (fun k => h (Int32.lt_iff_toInt_lt.mp k))]
    simp only [m_isTicket hk, m_isOne hp, bind_s, bI_0, div8 h0, rem8 h0]
    unfold bI
    grind
theorem eq0 {n : Int32} : n = 0 ↔ n.toInt = 0 := by
  rw [← Int32.toInt_inj]
  rfl
theorem w08 {w : Int32} (h0 : 0 ≤ w.toInt) (h8 : w.toInt ≤ 8) : w = 0 ∨ w = 1 ∨ w = 2 ∨ w = 3 ∨ w = 4 ∨ w = 5 ∨ w = 6 ∨ w = 7 ∨ w = 8 := by
  simp only [← Int32.toInt_inj, Int32.reduceToInt]
  omega
theorem m_isPlace {q : SS} (hp : 0 ≤ (q.1 60 1).toInt) (hk : 0 ≤ (q.1 60 6).toInt) (n w : Int32) : f_X12_isPlace q n w = some (bI (okN (q.1 60 1).toInt (q.1 60 6).toInt w.toInt n.toInt)) := by
  unfold f_X12_isPlace
  simp only [m_in, m_isOne hp, m_isTicket hk, bind_s, bI_0, bI_01, Int32.reduceToInt]
  simp only [eq0]
  unfold bI
  grind
theorem x_hasN {q : SS} (h : RY q) (w n : Int32) : f_X10_hasNumber q w n = some (bI (okN (q.1 60 1).toInt (q.1 60 6).toInt w.toInt n.toInt)) := by
  rw [x_hasNumber, RY_p h, RY_k h]
  unfold bI
  grind
theorem m_mayHave {q : SS} (hp : 0 ≤ (q.1 60 1).toInt) (w v : Int32) (h0 : 0 ≤ w.toInt) (h8 : w.toInt ≤ 8) : f_X12_mayHave q w v = some (bI (okV (q.1 60 1).toInt w.toInt v.toInt)) := by
  unfold f_X12_mayHave
  simp only [m_in, m_isOne hp, bind_s, bI_01, Int32.reduceToInt]
  rcases w08 h0 h8 with rfl | rfl | rfl | rfl | rfl | rfl | rfl | rfl | rfl
  all_goals
    simp only [sw, Int32.reduceToInt]
    unfold bI
    grind
theorem x_mayBe {q : SS} (w v : Int32) (h0 : 0 ≤ w.toInt) (h8 : w.toInt ≤ 8) : f_X10_mayBe q w v = some (bI (okV (q.1 1 1).toInt w.toInt v.toInt)) := by
  unfold f_X10_mayBe
  simp only [x_isPerson, bind_s, bI_01, vin, Int32.lt_iff_toInt_lt, Int32.le_iff_toInt_le, Int32.reduceToInt]
  rcases w08 h0 h8 with rfl | rfl | rfl | rfl | rfl | rfl | rfl | rfl | rfl
  all_goals
    simp only [Int32.reduceToInt, Int32.reduceToNatClampNeg, ← Int32.toInt_inj, stv3_0, stv3_1, stv3_2, stv3_3, stv3_4, stv3_5, stv3_6, stv3_7, stv3_8]
    unfold bI
    grind
theorem m_rowFault {q : SS} {a : Int32} (h : 0 ≤ a.toInt ∧ a.toInt < 6) : f_X12_rowFault q a = some (if q.1 89 a.toNatClampNeg = -1 then -11 else if q.1 89 a.toNatClampNeg = -2 then 0 else -12) := by
  unfold f_X12_rowFault
  simp only [vin]
  grind
theorem mul60 {a b : Int32} (ha : 0 ≤ a.toInt ∧ a.toInt < 6) (hb : 0 ≤ b.toInt ∧ b.toInt ≤ 60) : ((60 : Int32) * a + b).toInt = 60 * a.toInt + b.toInt := by
  have e : (60 : Int32).toInt = 60 := rfl
  have e1 : ((60 : Int32) * a).toInt = 60 * a.toInt := by rw [tmul (by rw [e]; omega) (by rw [e]; omega), e]
  rw [tadd (by omega) (by omega), e1]
theorem m_at {q : SS} {a b : Int32} (ha : 0 ≤ a.toInt ∧ a.toInt < 6) (hb : 0 ≤ b.toInt ∧ b.toInt < 60) : f_X12_at q a b = some ((q.2 91 (60 * a.toNatClampNeg + b.toNatClampNeg)).toInt32) := by
  unfold f_X12_at
  have e := mul60 ha (b := b) (by omega)
  have e2 : ((60 : Int32) * a + b).toNatClampNeg = 60 * a.toNatClampNeg + b.toNatClampNeg := by
    simp only [cn_eq, e]
    omega
  rw [if_pos ⟨by omega, by omega⟩, e2]
theorem m_maySlip {q : SS} {a b : Int32} (ha : 0 ≤ a.toInt ∧ a.toInt < 12) (hb : 0 ≤ b.toInt ∧ b.toInt < 6) : f_X12_maySlip q a b = some (bI (q.1 67 a.toNatClampNeg ≠ 4 ∧ q.1 81 a.toNatClampNeg ≠ b ∧ q.1 62 b.toNatClampNeg = 0)) := by
  unfold f_X12_maySlip bI
  simp only [vin]
  grind
theorem m_look {q : SS} (h0 : 0 ≤ (q.1 60 19).toInt) (h : (q.1 60 18).toInt ≤ 120) : f_X12_look q = some (if (q.1 60 19).toInt < (q.1 60 18).toInt then q.1 73 (q.1 60 19).toNatClampNeg else -1) := by
  unfold f_X12_look
  simp only [vin, Int32.le_iff_toInt_le]
  grind

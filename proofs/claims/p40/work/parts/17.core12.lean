/-! ===== more steps, deeper, more locals: the same run ===== -/
def SubL (L L' : PL) : Prop := ∀ k v, lk L k = some v → lk L' k = some v
theorem lk_cons {q : Nat × Value} {t : PL} {k : Nat} : lk (q :: t) k = bif Nat.beq q.1 k then some q.2 else lk t k := rfl
theorem lk_rmk {L : PL} {i j : Nat} : lk (rmk L i) j = if j = i then none else lk L j := by
  induction L with
  | nil =>
    show (none : Option Value) = if j = i then none else none
    split <;> rfl
  | cons a t ih =>
    unfold rmk at ih ⊢
    rw [List.filter_cons]
    by_cases h : a.1 = i
    · have e : Nat.beq a.1 i = true := by rw [h]; exact Nat.beq_refl i
      rw [e]
      simp only [Bool.not_true, Bool.false_eq_true, if_false]
      rw [ih]
      by_cases hj : j = i
      · rw [if_pos hj, if_pos hj]
      · rw [if_neg hj, if_neg hj]
        have e2 : Nat.beq a.1 j = false := by
          cases e3 : Nat.beq a.1 j
          · rfl
          · exact absurd (Nat.eq_of_beq_eq_true e3) (by omega)
        show _ = lk (a :: t) j
        rw [lk_cons, e2]
        rfl
    · have e : Nat.beq a.1 i = false := by
        cases e3 : Nat.beq a.1 i
        · rfl
        · exact absurd (Nat.eq_of_beq_eq_true e3) h
      rw [e]
      simp only [Bool.not_false, if_true]
      rw [lk_cons, lk_cons]
      cases e4 : Nat.beq a.1 j with
      | true =>
        have : a.1 = j := Nat.eq_of_beq_eq_true e4
        rw [if_neg (by omega)]
        rfl
      | false => exact ih
theorem lk_put {k : Nat} {v : Value} {j : Nat} : ∀ {L : PL}, lk L k = none → lk (put L k v) j = if j = k then some v else lk L j
  | [], _ => by
    unfold put lk
    by_cases hj : j = k
    · subst hj
      rw [if_pos rfl]
      have : Nat.beq j j = true := Nat.beq_refl j
      show (bif Nat.beq j j then some v else lk [] j) = _
      rw [this]
      rfl
    · rw [if_neg hj]
      have e2 : Nat.beq k j = false := by
        cases e3 : Nat.beq k j
        · rfl
        · exact absurd (Nat.eq_of_beq_eq_true e3) (by omega)
      show (bif Nat.beq k j then some v else lk [] j) = _
      rw [e2]
      rfl
  | a :: t, h => by
    rw [lk_cons] at h
    cases e : Nat.beq a.1 k with
    | true => rw [e] at h; cases h
    | false =>
      rw [e] at h
      unfold put
      cases eb : Nat.blt k a.1 with
      | true =>
        show lk ((k, v) :: a :: t) j = _
        by_cases hj : j = k
        · subst hj
          rw [if_pos rfl]
          rw [lk_cons]
          have : Nat.beq j j = true := Nat.beq_refl j
          show (bif Nat.beq j j then some v else _) = _
          rw [this]
          rfl
        · rw [if_neg hj]
          have e2 : Nat.beq k j = false := by
            cases e3 : Nat.beq k j
            · rfl
            · exact absurd (Nat.eq_of_beq_eq_true e3) (by omega)
          show (bif Nat.beq k j then some v else lk (a :: t) j) = _
          rw [e2]
          rfl
      | false =>
        show lk (a :: put t k v) j = _
        rw [lk_cons, lk_cons, lk_put (L := t) h]
        cases e4 : Nat.beq a.1 j with
        | true =>
          have e5 : a.1 = j := Nat.eq_of_beq_eq_true e4
          have : j ≠ k := by
            intro e6
            rw [e5, e6] at e
            have : Nat.beq k k = true := Nat.beq_refl k
            rw [this] at e
            cases e
          show some a.2 = if j = k then some v else some a.2
          rw [if_neg this]
        | false => rfl
theorem lk_rm1 {L : PL} {k j : Nat} : lk (rm1 L k) j = if j = k then none else if j + 1 = k ∧ lg L j = true then none else lk L j := by
  cases k with
  | zero =>
    show lk (rmk L 0) j = _
    rw [lk_rmk]
    by_cases hj : j = 0
    · rw [if_pos hj, if_pos hj]
    · rw [if_neg hj, if_neg hj, if_neg (by omega)]
  | succ i =>
    unfold rm1
    dsimp only
    cases e : lg L i with
    | true =>
      show lk (rmk (rmk L (i + 1)) i) j = _
      rw [lk_rmk, lk_rmk]
      by_cases h1 : j = i
      · subst h1
        rw [if_pos rfl, if_neg (by omega), if_pos ⟨rfl, e⟩]
      · rw [if_neg h1]
        by_cases h2 : j = i + 1
        · rw [if_pos h2, if_pos h2]
        · rw [if_neg h2, if_neg h2, if_neg (by omega)]
    | false =>
      show lk (rmk L (i + 1)) j = _
      rw [lk_rmk]
      by_cases h2 : j = i + 1
      · rw [if_pos h2, if_pos h2]
      · rw [if_neg h2, if_neg h2, if_neg]
        intro h3
        have : j = i := by omega
        subst this
        rw [e] at h3
        exact absurd h3.2 (by decide)
theorem lg_sub {L L' : PL} (h : SubL L L') {j : Nat} {w : Value} (hj : lk L j = some w) : lg L' j = lg L j := by
  unfold lg
  rw [hj, h j w hj]
theorem sub_ins1 {L L' : PL} (h : SubL L L') (k : Nat) (v : Value) : SubL (ins1 L k v) (ins1 L' k v) := by
  intro j w hw
  unfold ins1 at hw ⊢
  have n1 : lk (rm1 L k) k = none := by rw [lk_rm1, if_pos rfl]
  have n2 : lk (rm1 L' k) k = none := by rw [lk_rm1, if_pos rfl]
  rw [lk_put n1] at hw
  rw [lk_put n2]
  by_cases hj : j = k
  · rw [if_pos hj] at hw ⊢; exact hw
  · rw [if_neg hj] at hw ⊢
    rw [lk_rm1, if_neg hj] at hw ⊢
    by_cases hc : j + 1 = k ∧ lg L j = true
    · rw [if_pos hc] at hw; cases hw
    · rw [if_neg hc] at hw
      rw [lg_sub h hw, if_neg hc]
      exact h j w hw
theorem sub_ins2 {L L' : PL} (h : SubL L L') (k : Nat) (v : Value) : SubL (ins2 L k v) (ins2 L' k v) := by
  intro j w hw
  unfold ins2 rm2 at hw ⊢
  have n1 : lk (rmk (rm1 L k) (k + 1)) k = none := by rw [lk_rmk, if_neg (by omega), lk_rm1, if_pos rfl]
  have n2 : lk (rmk (rm1 L' k) (k + 1)) k = none := by rw [lk_rmk, if_neg (by omega), lk_rm1, if_pos rfl]
  rw [lk_put n1] at hw
  rw [lk_put n2]
  by_cases hj : j = k
  · rw [if_pos hj] at hw ⊢; exact hw
  · rw [if_neg hj] at hw ⊢
    rw [lk_rmk] at hw ⊢
    by_cases hj1 : j = k + 1
    · rw [if_pos hj1] at hw; cases hw
    · rw [if_neg hj1] at hw ⊢
      rw [lk_rm1, if_neg hj] at hw ⊢
      by_cases hc : j + 1 = k ∧ lg L j = true
      · rw [if_pos hc] at hw; cases hw
      · rw [if_neg hc] at hw
        rw [lg_sub h hw, if_neg hc]
        exact h j w hw
theorem pLd_sub {ok : Value → Bool} {L L' : PL} (hs : SubL L L') {k : Nat} {st : List Value} {q : PL × List Value} (h : pLd ok L k st = some q) : ∃ L2, pLd ok L' k st = some (L2, q.2) ∧ SubL q.1 L2 := by
  obtain ⟨v, h1, h2, rfl⟩ := pLd_i h
  refine ⟨L', ?_, hs⟩
  unfold pLd
  rw [hs k v h1, Option.bind_some, h2]
  rfl
theorem pL_sub {i : Instr} {nL : Nat} {L L' : PL} (hs : SubL L L') {st : List Value} {q : PL × List Value} (h : pL i nL L st = some q) : ∃ L2, pL i nL L' st = some (L2, q.2) ∧ SubL q.1 L2 := by
  have s1 : ∀ {ok : Value → Bool} {k : Nat}, pSt1 ok nL L k st = some q → ∃ L2, pSt1 ok nL L' k st = some (L2, q.2) ∧ SubL q.1 L2 := by
    intro ok k h
    obtain ⟨v, r, rfl, h1, h2, rfl⟩ := pSt1_i h
    refine ⟨ins1 L' k v, ?_, sub_ins1 hs k v⟩
    unfold pSt1
    dsimp only
    have : Nat.blt k nL = true := Nat.ble_eq_true_of_le h2
    rw [h1, this]
    rfl
  cases i
  case iload k => exact pLd_sub hs h
  case iload_n k => exact pLd_sub hs h
  case lload k => exact pLd_sub hs h
  case lload_n k => exact pLd_sub hs h
  case aload k => exact pLd_sub hs h
  case aload_n k => exact pLd_sub hs h
  case istore k => exact s1 h
  case istore_n k => exact s1 h
  case astore k => exact s1 h
  case astore_n k => exact s1 h
  case lstore k =>
    obtain ⟨v, r, rfl, h1, h2, rfl⟩ := pSt2_i h
    refine ⟨ins2 L' k v, ?_, sub_ins2 hs k v⟩
    show pSt2 nL L' k (v :: r) = _
    unfold pSt2
    dsimp only
    have : Nat.blt (k + 1) nL = true := Nat.ble_eq_true_of_le h2
    rw [h1, this]
    rfl
  case lstore_n k =>
    obtain ⟨v, r, rfl, h1, h2, rfl⟩ := pSt2_i h
    refine ⟨ins2 L' k v, ?_, sub_ins2 hs k v⟩
    show pSt2 nL L' k (v :: r) = _
    unfold pSt2
    dsimp only
    have : Nat.blt ((k : Nat) + 1) nL = true := Nat.ble_eq_true_of_le h2
    rw [h1, this]
    rfl
  case iinc k n =>
    unfold pL at h
    dsimp only at h
    split at h
    next x hx =>
      cases eb : Nat.blt k nL with
      | false => rw [eb] at h; cases h
      | true =>
        rw [eb] at h
        cases h
        refine ⟨ins1 L' k (.int (x + Int32.ofInt n)), ?_, sub_ins1 hs k _⟩
        unfold pL
        dsimp only
        rw [hs k _ hx]
        dsimp only
        rw [eb]
        rfl
    next => cases h
  all_goals (have h2 : (none : Option (PL × List Value)) = some q := h; cases h2)
theorem pL_none {i : Instr} {nL : Nat} {L : PL} {st : List Value} {q : PL × List Value} (h : pL i nL L st = some q) {Λ : PRo} {ini : Bool} {c pc pc' : Nat} {σ : PSt} : pS Λ ini c pc pc' σ i st = none ∧ retOf i st = none ∧ callOf i = none := by
  cases i
  case iload k => exact ⟨rfl, rfl, rfl⟩
  case iload_n k => exact ⟨rfl, rfl, rfl⟩
  case lload k => exact ⟨rfl, rfl, rfl⟩
  case lload_n k => exact ⟨rfl, rfl, rfl⟩
  case aload k => exact ⟨rfl, rfl, rfl⟩
  case aload_n k => exact ⟨rfl, rfl, rfl⟩
  case istore k => exact ⟨rfl, rfl, rfl⟩
  case istore_n k => exact ⟨rfl, rfl, rfl⟩
  case astore k => exact ⟨rfl, rfl, rfl⟩
  case astore_n k => exact ⟨rfl, rfl, rfl⟩
  case lstore k => exact ⟨rfl, rfl, rfl⟩
  case lstore_n k => exact ⟨rfl, rfl, rfl⟩
  case iinc k n => exact ⟨rfl, rfl, rfl⟩
  all_goals (have h2 : (none : Option (PL × List Value)) = some q := h; cases h2)
theorem pS_none {i : Instr} {st : List Value} {Λ : PRo} {ini : Bool} {c pc pc' : Nat} {σ : PSt} {q : Nat × List Value × PSt} (h : pS Λ ini c pc pc' σ i st = some q) : retOf i st = none ∧ callOf i = none := by
  cases i <;> first | exact ⟨rfl, rfl⟩ | (have h2 : (none : PO) = some q := h; cases h2)
/-! the four kinds of step, as rows -/
theorem prun_S {Λ : PRo} {n d m pc len : Nat} {L : PL} {st : List Value} {σ : PSt} {i : Instr} {pc2 : Nat} {st2 : List Value} {σ2 : PSt} (hd : decode (mB m) pc = .ok (i, len)) (hl : lenOk i len = true) (h : pS Λ (isIni m) (mC m) pc (pc + len) σ i st = some (pc2, st2, σ2)) : prun Λ (n + 1) d m pc L st σ = prun Λ n d m pc2 L st2 σ2 := by
  obtain ⟨h1, h2⟩ := pS_none h
  rw [prun, hd]
  dsimp only
  rw [if_pos hl, h1, h2]
  dsimp only
  rw [h]
theorem prun_L {Λ : PRo} {n d m pc len : Nat} {L : PL} {st : List Value} {σ : PSt} {i : Instr} {L2 : PL} {st2 : List Value} (hd : decode (mB m) pc = .ok (i, len)) (hl : lenOk i len = true) (h : pL i (mL m) L st = some (L2, st2)) : prun Λ (n + 1) d m pc L st σ = prun Λ n d m (pc + len) L2 st2 σ := by
  obtain ⟨h0, h1, h2⟩ := pL_none h (Λ := Λ) (ini := isIni m) (c := mC m) (pc := pc) (pc' := pc + len) (σ := σ)
  rw [prun, hd]
  dsimp only
  rw [if_pos hl, h1, h2]
  dsimp only
  rw [h0]
  dsimp only
  rw [h]
theorem prun_R {Λ : PRo} {n d m pc len : Nat} {L : PL} {st : List Value} {σ : PSt} {i : Instr} {v : Option Value} (hd : decode (mB m) pc = .ok (i, len)) (hl : lenOk i len = true) (h : retOf i st = some v) (hok : okRet (mR m) v = true) : prun Λ (n + 1) d m pc L st σ = some (v, σ) := by
  rw [prun, hd]
  dsimp only
  rw [if_pos hl, h]
  dsimp only
  rw [if_pos hok]
theorem retC {i : Instr} {q : Nat × Nat} (h : callOf i = some q) (st : List Value) : retOf i st = none := by
  cases i <;> first | rfl | (have h2 : (none : Option (Nat × Nat)) = some q := h; cases h2)
theorem prun_C {Λ : PRo} {n d m pc len k idx y : Nat} {L : PL} {st as rest : List Value} {σ σ1 : PSt} {i : Instr} {v : Option Value} (hd : decode (mB m) pc = .ok (i, len)) (hl : lenOk i len = true) (h : callOf i = some (k, idx)) (hca : ca (mC m) idx = some y) (hk : kdOk k y = true) (hp : popN (nA y) st [] = some (as, rest)) (hc : catS rest ≤ 8 ∧ catS as ≤ mL y ∧ vOk k y as σ = true)
    (hrun : prun Λ n d y 0 (entL as) [] σ = some (v, σ1)) : prun Λ (n + 1) (d + 1) m pc L st σ = prun Λ n (d + 1) m (pc + 3) L (v.toList ++ rest) σ1 := by
  rw [prun, hd]
  dsimp only
  rw [if_pos hl, retC h, h]
  dsimp only
  rw [hca]
  dsimp only
  rw [if_pos hk, hp]
  dsimp only
  rw [if_pos hc, hrun]
theorem prun_O {Λ : PRo} {n d m pc len k idx o : Nat} {L : PL} {rest : List Value} {σ : PSt} {i : Instr} (hd : decode (mB m) pc = .ok (i, len)) (hl : lenOk i len = true) (h : callOf i = some (k, idx)) (hca : ca (mC m) idx = none) (hoi : k = 1 ∧ oi (mC m) idx = true) (hc : catS rest ≤ 8) : prun Λ (n + 1) (d + 1) m pc L (.ref o :: rest) σ = prun Λ n (d + 1) m (pc + 3) L rest σ := by
  rw [prun, hd]
  dsimp only
  rw [if_pos hl, retC h, h]
  dsimp only
  rw [hca]
  dsimp only
  rw [if_pos hoi, if_pos hc]
theorem prun_A {Λ : PRo} {n d m pc len k idx : Nat} {L : PL} {st rest : List Value} {σ σ1 : PSt} {i : Instr} (hd : decode (mB m) pc = .ok (i, len)) (hl : lenOk i len = true) (h : callOf i = some (k, idx)) (hca : ca (mC m) idx = none) (hoi : ¬ (k = 1 ∧ oi (mC m) idx = true)) (hac : k = 2 ∧ ac (mC m) idx = true) (hcp : oCpy st σ = some (rest, σ1)) : prun Λ (n + 1) (d + 1) m pc L st σ = prun Λ n (d + 1) m (pc + 3) L rest σ1 := by
  rw [prun, hd]
  dsimp only
  rw [if_pos hl, retC h, h]
  dsimp only
  rw [hca]
  dsimp only
  rw [if_neg hoi, if_pos hac, hcp]
theorem prun_M {Λ : PRo} {n d m pc len k idx j : Nat} {L : PL} {st st1 : List Value} {σ : PSt} {i : Instr} (hd : decode (mB m) pc = .ok (i, len)) (hl : lenOk i len = true) (h : callOf i = some (k, idx)) (hca : ca (mC m) idx = none) (hoi : ¬ (k = 1 ∧ oi (mC m) idx = true)) (hac : ¬ (k = 2 ∧ ac (mC m) idx = true)) (hk : k = 2) (hmm : mm (mC m) idx = some j) (hst : oMM j st = some st1) : prun Λ (n + 1) (d + 1) m pc L st σ = prun Λ n (d + 1) m (pc + 3) L st1 σ := by
  rw [prun, hd]
  dsimp only
  rw [if_pos hl, retC h, h]
  dsimp only
  rw [hca]
  dsimp only
  rw [if_neg hoi, if_neg hac, if_pos hk, hmm]
  dsimp only
  rw [hst]
theorem pS_ro {Λ Λ' : PRo} (hΛ : Λ.1 = 0 ∨ Λ' = Λ) {ini : Bool} {c pc pc' : Nat} {σ : PSt} {i : Instr} {st : List Value} {q : Nat × List Value × PSt} (h : pS Λ ini c pc pc' σ i st = some q) : pS Λ' ini c pc pc' σ i st = some q := by
  rcases hΛ with hΛ | rfl
  · cases i
    case iaload =>
      rcases oLdI_i h with ⟨i, ob, r, rfl, hh, e⟩ | ⟨i, ob, r, rfl, hh, e⟩
      · subst e
        show oLdI Λ' 1 (.int i :: .ref ob :: r) pc' σ = _
        unfold oLdI
        dsimp only
        rw [if_pos hh]
      · exact absurd hh.2.1 (by omega)
    case baload =>
      rcases oLdI_i h with ⟨i, ob, r, rfl, hh, e⟩ | ⟨i, ob, r, rfl, hh, e⟩
      · subst e
        show oLdI Λ' 2 (.int i :: .ref ob :: r) pc' σ = _
        unfold oLdI
        dsimp only
        rw [if_pos hh]
      · exact absurd hh.2.1 (by omega)
    case saload =>
      rcases oLdI_i h with ⟨i, ob, r, rfl, hh, e⟩ | ⟨i, ob, r, rfl, hh, e⟩
      · subst e
        show oLdI Λ' 3 (.int i :: .ref ob :: r) pc' σ = _
        unfold oLdI
        dsimp only
        rw [if_pos hh]
      · exact absurd hh.2.1 (by omega)
    case arraylength =>
      rcases oLen_i h with ⟨ob, r, rfl, hh, e⟩ | ⟨ob, r, rfl, hh, e⟩
      · subst e
        show oLen Λ' (.ref ob :: r) pc' σ = _
        unfold oLen
        dsimp only
        rw [if_pos hh]
      · exact absurd hh (by omega)
    all_goals exact h
  · exact h
set_option maxHeartbeats 4000000 in
theorem prun_mono (Λ Λ' : PRo) (hΛ : Λ.1 = 0 ∨ Λ' = Λ) : ∀ (n d m pc : Nat) (L : PL) (st : List Value) (σ : PSt) (r : Option Value × PSt), prun Λ n d m pc L st σ = some r → ∀ (n' d' : Nat) (L' : PL), n ≤ n' → d ≤ d' → SubL L L' → prun Λ' n' d' m pc L' st σ = some r := by
  intro n
  induction n with
  | zero => intro d m pc L st σ r h; cases h
  | succ n ih =>
    intro d m pc L st σ r h n' d' L' hn hdd hs
    obtain ⟨n1, rfl⟩ : ∃ n1, n' = n1 + 1 := ⟨n' - 1, by omega⟩
    have hn1 : n ≤ n1 := by omega
    unfold prun at h
    split at h
    next => cases h
    next i len hd =>
    split at h
    next hlen =>
      split at h
      next v' hret =>
        split at h
        next hok =>
          cases h
          exact prun_R hd hlen hret hok
        next => cases h
      next hret =>
        split at h
        next k idx hcall =>
          split at h
          next => cases h
          next d1 =>
          obtain ⟨d2, rfl⟩ : ∃ d2, d' = d2 + 1 := ⟨d' - 1, by omega⟩
          split at h
          next y hca =>
            split at h
            next hkd =>
              split at h
              next as rest hpop =>
                split at h
                next hc =>
                  split at h
                  next v2 σ2 hcal =>
                    rw [prun_C hd hlen hcall hca hkd hpop hc (ih _ _ _ _ _ _ _ hcal n1 d2 _ hn1 (by omega) (fun _ _ h => h))]
                    exact ih _ _ _ _ _ _ _ h n1 (d2 + 1) L' hn1 (by omega) hs
                  next => cases h
                next => cases h
              next => cases h
            next => cases h
          next hca =>
            split at h
            next hoi =>
              split at h
              next o rest =>
                split at h
                next hcr =>
                  rw [prun_O hd hlen hcall hca hoi hcr]
                  exact ih _ _ _ _ _ _ _ h n1 (d2 + 1) L' hn1 (by omega) hs
                next => cases h
              next => cases h
            next hoi =>
              split at h
              next hac =>
                split at h
                next rest τ hcp =>
                  rw [prun_A hd hlen hcall hca hoi hac hcp]
                  exact ih _ _ _ _ _ _ _ h n1 (d2 + 1) L' hn1 (by omega) hs
                next => cases h
              next hac =>
                split at h
                next hk2 =>
                  split at h
                  next j hmm =>
                    split at h
                    next st1 hst =>
                      rw [prun_M hd hlen hcall hca hoi hac hk2 hmm hst]
                      exact ih _ _ _ _ _ _ _ h n1 (d2 + 1) L' hn1 (by omega) hs
                    next => cases h
                  next => cases h
                next => cases h
        next hcall =>
          split at h
          next pc2 st2 σ2 hps =>
            rw [prun_S hd hlen (pS_ro hΛ hps)]
            exact ih _ _ _ _ _ _ _ h n1 d' L' hn1 hdd hs
          next =>
            split at h
            next L2 st2 hpl =>
              obtain ⟨L3, h3, h4⟩ := pL_sub hs hpl
              rw [prun_L hd hlen h3]
              exact ih _ _ _ _ _ _ _ h n1 d' L3 hn1 hdd h4
            next => cases h
    next => cases h

/-! ===== THE RUN ===== -/
theorem oCpy_i {st : List Value} {σ : PSt} {q : List Value × PSt} (h : oCpy st σ = some q) : ∃ n dp b sp a r, st = .int n :: .int dp :: .ref b :: .int sp :: .ref a :: r ∧ (a < pnc σ ∧ b < pnc σ ∧ (ply σ a).1 = (ply σ b).1 ∧ ¬ sp < 0 ∧ ¬ dp < 0 ∧ ¬ n < 0 ∧ sp.toNatClampNeg + n.toNatClampNeg ≤ (ply σ a).2 ∧ dp.toNatClampNeg + n.toNatClampNeg ≤ (ply σ b).2 ∧ catS r ≤ 8) ∧
    ((ply σ a).1 = 1 ∧ q = (r, riv σ b (va_cpy (piv σ a) (piv σ b) sp.toNatClampNeg dp.toNatClampNeg n.toNatClampNeg)) ∨ (ply σ a).1 = 4 ∧ q = (r, rlv σ b (va_cpy (plv σ a) (plv σ b) sp.toNatClampNeg dp.toNatClampNeg n.toNatClampNeg))) := by
  unfold oCpy at h
  split at h
  · split at h
    next hh =>
      split at h
      next h1 => cases h; exact ⟨_, _, _, _, _, _, rfl, hh, Or.inl ⟨h1, rfl⟩⟩
      next =>
        split at h
        next h4 => cases h; exact ⟨_, _, _, _, _, _, rfl, hh, Or.inr ⟨h4, rfl⟩⟩
        next => cases h
    next => cases h
  · cases h
def Goal9 (Λ : PRo) (d m pc : Nat) (L : PL) (st : List Value) (σ : PSt) (v : Option Value) (σ1 : PSt) : Prop :=
  (pnc σ ≤ pnc σ1 ∧ pns σ ≤ pns σ1) ∧ ∀ X : Ctx, CX Λ X → xm X = m → d ≤ (xR X).frames → 64 * d ≤ (xR X).locals → pnc σ1 ≤ xk X + (xR X).cells → pns σ1 ≤ xn X + (xR X).slots →
    (∀ (pc' : Nat) (L' : PL), decode (mB (xm X)) pc' = .ok (retI v, 1) → okRet (mR (xm X)) v = true → WS X pc' L' v.toList σ1) → WS X pc L st σ
set_option maxHeartbeats 4000000 in
theorem MT (Λ : PRo) : ∀ (n d m pc : Nat) (L : PL) (st : List Value) (σ : PSt) (v : Option Value) (σ1 : PSt), prun Λ n d m pc L st σ = some (v, σ1) → Goal9 Λ d m pc L st σ v σ1 := by
  intro n
  induction n with
  | zero => intro d m pc L st σ v σ1 h; cases h
  | succ n ih =>
    intro d m pc L st σ v σ1 h
    unfold prun at h
    split at h
    next => cases h
    next i len hd =>
    split at h
    next hlen =>
      split at h
      next v' hret =>
        split at h
        next hok =>
          cases h
          refine ⟨⟨Nat.le_refl _, Nat.le_refl _⟩, fun X C hm _ _ _ _ kr => ?_⟩
          obtain ⟨rfl, rfl, hl1⟩ := retOf_i hret
          obtain rfl := hl1 len hlen
          subst hm
          exact kr pc L hd hok
        next => cases h
      next hret =>
        split at h
        next k idx hcall =>
          obtain ⟨hi, hl3⟩ := callOf_i hcall
          obtain rfl := hl3 len hlen
          split at h
          next => cases h
          next d' =>
          split at h
          next y hca =>
            split at h
            next hkd =>
              split at h
              next as rest hpop =>
                split at h
                next hc =>
                  split at h
                  next v2 σ2 hcal =>
                    obtain ⟨⟨m1, m2⟩, W1⟩ := ih _ _ _ _ _ _ _ _ hcal
                    obtain ⟨⟨m3, m4⟩, W2⟩ := ih _ _ _ _ _ _ _ _ h
                    refine ⟨⟨Nat.le_trans m1 m3, Nat.le_trans m2 m4⟩, fun X C hm hf hlo hr1 hr2 kr => ?_⟩
                    subst hm
                    obtain ⟨bs, e1, e2, e3⟩ := popN_i hpop
                    rw [List.append_nil] at e1
                    subst e1
                    subst e3
                    exact ws_call C hd hi hca hkd e2 hc.1 hc.2.1 hc.2.2 hf hlo m1 m2 (by omega) (by omega) W1 (W2 X C rfl hf hlo hr1 hr2 kr)
                  next => cases h
                next => cases h
              next => cases h
            next => cases h
          next hca =>
            split at h
            next hoi =>
              split at h
              next o rest =>
                split at h
                next hcr =>
                  obtain ⟨⟨m3, m4⟩, W2⟩ := ih _ _ _ _ _ _ _ _ h
                  refine ⟨⟨m3, m4⟩, fun X C hm hf hlo hr1 hr2 kr => ?_⟩
                  subst hm
                  have hi2 : i = .invokespecial idx := by
                    rcases hi with ⟨q, -⟩ | ⟨-, q⟩ | ⟨q, -⟩
                    · omega
                    · exact q
                    · omega
                  rw [hi2] at hd
                  exact ws_oi C hd hoi.2 (by omega) (by omega) hcr (W2 X C rfl hf hlo hr1 hr2 kr)
                next => cases h
              next => cases h
            next =>
              split at h
              next hac =>
                split at h
                next rest τ hcp =>
                  obtain ⟨⟨m3, m4⟩, W2⟩ := ih _ _ _ _ _ _ _ _ h
                  have hi2 : i = .invokestatic idx := by
                    rcases hi with ⟨q, -⟩ | ⟨q, -⟩ | ⟨-, q⟩
                    · omega
                    · omega
                    · exact q
                  obtain ⟨n9, dp, b, sp, a, r, rfl, hh, hq⟩ := oCpy_i hcp
                  rcases hq with ⟨ht, hq⟩ | ⟨ht, hq⟩
                  · cases hq
                    refine ⟨⟨m3, m4⟩, fun X C hm hf hlo hr1 hr2 kr => ?_⟩
                    subst hm
                    rw [hi2] at hd
                    exact ws_cpyI C hd hac.2 (by omega) (by omega) hh.2.2.2.2.2.2.2.2 hh.1 hh.2.1 ht (hh.2.2.1 ▸ ht) hh.2.2.2.1 hh.2.2.2.2.1 hh.2.2.2.2.2.1 hh.2.2.2.2.2.2.1 hh.2.2.2.2.2.2.2.1 (W2 X C rfl hf hlo hr1 hr2 kr)
                  · cases hq
                    refine ⟨⟨m3, m4⟩, fun X C hm hf hlo hr1 hr2 kr => ?_⟩
                    subst hm
                    rw [hi2] at hd
                    exact ws_cpyL C hd hac.2 (by omega) (by omega) hh.2.2.2.2.2.2.2.2 hh.1 hh.2.1 ht (hh.2.2.1 ▸ ht) hh.2.2.2.1 hh.2.2.2.2.1 hh.2.2.2.2.2.1 hh.2.2.2.2.2.2.1 hh.2.2.2.2.2.2.2.1 (W2 X C rfl hf hlo hr1 hr2 kr)
                next => cases h
              next =>
                split at h
                next hk2 =>
                  split at h
                  next j hmm =>
                    split at h
                    next st1 hst =>
                      obtain ⟨⟨m3, m4⟩, W2⟩ := ih _ _ _ _ _ _ _ _ h
                      refine ⟨⟨m3, m4⟩, fun X C hm hf hlo hr1 hr2 kr => ?_⟩
                      subst hm
                      have hi2 : i = .invokestatic idx := by
                        rcases hi with ⟨q, -⟩ | ⟨q, -⟩ | ⟨-, q⟩
                        · omega
                        · omega
                        · exact q
                      rw [hi2] at hd
                      exact ws_mm C hd hmm hst (by omega) (by omega) (by omega) (by omega) (W2 X C rfl hf hlo hr1 hr2 kr)
                    next => cases h
                  next => cases h
                next => cases h
        next hcall =>
          split at h
          next pc2 st2 σ2 hps =>
            obtain ⟨⟨m3, m4⟩, W2⟩ := ih _ _ _ _ _ _ _ _ h
            obtain ⟨m1, m2⟩ := pS_mono hps
            refine ⟨⟨Nat.le_trans m1 m3, Nat.le_trans m2 m4⟩, fun X C hm hf hlo hr1 hr2 kr => ?_⟩
            subst hm
            exact ws_pS C hd hlen hps (by omega) (by omega) (W2 X C rfl hf hlo hr1 hr2 kr)
          next =>
            split at h
            next L2 st2 hpl =>
              obtain ⟨⟨m3, m4⟩, W2⟩ := ih _ _ _ _ _ _ _ _ h
              refine ⟨⟨m3, m4⟩, fun X C hm hf hlo hr1 hr2 kr => ?_⟩
              subst hm
              exact ws_pL C hd hlen hpl (W2 X C rfl hf hlo hr1 hr2 kr)
            next => cases h
    next => cases h

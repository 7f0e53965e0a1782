/-! ===== the same along a run ===== -/
theorem prun_ZL (Λ : PRo) : ∀ (n d m pc : Nat) (L : PL) (st : List Value) (σ : PSt) (r : Option Value × PSt), prun Λ n d m pc L st σ = some r → ZL σ → ZL r.2 := by
  intro n
  induction n with
  | zero => intro d m pc L st σ r h; cases h
  | succ n ih =>
    intro d m pc L st σ r h hz
    unfold prun at h
    split at h
    next => cases h
    next i len hd =>
    split at h
    next hlen =>
      split at h
      next v' hret =>
        split at h
        next hok =>
          cases h
          exact hz
        next => cases h
      next hret =>
        split at h
        next k idx hcall =>
          split at h
          next => cases h
          next d1 =>
          split at h
          next y hca =>
            split at h
            next hkd =>
              split at h
              next as rest hpop =>
                split at h
                next hc =>
                  split at h
                  next v2 σ2 hcal => exact ih _ _ _ _ _ _ _ h (ih _ _ _ _ _ _ _ hcal hz)
                  next => cases h
                next => cases h
              next => cases h
            next => cases h
          next hca =>
            split at h
            next hoi =>
              split at h
              next o rest =>
                split at h
                next hcr => exact ih _ _ _ _ _ _ _ h hz
                next => cases h
              next => cases h
            next hoi =>
              split at h
              next hac =>
                split at h
                next rest τ hcp => exact ih _ _ _ _ _ _ _ h (ZL_cpy hz hcp)
                next => cases h
              next hac =>
                split at h
                next hk2 =>
                  split at h
                  next j hmm =>
                    split at h
                    next st1 hst => exact ih _ _ _ _ _ _ _ h hz
                    next => cases h
                  next => cases h
                next => cases h
        next hcall =>
          split at h
          next pc2 st2 σ2 hps => exact ih _ _ _ _ _ _ _ h (KS_S hz _ _ _ _ _ _ _ _ hps)
          next =>
            split at h
            next L2 st2 hpl => exact ih _ _ _ _ _ _ _ h hz
            next => cases h
    next => cases h

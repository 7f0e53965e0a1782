theorem oLdI_i {Λ : PRo} {t : Nat} {st : List Value} {pc : Nat} {σ : PSt} {q : Nat × List Value × PSt} (h : oLdI Λ t st pc σ = some q) : (∃ i o r, st = .int i :: .ref o :: r ∧ (o < pnc σ ∧ (ply σ o).1 = t ∧ vin i (ply σ o).2) ∧ q = (pc, .int (piv σ o i.toNatClampNeg) :: r, σ)) ∨ ∃ i o r, st = .int i :: .retAddr o :: r ∧ (t = 1 ∧ o < Λ.1 ∧ vin i (Λ.2.1 o)) ∧ q = (pc, .int (Λ.2.2 o i.toNatClampNeg) :: r, σ) := by
  unfold oLdI at h
  split at h
  · split at h
    next hh => cases h; exact Or.inl ⟨_, _, _, rfl, hh, rfl⟩
    next => cases h
  · split at h
    next hh => cases h; exact Or.inr ⟨_, _, _, rfl, hh, rfl⟩
    next => cases h
  · cases h
theorem oLdL_i {st : List Value} {pc : Nat} {σ : PSt} {q : Nat × List Value × PSt} (h : oLdL st pc σ = some q) : ∃ i o r, st = .int i :: .ref o :: r ∧ (o < pnc σ ∧ (ply σ o).1 = 4 ∧ vin i (ply σ o).2) ∧ q = (pc, .long (plv σ o i.toNatClampNeg) :: r, σ) := by
  unfold oLdL at h
  split at h
  · split at h
    next hh => cases h; exact ⟨_, _, _, rfl, hh, rfl⟩
    next => cases h
  · cases h
theorem oLdA_i {st : List Value} {pc : Nat} {σ : PSt} {q : Nat × List Value × PSt} (h : oLdA st pc σ = some q) : ∃ i o r j, st = .int i :: .ref o :: r ∧ (o < pnc σ ∧ ((ply σ o).1 = 5 ∨ (ply σ o).1 = 6) ∧ vin i (ply σ o).2) ∧ prv σ o i.toNatClampNeg = some j ∧ q = (pc, .ref j :: r, σ) := by
  unfold oLdA at h
  split at h
  · split at h
    next hh =>
      rw [Option.map_eq_some_iff] at h
      obtain ⟨j, h1, rfl⟩ := h
      exact ⟨_, _, _, j, rfl, hh, h1, rfl⟩
    next => cases h
  · cases h
theorem oStI_i {t : Nat} {g : Int32 → Int32} {st : List Value} {pc : Nat} {σ : PSt} {q : Nat × List Value × PSt} (h : oStI t g st pc σ = some q) : ∃ x i o r, st = .int x :: .int i :: .ref o :: r ∧ (o < pnc σ ∧ (ply σ o).1 = t ∧ vin i (ply σ o).2) ∧ q = (pc, r, wiv σ o i.toNatClampNeg (g x)) := by
  unfold oStI at h
  split at h
  · split at h
    next hh => cases h; exact ⟨_, _, _, _, rfl, hh, rfl⟩
    next => cases h
  · cases h
theorem oStL_i {st : List Value} {pc : Nat} {σ : PSt} {q : Nat × List Value × PSt} (h : oStL st pc σ = some q) : ∃ x i o r, st = .long x :: .int i :: .ref o :: r ∧ (o < pnc σ ∧ (ply σ o).1 = 4 ∧ vin i (ply σ o).2) ∧ q = (pc, r, wlv σ o i.toNatClampNeg x) := by
  unfold oStL at h
  split at h
  · split at h
    next hh => cases h; exact ⟨_, _, _, _, rfl, hh, rfl⟩
    next => cases h
  · cases h
theorem oLen_i {Λ : PRo} {st : List Value} {pc : Nat} {σ : PSt} {q : Nat × List Value × PSt} (h : oLen Λ st pc σ = some q) : (∃ o r, st = .ref o :: r ∧ (o < pnc σ ∧ 1 ≤ (ply σ o).1 ∧ (ply σ o).1 ≤ 6) ∧ q = (pc, .int (Int32.ofNat (ply σ o).2) :: r, σ)) ∨ ∃ o r, st = .retAddr o :: r ∧ o < Λ.1 ∧ q = (pc, .int (Int32.ofNat (Λ.2.1 o)) :: r, σ) := by
  unfold oLen at h
  split at h
  · split at h
    next hh => cases h; exact Or.inl ⟨_, _, rfl, hh, rfl⟩
    next => cases h
  · split at h
    next hh => cases h; exact Or.inr ⟨_, _, rfl, hh, rfl⟩
    next => cases h
  · cases h
theorem oNewA_i {t : Nat} {st : List Value} {pc : Nat} {σ : PSt} {q : Nat × List Value × PSt} (h : oNewA t st pc σ = some q) : ∃ n r, st = .int n :: r ∧ (¬ n < 0 ∧ n.toNatClampNeg ≤ 10000 ∧ 1 ≤ t) ∧ q = (pc, .ref (pnc σ) :: r, mkc σ t n.toNatClampNeg n.toNatClampNeg) := by
  unfold oNewA at h
  split at h
  · split at h
    next hh => cases h; exact ⟨_, _, rfl, hh, rfl⟩
    next => cases h
  · cases h
theorem oMna_i {t : Nat} {st : List Value} {pc : Nat} {σ : PSt} {q : Nat × List Value × PSt} (h : oMna t st pc σ = some q) : ∃ k n r, st = .int k :: .int n :: r ∧ (¬ n < 0 ∧ ¬ k < 0 ∧ n.toNatClampNeg ≤ 100 ∧ k.toNatClampNeg ≤ 100 ∧ (t = 5 ∨ t = 6)) ∧ q = (pc, .ref (pnc σ) :: r, mkrows (if t = 5 then 1 else 4) k.toNatClampNeg n.toNatClampNeg (wrr (mkc σ t n.toNatClampNeg n.toNatClampNeg) (pnc σ) (fun i => if i < n.toNatClampNeg then some (pnc σ + 1 + i) else none))) := by
  unfold oMna at h
  split at h
  · split at h
    next hh => cases h; exact ⟨_, _, _, rfl, hh, rfl⟩
    next => cases h
  · cases h
set_option maxHeartbeats 4000000 in
theorem ws_pS {Λ : PRo} {X : Ctx} (C : CX Λ X) {i : Instr} {len pc : Nat} {L : PL} {st : List Value} {σ : PSt} {pc2 : Nat} {st2 : List Value} {σ2 : PSt} (hd : decode (mB (xm X)) pc = .ok (i, len)) (hlen : lenOk i len = true) (h : pS Λ (isIni (xm X)) (mC (xm X)) pc (pc + len) σ i st = some (pc2, st2, σ2))
    (hr1 : pnc σ2 ≤ xk X + (xR X).cells) (hr2 : pns σ2 ≤ xn X + (xR X).slots) (kk : WS X pc2 L st2 σ2) : WS X pc L st σ := by
  cases i
  case iconst n =>
    obtain rfl : len = 1 := Nat.eq_of_beq_eq_true hlen
    cases h
    exact fun H locs c1 s1 ls a b c d e => lv_iconst C.1 C.2.1  hd rfl (kk H locs c1 s1 ls a b c d e)
  case bipush n =>
    obtain rfl : len = 2 := Nat.eq_of_beq_eq_true hlen
    cases h
    exact fun H locs c1 s1 ls a b c d e => lv_bipush C.1 C.2.1  hd rfl (kk H locs c1 s1 ls a b c d e)
  case sipush n =>
    obtain rfl : len = 3 := Nat.eq_of_beq_eq_true hlen
    cases h
    exact fun H locs c1 s1 ls a b c d e => lv_sipush C.1 C.2.1  hd rfl (kk H locs c1 s1 ls a b c d e)
  case lconst n =>
    obtain rfl : len = 1 := Nat.eq_of_beq_eq_true hlen
    cases h
    exact fun H locs c1 s1 ls a b c d e => lv_lconst C.1 C.2.1  hd rfl (kk H locs c1 s1 ls a b c d e)
  case ldc_w k =>
    obtain rfl : len = 3 := Nat.eq_of_beq_eq_true hlen
    obtain ⟨v, hv, e⟩ := Option.map_eq_some_iff.mp h
    cases e
    exact fun H locs c1 s1 ls a b c d e => lv_ldcw C.1 C.2.1 C.2.2.2.2.1 (C.2.2.2.2.2.1 _ (w_ki C.mc hv)) hd  (kk H locs c1 s1 ls a b c d e)
  case ldc2_w k =>
    obtain rfl : len = 3 := Nat.eq_of_beq_eq_true hlen
    obtain ⟨v, hv, e⟩ := Option.map_eq_some_iff.mp h
    cases e
    exact fun H locs c1 s1 ls a b c d e => lv_ldc2 C.1 C.2.1 C.2.2.2.2.1 (C.2.2.2.2.2.1 _ (w_kl C.mc hv)) hd  (kk H locs c1 s1 ls a b c d e)
  case iadd =>
    obtain rfl : len = 1 := Nat.eq_of_beq_eq_true hlen
    obtain ⟨x, y, r, rfl, e⟩ := oI2_i h
    cases e
    exact fun H locs c1 s1 ls a b c d e => lv_iadd C.1 C.2.1  hd  (kk H locs c1 s1 ls a b c d e)
  case isub =>
    obtain rfl : len = 1 := Nat.eq_of_beq_eq_true hlen
    obtain ⟨x, y, r, rfl, e⟩ := oI2_i h
    cases e
    exact fun H locs c1 s1 ls a b c d e => lv_isub C.1 C.2.1  hd  (kk H locs c1 s1 ls a b c d e)
  case imul =>
    obtain rfl : len = 1 := Nat.eq_of_beq_eq_true hlen
    obtain ⟨x, y, r, rfl, e⟩ := oI2_i h
    cases e
    exact fun H locs c1 s1 ls a b c d e => lv_imul C.1 C.2.1  hd  (kk H locs c1 s1 ls a b c d e)
  case iand =>
    obtain rfl : len = 1 := Nat.eq_of_beq_eq_true hlen
    obtain ⟨x, y, r, rfl, e⟩ := oI2_i h
    cases e
    exact fun H locs c1 s1 ls a b c d e => lv_iand C.1 C.2.1  hd  (kk H locs c1 s1 ls a b c d e)
  case ior =>
    obtain rfl : len = 1 := Nat.eq_of_beq_eq_true hlen
    obtain ⟨x, y, r, rfl, e⟩ := oI2_i h
    cases e
    exact fun H locs c1 s1 ls a b c d e => lv_ior C.1 C.2.1  hd  (kk H locs c1 s1 ls a b c d e)
  case ixor =>
    obtain rfl : len = 1 := Nat.eq_of_beq_eq_true hlen
    obtain ⟨x, y, r, rfl, e⟩ := oI2_i h
    cases e
    exact fun H locs c1 s1 ls a b c d e => lv_ixor C.1 C.2.1  hd  (kk H locs c1 s1 ls a b c d e)
  case ishl =>
    obtain rfl : len = 1 := Nat.eq_of_beq_eq_true hlen
    obtain ⟨x, y, r, rfl, e⟩ := oI2_i h
    cases e
    exact fun H locs c1 s1 ls a b c d e => lv_ishl C.1 C.2.1  hd  (kk H locs c1 s1 ls a b c d e)
  case ishr =>
    obtain rfl : len = 1 := Nat.eq_of_beq_eq_true hlen
    obtain ⟨x, y, r, rfl, e⟩ := oI2_i h
    cases e
    exact fun H locs c1 s1 ls a b c d e => lv_ishr C.1 C.2.1  hd  (kk H locs c1 s1 ls a b c d e)
  case iushr =>
    obtain rfl : len = 1 := Nat.eq_of_beq_eq_true hlen
    obtain ⟨x, y, r, rfl, e⟩ := oI2_i h
    cases e
    exact fun H locs c1 s1 ls a b c d e => lv_iushr C.1 C.2.1  hd rfl (kk H locs c1 s1 ls a b c d e)
  case idiv =>
    obtain rfl : len = 1 := Nat.eq_of_beq_eq_true hlen
    obtain ⟨x, y, r, rfl, hne, e⟩ := oD2_i h
    cases e
    exact fun H locs c1 s1 ls a b c d e => lv_idiv C.1 C.2.1  hd hne (kk H locs c1 s1 ls a b c d e)
  case irem =>
    obtain rfl : len = 1 := Nat.eq_of_beq_eq_true hlen
    obtain ⟨x, y, r, rfl, hne, e⟩ := oD2_i h
    cases e
    exact fun H locs c1 s1 ls a b c d e => lv_irem C.1 C.2.1  hd hne (kk H locs c1 s1 ls a b c d e)
  case ineg =>
    obtain rfl : len = 1 := Nat.eq_of_beq_eq_true hlen
    obtain ⟨x, r, rfl, e⟩ := oI1_i h
    cases e
    exact fun H locs c1 s1 ls a b c d e => lv_ineg C.1 C.2.1  hd  (kk H locs c1 s1 ls a b c d e)
  case i2b =>
    obtain rfl : len = 1 := Nat.eq_of_beq_eq_true hlen
    obtain ⟨x, r, rfl, e⟩ := oI1_i h
    cases e
    exact fun H locs c1 s1 ls a b c d e => lv_i2b C.1 C.2.1  hd rfl (kk H locs c1 s1 ls a b c d e)
  case i2s =>
    obtain rfl : len = 1 := Nat.eq_of_beq_eq_true hlen
    obtain ⟨x, r, rfl, e⟩ := oI1_i h
    cases e
    exact fun H locs c1 s1 ls a b c d e => lv_i2s C.1 C.2.1  hd rfl (kk H locs c1 s1 ls a b c d e)
  case i2l =>
    obtain rfl : len = 1 := Nat.eq_of_beq_eq_true hlen
    unfold pS at h
    dsimp only at h
    split at h
    · cases h
      exact fun H locs c1 s1 ls a b c d e => lv_i2l C.1 C.2.1 hd rfl (kk H locs c1 s1 ls a b c d e)
    · cases h
  case l2i =>
    obtain rfl : len = 1 := Nat.eq_of_beq_eq_true hlen
    unfold pS at h
    dsimp only at h
    split at h
    · cases h
      exact fun H locs c1 s1 ls a b c d e => lv_l2i C.1 C.2.1 hd rfl (kk H locs c1 s1 ls a b c d e)
    · cases h
  case ladd =>
    obtain rfl : len = 1 := Nat.eq_of_beq_eq_true hlen
    obtain ⟨x, y, r, rfl, e⟩ := oL2_i h
    cases e
    exact fun H locs c1 s1 ls a b c d e => lv_ladd C.1 C.2.1  hd  (kk H locs c1 s1 ls a b c d e)
  case lsub =>
    obtain rfl : len = 1 := Nat.eq_of_beq_eq_true hlen
    obtain ⟨x, y, r, rfl, e⟩ := oL2_i h
    cases e
    exact fun H locs c1 s1 ls a b c d e => lv_lsub C.1 C.2.1  hd  (kk H locs c1 s1 ls a b c d e)
  case lmul =>
    obtain rfl : len = 1 := Nat.eq_of_beq_eq_true hlen
    obtain ⟨x, y, r, rfl, e⟩ := oL2_i h
    cases e
    exact fun H locs c1 s1 ls a b c d e => lv_lmul C.1 C.2.1  hd  (kk H locs c1 s1 ls a b c d e)
  case land =>
    obtain rfl : len = 1 := Nat.eq_of_beq_eq_true hlen
    obtain ⟨x, y, r, rfl, e⟩ := oL2_i h
    cases e
    exact fun H locs c1 s1 ls a b c d e => lv_land C.1 C.2.1  hd  (kk H locs c1 s1 ls a b c d e)
  case lor =>
    obtain rfl : len = 1 := Nat.eq_of_beq_eq_true hlen
    obtain ⟨x, y, r, rfl, e⟩ := oL2_i h
    cases e
    exact fun H locs c1 s1 ls a b c d e => lv_lor C.1 C.2.1  hd  (kk H locs c1 s1 ls a b c d e)
  case ldiv =>
    obtain rfl : len = 1 := Nat.eq_of_beq_eq_true hlen
    obtain ⟨x, y, r, rfl, hne, e⟩ := oE2_i h
    cases e
    exact fun H locs c1 s1 ls a b c d e => lv_ldiv C.1 C.2.1  hd hne (kk H locs c1 s1 ls a b c d e)
  case lrem =>
    obtain rfl : len = 1 := Nat.eq_of_beq_eq_true hlen
    obtain ⟨x, y, r, rfl, hne, e⟩ := oE2_i h
    cases e
    exact fun H locs c1 s1 ls a b c d e => lv_lrem C.1 C.2.1  hd hne (kk H locs c1 s1 ls a b c d e)
  case lcmp =>
    obtain rfl : len = 1 := Nat.eq_of_beq_eq_true hlen
    unfold pS at h
    dsimp only at h
    split at h
    · cases h
      exact fun H locs c1 s1 ls a b c d e => W.lcmp C.1 C.2.1 hd (kk H locs c1 s1 ls a b c d e)
    · cases h
  case lshl =>
    obtain rfl : len = 1 := Nat.eq_of_beq_eq_true hlen
    unfold pS at h
    dsimp only at h
    split at h
    · cases h
      exact fun H locs c1 s1 ls a b c d e => lv_lshl C.1 C.2.1 hd rfl (kk H locs c1 s1 ls a b c d e)
    · cases h
  case dup =>
    obtain rfl : len = 1 := Nat.eq_of_beq_eq_true hlen
    unfold pS at h
    dsimp only at h
    split at h
    · split at h
      next hv =>
        cases h
        exact fun H locs c1 s1 ls a b c d e => lv_dup C.1 C.2.1 hd ((cv_cat _).trans hv) (kk H locs c1 s1 ls a b c d e)
      next => cases h
    · cases h
  case dup2 =>
    obtain rfl : len = 1 := Nat.eq_of_beq_eq_true hlen
    unfold pS at h
    dsimp only at h
    split at h
    · split at h
      next hv =>
        cases h
        exact fun H locs c1 s1 ls a b c d e => lv_dup2_11 C.1 C.2.1 hd ((cv_cat _).trans hv.1) ((cv_cat _).trans hv.2) (kk H locs c1 s1 ls a b c d e)
      next => cases h
    · cases h
  case pop =>
    obtain rfl : len = 1 := Nat.eq_of_beq_eq_true hlen
    unfold pS at h
    dsimp only at h
    split at h
    · split at h
      next hv =>
        cases h
        exact fun H locs c1 s1 ls a b c d e => lv_pop C.1 C.2.1 hd ((cv_cat _).trans hv) (kk H locs c1 s1 ls a b c d e)
      next => cases h
    · cases h
  case pop2 =>
    obtain rfl : len = 1 := Nat.eq_of_beq_eq_true hlen
    unfold pS at h
    dsimp only at h
    split at h
    · split at h
      next hv =>
        cases h
        exact fun H locs c1 s1 ls a b c d e => lv_pop2_2 C.1 C.2.1 hd ((cv_cat _).trans hv) (kk H locs c1 s1 ls a b c d e)
      next => cases h
    · cases h
  case goto off =>
    obtain rfl : len = 3 := Nat.eq_of_beq_eq_true hlen
    obtain ⟨t, ht, e⟩ := Option.map_eq_some_iff.mp h
    cases e
    exact fun H locs c1 s1 ls a b c d e => lv_goto C.1 C.2.1  hd (tgt_i ht) (kk H locs c1 s1 ls a b c d e)
  case ifCond cc off =>
    obtain rfl : len = 3 := Nat.eq_of_beq_eq_true hlen
    unfold pS at h
    dsimp only at h
    split at h
    next x r =>
      obtain ⟨t, ht, e⟩ := Option.map_eq_some_iff.mp h
      cases e
      cases cc
      case eq =>
        exact fun H locs c1 s1 ls a b c d e => lv_if_eq C.1 C.2.1 hd (tgt_i ht) (fun hq => by have k2 := kk; rw [show pbr .eq x 0 t (pc + 3) = t from if_pos hq] at k2; exact k2 H locs c1 s1 ls a b c d e) (fun hq => by have k2 := kk; rw [show pbr .eq x 0 t (pc + 3) = pc + 3 from if_neg hq] at k2; exact k2 H locs c1 s1 ls a b c d e)
      case ne =>
        exact fun H locs c1 s1 ls a b c d e => lv_if_ne C.1 C.2.1 hd (tgt_i ht) (fun hq => by have k2 := kk; rw [show pbr .ne x 0 t (pc + 3) = t from if_neg hq] at k2; exact k2 H locs c1 s1 ls a b c d e) (fun hq => by have k2 := kk; rw [show pbr .ne x 0 t (pc + 3) = pc + 3 from if_pos hq] at k2; exact k2 H locs c1 s1 ls a b c d e)
      case lt =>
        exact fun H locs c1 s1 ls a b c d e => lv_if_lt C.1 C.2.1 hd (tgt_i ht) (fun hq => by have k2 := kk; rw [show pbr .lt x 0 t (pc + 3) = t from if_pos hq] at k2; exact k2 H locs c1 s1 ls a b c d e) (fun hq => by have k2 := kk; rw [show pbr .lt x 0 t (pc + 3) = pc + 3 from if_neg hq] at k2; exact k2 H locs c1 s1 ls a b c d e)
      case ge =>
        exact fun H locs c1 s1 ls a b c d e => lv_if_ge C.1 C.2.1 hd (tgt_i ht) (fun hq => by have k2 := kk; rw [show pbr .ge x 0 t (pc + 3) = t from if_pos hq] at k2; exact k2 H locs c1 s1 ls a b c d e) (fun hq => by have k2 := kk; rw [show pbr .ge x 0 t (pc + 3) = pc + 3 from if_neg hq] at k2; exact k2 H locs c1 s1 ls a b c d e)
      case gt =>
        exact fun H locs c1 s1 ls a b c d e => lv_if_gt C.1 C.2.1 hd (tgt_i ht) (fun hq => by have k2 := kk; rw [show pbr .gt x 0 t (pc + 3) = t from if_pos hq] at k2; exact k2 H locs c1 s1 ls a b c d e) (fun hq => by have k2 := kk; rw [show pbr .gt x 0 t (pc + 3) = pc + 3 from if_neg hq] at k2; exact k2 H locs c1 s1 ls a b c d e)
      case le =>
        exact fun H locs c1 s1 ls a b c d e => lv_if_le C.1 C.2.1 hd (tgt_i ht) (fun hq => by have k2 := kk; rw [show pbr .le x 0 t (pc + 3) = t from if_pos hq] at k2; exact k2 H locs c1 s1 ls a b c d e) (fun hq => by have k2 := kk; rw [show pbr .le x 0 t (pc + 3) = pc + 3 from if_neg hq] at k2; exact k2 H locs c1 s1 ls a b c d e)
    next => cases h
  case if_icmp cc off =>
    obtain rfl : len = 3 := Nat.eq_of_beq_eq_true hlen
    unfold pS at h
    dsimp only at h
    split at h
    next y x r =>
      obtain ⟨t, ht, e⟩ := Option.map_eq_some_iff.mp h
      cases e
      cases cc
      case eq =>
        exact fun H locs c1 s1 ls a b c d e => lv_icmp_eq C.1 C.2.1 hd (tgt_i ht) (fun hq => by have k2 := kk; rw [show pbr .eq x y t (pc + 3) = t from if_pos hq] at k2; exact k2 H locs c1 s1 ls a b c d e) (fun hq => by have k2 := kk; rw [show pbr .eq x y t (pc + 3) = pc + 3 from if_neg hq] at k2; exact k2 H locs c1 s1 ls a b c d e)
      case ne =>
        exact fun H locs c1 s1 ls a b c d e => lv_icmp_ne C.1 C.2.1 hd (tgt_i ht) (fun hq => by have k2 := kk; rw [show pbr .ne x y t (pc + 3) = t from if_neg hq] at k2; exact k2 H locs c1 s1 ls a b c d e) (fun hq => by have k2 := kk; rw [show pbr .ne x y t (pc + 3) = pc + 3 from if_pos hq] at k2; exact k2 H locs c1 s1 ls a b c d e)
      case lt =>
        exact fun H locs c1 s1 ls a b c d e => lv_icmp_lt C.1 C.2.1 hd (tgt_i ht) (fun hq => by have k2 := kk; rw [show pbr .lt x y t (pc + 3) = t from if_pos hq] at k2; exact k2 H locs c1 s1 ls a b c d e) (fun hq => by have k2 := kk; rw [show pbr .lt x y t (pc + 3) = pc + 3 from if_neg hq] at k2; exact k2 H locs c1 s1 ls a b c d e)
      case ge =>
        exact fun H locs c1 s1 ls a b c d e => lv_icmp_ge C.1 C.2.1 hd (tgt_i ht) (fun hq => by have k2 := kk; rw [show pbr .ge x y t (pc + 3) = t from if_pos hq] at k2; exact k2 H locs c1 s1 ls a b c d e) (fun hq => by have k2 := kk; rw [show pbr .ge x y t (pc + 3) = pc + 3 from if_neg hq] at k2; exact k2 H locs c1 s1 ls a b c d e)
      case gt =>
        exact fun H locs c1 s1 ls a b c d e => lv_icmp_gt C.1 C.2.1 hd (tgt_i ht) (fun hq => by have k2 := kk; rw [show pbr .gt x y t (pc + 3) = t from if_pos hq] at k2; exact k2 H locs c1 s1 ls a b c d e) (fun hq => by have k2 := kk; rw [show pbr .gt x y t (pc + 3) = pc + 3 from if_neg hq] at k2; exact k2 H locs c1 s1 ls a b c d e)
      case le =>
        exact fun H locs c1 s1 ls a b c d e => lv_icmp_le C.1 C.2.1 hd (tgt_i ht) (fun hq => by have k2 := kk; rw [show pbr .le x y t (pc + 3) = t from if_pos hq] at k2; exact k2 H locs c1 s1 ls a b c d e) (fun hq => by have k2 := kk; rw [show pbr .le x y t (pc + 3) = pc + 3 from if_neg hq] at k2; exact k2 H locs c1 s1 ls a b c d e)
    next => cases h
  case tableswitch dd lo hi offs =>
    unfold pS at h
    dsimp only at h
    split at h
    next x r =>
      split at h
      next hh =>
        obtain ⟨t, ht, e⟩ := Option.map_eq_some_iff.mp h
        cases e
        exact fun H locs c1 s1 ls a b c d e => lv_tableOut C.1 C.2.1 hd hh (tgt_i ht) (kk H locs c1 s1 ls a b c d e)
      next hh =>
        obtain ⟨off, ho, h2⟩ := Option.bind_eq_some_iff.mp h
        obtain ⟨t, ht, e⟩ := Option.map_eq_some_iff.mp h2
        cases e
        exact fun H locs c1 s1 ls a b c d e => lv_tableIn C.1 C.2.1 hd (fun q => hh (Or.inl q)) (fun q => hh (Or.inr q)) ho (tgt_i ht) (kk H locs c1 s1 ls a b c d e)
    next => cases h
  case lookupswitch dd ps =>
    unfold pS at h
    dsimp only at h
    split at h
    next x r =>
      split at h
      next hh =>
        obtain ⟨t, ht, e⟩ := Option.map_eq_some_iff.mp h
        cases e
        exact fun H locs c1 s1 ls a b c d e => lv_lookup C.1 C.2.1 hd hh rfl (tgt_i ht) (kk H locs c1 s1 ls a b c d e)
      next => cases h
    next => cases h
  case getfield k =>
    obtain rfl : len = 3 := Nat.eq_of_beq_eq_true hlen
    obtain ⟨ob, r, ci, f, rfl, hfl, ho, hp, hf, e⟩ := oGet_i h
    cases e
    exact ws_get C hd hfl ho hp hf kk
  case putfield k =>
    obtain rfl : len = 3 := Nat.eq_of_beq_eq_true hlen
    obtain ⟨v, ob, r, ci, f, τ, rfl, hfl, ho, hp, hf, hfin, hv, e⟩ := oPut_i h
    cases e
    exact ws_put C hd hfl ho hp hf hfin hv kk
  case getstatic k =>
    obtain rfl : len = 3 := Nat.eq_of_beq_eq_true hlen
    obtain ⟨j, hj, e⟩ := Option.map_eq_some_iff.mp h
    cases e
    exact ws_gets C hd hj kk
  case iaload =>
    obtain rfl : len = 1 := Nat.eq_of_beq_eq_true hlen
    rcases oLdI_i h with ⟨i, ob, r, rfl, hh, e⟩ | ⟨i, ob, r, rfl, hh, e⟩
    · cases e
      exact ws_iald C hd hh.1 hh.2.1 hh.2.2 kk
    · cases e
      exact ws_rold C hd hh.2.1 hh.2.2 kk
  case baload =>
    obtain rfl : len = 1 := Nat.eq_of_beq_eq_true hlen
    rcases oLdI_i h with ⟨i, ob, r, rfl, hh, e⟩ | ⟨i, ob, r, rfl, hh, e⟩
    · cases e
      exact ws_bald C hd hh.1 hh.2.1 hh.2.2 kk
    · exact absurd hh.1 (by decide)
  case saload =>
    obtain rfl : len = 1 := Nat.eq_of_beq_eq_true hlen
    rcases oLdI_i h with ⟨i, ob, r, rfl, hh, e⟩ | ⟨i, ob, r, rfl, hh, e⟩
    · cases e
      exact ws_sald C hd hh.1 hh.2.1 hh.2.2 kk
    · exact absurd hh.1 (by decide)
  case laload =>
    obtain rfl : len = 1 := Nat.eq_of_beq_eq_true hlen
    obtain ⟨i, ob, r, rfl, hh, e⟩ := oLdL_i h
    cases e
    exact ws_lald C hd hh.1 hh.2.1 hh.2.2 kk
  case aaload =>
    obtain rfl : len = 1 := Nat.eq_of_beq_eq_true hlen
    obtain ⟨i, ob, r, j, rfl, hh, hj, e⟩ := oLdA_i h
    cases e
    exact ws_aald C hd hh.1 hh.2.1 hh.2.2 hj kk
  case iastore =>
    obtain rfl : len = 1 := Nat.eq_of_beq_eq_true hlen
    obtain ⟨x, i, ob, r, rfl, hh, e⟩ := oStI_i h
    cases e
    exact ws_iast C hd hh.1 hh.2.1 hh.2.2 kk
  case bastore =>
    obtain rfl : len = 1 := Nat.eq_of_beq_eq_true hlen
    obtain ⟨x, i, ob, r, rfl, hh, e⟩ := oStI_i h
    cases e
    exact ws_bast C hd hh.1 hh.2.1 hh.2.2 kk
  case sastore =>
    obtain rfl : len = 1 := Nat.eq_of_beq_eq_true hlen
    obtain ⟨x, i, ob, r, rfl, hh, e⟩ := oStI_i h
    cases e
    exact ws_sast C hd hh.1 hh.2.1 hh.2.2 kk
  case lastore =>
    obtain rfl : len = 1 := Nat.eq_of_beq_eq_true hlen
    obtain ⟨x, i, ob, r, rfl, hh, e⟩ := oStL_i h
    cases e
    exact ws_last C hd hh.1 hh.2.1 hh.2.2 kk
  case arraylength =>
    obtain rfl : len = 1 := Nat.eq_of_beq_eq_true hlen
    rcases oLen_i h with ⟨ob, r, rfl, hh, e⟩ | ⟨ob, r, rfl, hh, e⟩
    · cases e
      exact ws_len C hd hh.1 hh.2.1 hh.2.2 kk
    · cases e
      exact ws_rolen C hd hh kk
  case newarray at_ =>
    obtain rfl : len = 2 := Nat.eq_of_beq_eq_true hlen
    obtain ⟨n, r, rfl, hh, e⟩ := oNewA_i h
    cases e
    cases at_
    case boolean => exact absurd hh.2.2 (by decide)
    case char => exact absurd hh.2.2 (by decide)
    case float => exact absurd hh.2.2 (by decide)
    case double => exact absurd hh.2.2 (by decide)
    case byte =>
      exact ws_newa_byte C hd hh.1 hh.2.1 hr1 hr2 kk
    case short =>
      exact ws_newa_short C hd hh.1 hh.2.1 hr1 hr2 kk
    case int =>
      exact ws_newa_int C hd hh.1 hh.2.1 hr1 hr2 kk
    case long =>
      exact ws_newa_long C hd hh.1 hh.2.1 hr1 hr2 kk
  case new k =>
    obtain rfl : len = 3 := Nat.eq_of_beq_eq_true hlen
    obtain ⟨ci, hci, e⟩ := Option.map_eq_some_iff.mp h
    cases e
    exact ws_new C hd hci hr1 hr2 kk
  case multianewarray k dm =>
    obtain rfl : len = 4 := Nat.eq_of_beq_eq_true hlen
    unfold pS at h
    dsimp only at h
    split at h
    next hdm =>
      subst hdm
      obtain ⟨t, ht, h2⟩ := Option.bind_eq_some_iff.mp h
      obtain ⟨kx, n, r, rfl, hh, e⟩ := oMna_i h2
      cases e
      rcases hh.2.2.2.2 with rfl | rfl
      · obtain ⟨q1, q2, -⟩ := mkrows_spec 1 kx.toNatClampNeg n.toNatClampNeg (wrr (mkc σ 5 n.toNatClampNeg n.toNatClampNeg) (pnc σ) (fun i => if i < n.toNatClampNeg then some (pnc σ + 1 + i) else none))
        exact ws_mna C hd ht rfl (Or.inl ⟨rfl, rfl, rfl⟩) hh.1 hh.2.1 hh.2.2.1 hh.2.2.2.1 (by rw [if_pos rfl, q1] at hr1; exact hr1) (by rw [if_pos rfl, q2] at hr2; exact hr2) kk
      · obtain ⟨q1, q2, -⟩ := mkrows_spec 4 kx.toNatClampNeg n.toNatClampNeg (wrr (mkc σ 6 n.toNatClampNeg n.toNatClampNeg) (pnc σ) (fun i => if i < n.toNatClampNeg then some (pnc σ + 1 + i) else none))
        exact ws_mna C hd ht rfl (Or.inr ⟨rfl, rfl, rfl⟩) hh.1 hh.2.1 hh.2.2.1 hh.2.2.2.1 (by rw [if_neg (by decide), q1] at hr1; exact hr1) (by rw [if_neg (by decide), q2] at hr2; exact hr2) kk
    next => cases h
  all_goals (have h2 : (none : PO) = some (pc2, st2, σ2) := h; cases h2)

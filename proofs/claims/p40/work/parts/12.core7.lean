/-! ===== locals ===== -/
theorem lk_mem : ∀ {L : PL} {k : Nat} {v : Value}, lk L k = some v → (k, v) ∈ L
  | [], _, _, h => by cases h
  | q :: t, k, v, h => by
    unfold lk at h
    cases e : Nat.beq q.1 k with
    | true =>
      rw [e] at h
      cases h
      have e2 : q.1 = k := Nat.eq_of_beq_eq_true e
      subst e2
      exact List.mem_cons_self
    | false =>
      rw [e] at h
      exact List.mem_cons_of_mem _ (lk_mem h)
theorem put_mem : ∀ {L : PL} {k : Nat} {v : Value} {q : Nat × Value}, q ∈ put L k v → q = (k, v) ∨ q ∈ L
  | [], k, v, q, h => Or.inl (List.mem_singleton.mp h)
  | a :: t, k, v, q, h => by
    unfold put at h
    cases e : Nat.blt k a.1 with
    | true =>
      rw [e] at h
      rcases List.mem_cons.mp h with h | h
      · exact Or.inl h
      · exact Or.inr h
    | false =>
      rw [e] at h
      rcases List.mem_cons.mp h with h | h
      · exact Or.inr (h ▸ List.mem_cons_self)
      · rcases put_mem h with h | h
        · exact Or.inl h
        · exact Or.inr (List.mem_cons_of_mem _ h)
theorem has_at {X : Ctx} {ls : Array Slot} {n : Nat} {L : PL} {k : Nat} {v : Value} (hl : lv_has ls n (cvL X L)) (h : lk L k = some v) : ls[k]? = some (.val (cv (xo X) (xt X) v)) := hl.2.2 (k, cv (xo X) (xt X) v) (List.mem_map.mpr ⟨(k, v), lk_mem h, rfl⟩)
theorem has_weak {ls : Array Slot} {n : Nat} {l l' : List (Nat × Value)} (h : lv_has ls n l) (hs : ∀ q ∈ l', q ∈ l) : lv_has ls n l' := ⟨h.1, h.2.1, fun q hq => h.2.2 q (hs q hq)⟩
theorem rmk_in {L : PL} {i : Nat} {q : Nat × Value} (h : q ∈ rmk L i) : q ∈ L ∧ q.1 ≠ i := by
  obtain ⟨h1, h2⟩ := List.mem_filter.mp h
  refine ⟨h1, fun e => ?_⟩
  rw [e] at h2
  have : Nat.beq i i = true := Nat.beq_refl i
  rw [this] at h2
  cases h2
theorem lk_some_of {L : PL} {k : Nat} {v : Value} (h : (k, v) ∈ L) : ∃ w, lk L k = some w := by
  induction L with
  | nil => cases h
  | cons a t ih =>
    unfold lk
    cases e : Nat.beq a.1 k with
    | true => exact ⟨_, rfl⟩
    | false =>
      rcases List.mem_cons.mp h with h | h
      · subst h
        have : Nat.beq k k = true := Nat.beq_refl k
        rw [this] at e
        cases e
      · exact ih h
theorem rm1_in {X : Ctx} {ls : Array Slot} {n : Nat} {L : PL} {k : Nat} {q : Nat × Value} (hl : lv_has ls n (cvL X L)) (h : q ∈ rm1 L k) : q ∈ L ∧ q.1 ≠ k ∧ ¬ (q.1 + 1 = k ∧ q.2.category = 2) := by
  cases k with
  | zero =>
    obtain ⟨h1, h2⟩ := rmk_in h
    exact ⟨h1, h2, by omega⟩
  | succ j =>
    unfold rm1 at h
    dsimp only at h
    cases e : lg L j with
    | true =>
      rw [e] at h
      obtain ⟨h1, h2⟩ := rmk_in h
      obtain ⟨h3, h4⟩ := rmk_in h1
      exact ⟨h3, h4, by omega⟩
    | false =>
      rw [e] at h
      obtain ⟨h1, h2⟩ := rmk_in h
      refine ⟨h1, h2, fun hh => ?_⟩
      obtain ⟨h3, h4⟩ := hh
      have e3 : q.1 = j := by omega
      obtain ⟨w, hw⟩ := lk_some_of (L := L) (k := j) (v := q.2) (by rw [← e3]; exact h1)
      have a1 := has_at hl hw
      have a2 : ls[q.1]? = some (.val (cv (xo X) (xt X) q.2)) := hl.2.2 (q.1, cv (xo X) (xt X) q.2) (List.mem_map.mpr ⟨q, h1, rfl⟩)
      rw [e3, a1] at a2
      have a3 : cv (xo X) (xt X) w = cv (xo X) (xt X) q.2 := Slot.val.inj (Option.some.inj a2)
      have a4 : w.category = q.2.category := by
        have := congrArg Value.category a3
        rwa [cv_cat, cv_cat] at this
      unfold lg at e
      rw [hw] at e
      dsimp only at e
      rw [a4, h4] at e
      cases e
theorem has_ins1 {X : Ctx} {ls0 ls : Array Slot} {n : Nat} {L : PL} {k : Nat} {v w : Value} (h0 : lv_has ls0 n (cvL X L)) (hw : cv (xo X) (xt X) v = w) (h : lv_has ls n ((k, w) :: (cvL X L).filter (fun q => !(q.1 == k) && !(q.1 + 1 == k && q.2.category == 2)))) : lv_has ls n (cvL X (ins1 L k v)) := by
  subst hw
  refine has_weak h fun q hq => ?_
  obtain ⟨q0, hq0, rfl⟩ := List.mem_map.mp hq
  rcases put_mem hq0 with rfl | hq0
  · exact List.mem_cons_self
  · obtain ⟨a1, a2, a3⟩ := rm1_in h0 hq0
    refine List.mem_cons_of_mem _ (List.mem_filter.mpr ⟨List.mem_map.mpr ⟨q0, a1, rfl⟩, ?_⟩)
    rw [cv_cat]
    simp [a2]
    omega
theorem has_ins2 {X : Ctx} {ls0 ls : Array Slot} {n : Nat} {L : PL} {k : Nat} {v w : Value} (h0 : lv_has ls0 n (cvL X L)) (hw : cv (xo X) (xt X) v = w) (h : lv_has ls n ((k, w) :: (cvL X L).filter (fun q => !(q.1 == k) && (!(q.1 == k + 1) && !(q.1 + 1 == k && q.2.category == 2))))) : lv_has ls n (cvL X (ins2 L k v)) := by
  subst hw
  refine has_weak h fun q hq => ?_
  obtain ⟨q0, hq0, rfl⟩ := List.mem_map.mp hq
  rcases put_mem hq0 with rfl | hq0
  · exact List.mem_cons_self
  · obtain ⟨hq1, hq2⟩ := rmk_in hq0
    obtain ⟨a1, a2, a3⟩ := rm1_in h0 hq1
    refine List.mem_cons_of_mem _ (List.mem_filter.mpr ⟨List.mem_map.mpr ⟨q0, a1, rfl⟩, ?_⟩)
    rw [cv_cat]
    simp [a2, hq2]
    omega
theorem okI_i {v : Value} (h : okI v = true) : ∃ x, v = .int x := by cases v <;> first | exact ⟨_, rfl⟩ | cases h
theorem okL_i {v : Value} (h : okL v = true) : ∃ x, v = .long x := by cases v <;> first | exact ⟨_, rfl⟩ | cases h
theorem okA_i {v : Value} (h : okA v = true) (b0 : Nat) (tt : Nat → Nat) : ∃ x, cv b0 tt v = .ref x := by cases v <;> first | exact ⟨_, rfl⟩ | cases h
theorem pLd_i {ok : Value → Bool} {L : PL} {k : Nat} {st : List Value} {q : PL × List Value} (h : pLd ok L k st = some q) : ∃ v, lk L k = some v ∧ ok v = true ∧ q = (L, v :: st) := by
  obtain ⟨v, h1, h2⟩ := Option.bind_eq_some_iff.mp h
  cases e : ok v with
  | true => rw [e] at h2; cases h2; exact ⟨v, h1, e, rfl⟩
  | false => rw [e] at h2; cases h2
theorem pSt1_i {ok : Value → Bool} {nL : Nat} {L : PL} {k : Nat} {st : List Value} {q : PL × List Value} (h : pSt1 ok nL L k st = some q) : ∃ v r, st = v :: r ∧ ok v = true ∧ k < nL ∧ q = (ins1 L k v, r) := by
  unfold pSt1 at h
  split at h
  next v r =>
    cases e : ok v && Nat.blt k nL with
    | true =>
      rw [e] at h
      cases h
      simp only [Bool.and_eq_true] at e
      exact ⟨v, r, rfl, e.1, Nat.le_of_ble_eq_true e.2, rfl⟩
    | false => rw [e] at h; cases h
  next => cases h
theorem pSt2_i {nL : Nat} {L : PL} {k : Nat} {st : List Value} {q : PL × List Value} (h : pSt2 nL L k st = some q) : ∃ v r, st = v :: r ∧ okL v = true ∧ k + 1 < nL ∧ q = (ins2 L k v, r) := by
  unfold pSt2 at h
  split at h
  next v r =>
    cases e : okL v && Nat.blt (k + 1) nL with
    | true =>
      rw [e] at h
      cases h
      simp only [Bool.and_eq_true] at e
      exact ⟨v, r, rfl, e.1, Nat.le_of_ble_eq_true e.2, rfl⟩
    | false => rw [e] at h; cases h
  next => cases h
set_option maxHeartbeats 4000000 in
theorem ws_pL {Λ : PRo} {X : Ctx} (C : CX Λ X) {i : Instr} {len pc : Nat} {L : PL} {st : List Value} {σ : PSt} {L2 : PL} {st2 : List Value} (hd : decode (mB (xm X)) pc = .ok (i, len)) (hlen : lenOk i len = true) (h : pL i (mL (xm X)) L st = some (L2, st2))
    (kk : WS X (pc + len) L2 st2 σ) : WS X pc L st σ := by
  cases i
  case iload k =>
    obtain rfl : len = 2 := Nat.eq_of_beq_eq_true hlen
    obtain ⟨v, h1, h2, e⟩ := pLd_i h
    obtain ⟨x, rfl⟩ := okI_i h2
    cases e
    exact fun H locs c1 s1 ls a b c d e => lv_iload C.1 C.2.1 hd (has_at e h1) (kk H locs c1 s1 ls a b c d e)
  case iload_n k =>
    obtain rfl : len = 1 := Nat.eq_of_beq_eq_true hlen
    obtain ⟨v, h1, h2, e⟩ := pLd_i h
    obtain ⟨x, rfl⟩ := okI_i h2
    cases e
    exact fun H locs c1 s1 ls a b c d e => lv_iload_n C.1 C.2.1 hd rfl (has_at e h1) (kk H locs c1 s1 ls a b c d e)
  case lload k =>
    obtain rfl : len = 2 := Nat.eq_of_beq_eq_true hlen
    obtain ⟨v, h1, h2, e⟩ := pLd_i h
    obtain ⟨x, rfl⟩ := okL_i h2
    cases e
    exact fun H locs c1 s1 ls a b c d e => lv_lload C.1 C.2.1 hd (has_at e h1) (kk H locs c1 s1 ls a b c d e)
  case lload_n k =>
    obtain rfl : len = 1 := Nat.eq_of_beq_eq_true hlen
    obtain ⟨v, h1, h2, e⟩ := pLd_i h
    obtain ⟨x, rfl⟩ := okL_i h2
    cases e
    exact fun H locs c1 s1 ls a b c d e => lv_lload_n C.1 C.2.1 hd rfl (has_at e h1) (kk H locs c1 s1 ls a b c d e)
  case aload k =>
    obtain rfl : len = 2 := Nat.eq_of_beq_eq_true hlen
    obtain ⟨v, h1, h2, e⟩ := pLd_i h
    cases e
    intro H locs c1 s1 ls a b c d e
    obtain ⟨x, hx⟩ := okA_i h2 (xo X) (xt X)
    have k2 := kk H locs c1 s1 ls a b c d e
    rw [List.map_cons, hx] at k2
    exact lv_aload C.1 C.2.1 hd (by rw [← hx]; exact has_at e h1) k2
  case aload_n k =>
    obtain rfl : len = 1 := Nat.eq_of_beq_eq_true hlen
    obtain ⟨v, h1, h2, e⟩ := pLd_i h
    cases e
    intro H locs c1 s1 ls a b c d e
    obtain ⟨x, hx⟩ := okA_i h2 (xo X) (xt X)
    have k2 := kk H locs c1 s1 ls a b c d e
    rw [List.map_cons, hx] at k2
    exact lv_aload_n C.1 C.2.1 hd rfl (by rw [← hx]; exact has_at e h1) k2
  case istore k =>
    obtain rfl : len = 2 := Nat.eq_of_beq_eq_true hlen
    obtain ⟨v, r, rfl, h2, h3, e⟩ := pSt1_i h
    obtain ⟨x, rfl⟩ := okI_i h2
    cases e
    exact fun H locs c1 s1 ls a b c d e => lv_istore C.1 C.2.1 hd e h3 rfl (fun ls' hl' => kk H locs c1 s1 ls' a b c d (has_ins1 e rfl hl'))
  case istore_n k =>
    obtain rfl : len = 1 := Nat.eq_of_beq_eq_true hlen
    obtain ⟨v, r, rfl, h2, h3, e⟩ := pSt1_i h
    obtain ⟨x, rfl⟩ := okI_i h2
    cases e
    exact fun H locs c1 s1 ls a b c d e => lv_istore_n C.1 C.2.1 hd rfl e h3 rfl (fun ls' hl' => kk H locs c1 s1 ls' a b c d (has_ins1 e rfl hl'))
  case astore k =>
    obtain rfl : len = 2 := Nat.eq_of_beq_eq_true hlen
    obtain ⟨v, r, rfl, h2, h3, e⟩ := pSt1_i h
    cases e
    intro H locs c1 s1 ls a b c d e
    obtain ⟨x, hx⟩ := okA_i h2 (xo X) (xt X)
    rw [List.map_cons, hx]
    exact lv_astore C.1 C.2.1 hd e h3 rfl (fun ls' hl' => kk H locs c1 s1 ls' a b c d (has_ins1 e hx hl'))
  case astore_n k =>
    obtain rfl : len = 1 := Nat.eq_of_beq_eq_true hlen
    obtain ⟨v, r, rfl, h2, h3, e⟩ := pSt1_i h
    cases e
    intro H locs c1 s1 ls a b c d e
    obtain ⟨x, hx⟩ := okA_i h2 (xo X) (xt X)
    rw [List.map_cons, hx]
    exact lv_astore_n C.1 C.2.1 hd rfl e h3 rfl (fun ls' hl' => kk H locs c1 s1 ls' a b c d (has_ins1 e hx hl'))
  case lstore k =>
    obtain rfl : len = 2 := Nat.eq_of_beq_eq_true hlen
    obtain ⟨v, r, rfl, h2, h3, e⟩ := pSt2_i h
    obtain ⟨x, rfl⟩ := okL_i h2
    cases e
    exact fun H locs c1 s1 ls a b c d e => lv_lstore C.1 C.2.1 hd e h3 rfl (fun ls' hl' => kk H locs c1 s1 ls' a b c d (has_ins2 e rfl hl'))
  case lstore_n k =>
    obtain rfl : len = 1 := Nat.eq_of_beq_eq_true hlen
    obtain ⟨v, r, rfl, h2, h3, e⟩ := pSt2_i h
    obtain ⟨x, rfl⟩ := okL_i h2
    cases e
    exact fun H locs c1 s1 ls a b c d e => lv_lstore_n C.1 C.2.1 hd rfl e h3 rfl (fun ls' hl' => kk H locs c1 s1 ls' a b c d (has_ins2 e rfl hl'))
  case iinc k n =>
    obtain rfl : len = 3 := Nat.eq_of_beq_eq_true hlen
    unfold pL at h
    dsimp only at h
    split at h
    next x hx =>
      cases eb : Nat.blt k (mL (xm X)) with
      | false => rw [eb] at h; cases h
      | true =>
        rw [eb] at h
        cases h
        intro H locs c1 s1 ls a b c d e
        obtain ⟨j, hj⟩ := List.getElem?_of_mem (List.mem_map.mpr ⟨(k, .int x), lk_mem hx, rfl⟩ : (k, Value.int x) ∈ cvL X L)
        exact lv_iinc C.1 C.2.1 hd e hj rfl (Nat.le_of_ble_eq_true eb) rfl (fun ls' hl' => kk H locs c1 s1 ls' a b c d (has_ins1 (v := .int (x + Int32.ofInt n)) e rfl hl'))
    next => cases h
  all_goals (have h2 : (none : Option (PL × List Value)) = some (L2, st2) := h; cases h2)
theorem retOf_i {i : Instr} {st : List Value} {v : Option Value} (h : retOf i st = some v) : i = retI v ∧ st = v.toList ∧ ∀ len, lenOk i len = true → len = 1 := by
  cases i
  case ireturn =>
    unfold retOf at h
    dsimp only at h
    split at h
    · cases h; exact ⟨rfl, rfl, fun len h9 => Nat.eq_of_beq_eq_true h9⟩
    · cases h
  case lreturn =>
    unfold retOf at h
    dsimp only at h
    split at h
    · cases h; exact ⟨rfl, rfl, fun len h9 => Nat.eq_of_beq_eq_true h9⟩
    · cases h
  case areturn =>
    unfold retOf at h
    dsimp only at h
    split at h
    · cases h; exact ⟨rfl, rfl, fun len h9 => Nat.eq_of_beq_eq_true h9⟩
    · cases h
  case return_ =>
    unfold retOf at h
    dsimp only at h
    split at h
    · cases h; exact ⟨rfl, rfl, fun len h9 => Nat.eq_of_beq_eq_true h9⟩
    · cases h
  all_goals (have h2 : (none : Option (Option Value)) = some v := h; cases h2)
theorem callOf_i {i : Instr} {k idx : Nat} (h : callOf i = some (k, idx)) : (k = 0 ∧ i = .invokevirtual idx ∨ k = 1 ∧ i = .invokespecial idx ∨ k = 2 ∧ i = .invokestatic idx) ∧ ∀ len, lenOk i len = true → len = 3 := by
  cases i
  case invokevirtual k => cases h; exact ⟨Or.inl ⟨rfl, rfl⟩, fun len h9 => Nat.eq_of_beq_eq_true h9⟩
  case invokespecial k => cases h; exact ⟨Or.inr (Or.inl ⟨rfl, rfl⟩), fun len h9 => Nat.eq_of_beq_eq_true h9⟩
  case invokestatic k => cases h; exact ⟨Or.inr (Or.inr ⟨rfl, rfl⟩), fun len h9 => Nat.eq_of_beq_eq_true h9⟩
  all_goals (have h2 : (none : Option (Nat × Nat)) = some (k, idx) := h; cases h2)
theorem popN_i : ∀ {n : Nat} {st acc as rest : List Value}, popN n st acc = some (as, rest) → ∃ bs, as = bs ++ acc ∧ bs.length = n ∧ st = bs.reverse ++ rest
  | 0, st, acc, as, rest, h => by cases h; exact ⟨[], rfl, rfl, rfl⟩
  | n + 1, v :: st, acc, as, rest, h => by
    obtain ⟨bs, h1, h2, h3⟩ := popN_i (n := n) (show popN n st (v :: acc) = some (as, rest) from h)
    exact ⟨bs ++ [v], by simp [h1], by simp [h2], by simp [h3]⟩
  | n + 1, [], acc, as, rest, h => by cases h

/-! ===== the law's run: every call answers, and what is compared is the same ===== -/
theorem opx_odds {q : SS} (h : INV q) (a0 : Int32) : T (f_X11_odds q a0) (fun r => T (f_X12_odds r.2 a0) (fun s => INV s.2)) := T_mono (xo_odds h a0) (fun _ hr => mo_odds hr a0)
theorem opx_watch {q : SS} (h : INV q) (a0 : Int32) : T (f_X11_watch q a0) (fun r => T (f_X12_watch r.2 a0) (fun s => INV s.2)) := T_mono (xo_watch h a0) (fun _ hr => mo_watch hr a0)
theorem opx_later {q : SS} (h : INV q) (a0 : Int32) (a1 : Int32) (a2 : Int32) : T (f_X11_later q a0 a1 a2) (fun r => T (f_X12_later r.2 a0 a1 a2) (fun s => INV s.2)) := T_mono (xo_later h a0 a1 a2) (fun _ hr => mo_later hr a0 a1 a2)
theorem opx_eve {q : SS} (h : INV q) (a0 : Int32) (a1 : Int32) (a2 : Int32) : T (f_X11_eve q a0 a1 a2) (fun r => T (f_X12_eve r.2 a0 a1 a2) (fun s => INV s.2)) := T_mono (xo_eve h a0 a1 a2) (fun _ hr => mo_eve hr a0 a1 a2)
theorem opx_likely {q : SS} (h : INV q) (a0 : Int32) (a1 : Int32) (a2 : Int32) : T (f_X11_likely q a0 a1 a2) (fun r => T (f_X12_likely r.2 a0 a1 a2) (fun s => INV s.2)) := T_mono (xo_likely h a0 a1 a2) (fun _ hr => mo_likely hr a0 a1 a2)
theorem opx_all {q : SS} (h : INV q) (a0 : Int32) (a1 : Int32) : T (f_X11_all q a0 a1) (fun r => T (f_X12_all r.2 a0 a1) (fun s => INV s.2)) := T_mono (xo_all h a0 a1) (fun _ hr => mo_all hr a0 a1)
theorem opx_drawn {q : SS} (h : INV q) (a0 : Int32) (a1 : Int32) (a2 : Int32) : T (f_X11_drawn q a0 a1 a2) (fun r => T (f_X12_drawn r.2 a0 a1 a2) (fun s => INV s.2)) := T_mono (xo_drawn h a0 a1 a2) (fun _ hr => mo_drawn hr a0 a1 a2)
theorem opx_behind {q : SS} (h : INV q) (a0 : Int32) (a1 : Int32) (a2 : Int32) : T (f_X11_behind q a0 a1 a2) (fun r => T (f_X12_behind r.2 a0 a1 a2) (fun s => INV s.2)) := T_mono (xo_behind h a0 a1 a2) (fun _ hr => mo_behind hr a0 a1 a2)
theorem opx_rid {q : SS} (h : INV q) (a0 : Int32) (a1 : Int32) (a2 : Int32) : T (f_X11_rid q a0 a1 a2) (fun r => T (f_X12_rid r.2 a0 a1 a2) (fun s => INV s.2)) := T_mono (xo_rid h a0 a1 a2) (fun _ hr => mo_rid hr a0 a1 a2)
theorem opx_first {q : SS} (h : INV q) (a0 : Int32) (a1 : Int32) : T (f_X11_first q a0 a1) (fun r => T (f_X12_first r.2 a0 a1) (fun s => INV s.2)) := T_mono (xo_first h a0 a1) (fun _ hr => mo_first hr a0 a1)
theorem opx_hire {q : SS} (h : INV q) (a0 : Int32) (a1 : Int32) (a2 : Int32) : T (f_X11_hire q a0 a1 a2) (fun r => T (f_X12_hire r.2 a0 a1 a2) (fun s => INV s.2)) := T_mono (xo_hire h a0 a1 a2) (fun _ hr => mo_hire hr a0 a1 a2)
theorem opx_law {q : SS} (h : INV q) : T (f_X11_law q) (fun r => T (f_X12_law r.2) (fun s => INV s.2)) := T_mono (xo_law h) (fun r hr => by
    obtain ⟨y, hy, _, e⟩ := hr
    rw [e]
    exact mo_law hy)
set_option maxHeartbeats 4000000 in
theorem law_T {L : Nat} (hL : L ≤ 3072) (xs : Nat → Int32) {q0 : SS} (h0 : INV q0) : T (f_L_law L xs q0 0) (fun r => r.1 = 1) := by
  have l6 : (6 : Int32).toInt = 6 := rfl
  have lL : (Int32.ofNat L).toInt = (L : Int) := onI (by omega)
  have lb : (Int32.ofNat L - 6).toInt = (L : Int) - 6 := by rw [tsub (by omega) (by omega), lL, l6]
  unfold f_L_law b_L_law_18
  refine T_fx2 (fun q l => INV q ∧ 0 ≤ l.toInt ∧ l.toInt ≤ 3100) (fun _ l => (3200 - l.toInt).toNat) ?_ _ _ _ ⟨h0, by decide, by decide⟩ (by unfold FU; decide)
  rintro rec q l3 ⟨h, b0, b1⟩ hrec
  refine T_lt (fun _ => T_some.mpr rfl) (fun ge => ?_)
  have vk : ∀ (k : Int32), 0 ≤ k.toInt → k.toInt ≤ 5 → vin (l3 + k) L := fun k k0 k5 => by
    have e : (l3 + k).toInt = l3.toInt + k.toInt := tadd (by omega) (by omega)
    exact ⟨by omega, by omega⟩
  have hv0 : vin l3 L := ⟨b0, by omega⟩
  have hv1 := vk 1 (by decide) (by decide)
  have hv2 := vk 2 (by decide) (by decide)
  have hv3 := vk 3 (by decide) (by decide)
  have hv4 := vk 4 (by decide) (by decide)
  have hv5 := vk 5 (by decide) (by decide)
  have i6 : (l3 + 6).toInt = l3.toInt + 6 := by rw [tadd (by omega) (by omega), l6]
  have go : ∀ q', INV q' → T (b_L_law_1512 L xs rec q' l3) (fun r => r.1 = 1) := fun q' hq => by
    unfold b_L_law_1512
    exact hrec _ _ ⟨hq, by omega, by omega⟩ (by omega)
  refine T_p hv0 (T_nm ?_)
  refine T_sw (fun _ => T_p hv1 (T_b (op_person h _) (fun r hr => T_p hv1 (T_b hr (fun s hs => go _ hs.1))))) (fun _ => ?_)
  refine T_sw (fun _ => T_p hv1 (T_p hv2 (T_b (op_ticket h _ _) (fun r hr => T_p hv1 (T_p hv2 (T_b hr (fun s hs => go _ hs.1))))))) (fun _ => ?_)
  refine T_sw (fun _ => T_p hv1 (T_p hv2 (T_p hv3 (T_b (op_tickets h _ _ _) (fun r hr => T_p hv1 (T_p hv2 (T_p hv3 (T_b hr (fun s hs => go _ hs.1))))))))) (fun _ => ?_)
  refine T_sw (fun _ => T_p hv1 (T_p hv2 (T_p hv3 (T_b (op_mend h _ _ _) (fun r hr => T_p hv1 (T_p hv2 (T_p hv3 (T_b hr (fun s hs => go _ hs.1))))))))) (fun _ => ?_)
  refine T_sw (fun _ => T_p hv1 (T_p hv2 (T_b (op_of h _ _) (fun r hr => T_p hv1 (T_p hv2 (T_b hr (fun s hs => go _ hs.1))))))) (fun _ => ?_)
  refine T_sw (fun _ => T_p hv1 (T_b (op_feed h _) (fun r hr => T_p hv1 (T_b hr (fun s hs => go _ hs.1))))) (fun _ => ?_)
  refine T_sw (fun _ => T_b (opx_law h) (fun r hr => T_b hr (fun s hs => go _ hs))) (fun _ => ?_)
  refine T_sw (fun _ => T_p hv1 (T_b (opx_odds h _) (fun r hr => T_p hv1 (T_b hr (fun s hs => go _ hs))))) (fun _ => ?_)
  refine T_sw (fun _ => T_p hv1 (T_p hv2 (T_p hv3 (T_b (opx_later h _ _ _) (fun r hr => T_p hv1 (T_p hv2 (T_p hv3 (T_b hr (fun s hs => go _ hs))))))))) (fun _ => ?_)
  refine T_sw (fun _ => T_p hv1 (T_p hv2 (T_p hv3 (T_b (opx_eve h _ _ _) (fun r hr => T_p hv1 (T_p hv2 (T_p hv3 (T_b hr (fun s hs => go _ hs))))))))) (fun _ => ?_)
  refine T_sw (fun _ => T_p hv1 (T_p hv2 (T_p hv3 (T_b (opx_likely h _ _ _) (fun r hr => T_p hv1 (T_p hv2 (T_p hv3 (T_b hr (fun s hs => go _ hs))))))))) (fun _ => ?_)
  refine T_sw (fun _ => T_p hv1 (T_p hv2 (T_b (opx_all h _ _) (fun r hr => T_p hv1 (T_p hv2 (T_b hr (fun s hs => go _ hs))))))) (fun _ => ?_)
  refine T_sw (fun _ => T_p hv1 (T_p hv2 (T_b (op_king h _ _) (fun r hr => T_p hv1 (T_p hv2 (T_b hr (fun s hs => go _ hs.1))))))) (fun _ => ?_)
  refine T_sw (fun _ => T_b (op_safe h ) (fun r hr => T_b hr (fun s hs => go _ hs.1))) (fun _ => ?_)
  refine T_sw (fun _ => T_b (op_likeliest h ) (fun r hr => T_b hr (fun s hs => go _ hs.1))) (fun _ => ?_)
  refine T_sw (fun _ => T_p hv1 (T_b (opx_watch h _) (fun r hr => T_p hv1 (T_b hr (fun s hs => go _ hs))))) (fun _ => ?_)
  refine T_sw (fun _ => T_p hv1 (T_p hv2 (T_p hv3 (T_b (opx_rid h _ _ _) (fun r hr => T_p hv1 (T_p hv2 (T_p hv3 (T_b hr (fun s hs => go _ hs))))))))) (fun _ => ?_)
  refine T_sw (fun _ => T_p hv1 (T_p hv2 (T_b (opx_first h _ _) (fun r hr => T_p hv1 (T_p hv2 (T_b hr (fun s hs => go _ hs))))))) (fun _ => ?_)
  refine T_sw (fun _ => T_p hv1 (T_p hv2 (T_p hv3 (T_b (opx_hire h _ _ _) (fun r hr => T_p hv1 (T_p hv2 (T_p hv3 (T_b hr (fun s hs => go _ hs))))))))) (fun _ => ?_)
  refine T_sw (fun _ => T_p hv1 (T_p hv2 (T_b (op_friend h _ _) (fun r hr => T_p hv1 (T_p hv2 (T_b hr (fun s hs => go _ hs.1))))))) (fun _ => ?_)
  refine T_sw (fun _ => T_p hv1 (T_p hv2 (T_b (op_share h _ _) (fun r hr => T_p hv1 (T_p hv2 (T_b hr (fun s hs => go _ hs.1))))))) (fun _ => ?_)
  refine T_sw (fun _ => T_b (op_half h ) (fun r hr => T_b hr (fun s hs => go _ hs.1))) (fun _ => ?_)
  refine T_sw (fun _ => T_p hv1 (T_p hv2 (T_p hv3 (T_b (opx_behind h _ _ _) (fun r hr => T_p hv1 (T_p hv2 (T_p hv3 (T_b hr (fun s hs => go _ hs))))))))) (fun _ => ?_)
  refine T_sw (fun _ => T_p hv1 (T_p hv2 (T_p hv3 (T_b (opx_drawn h _ _ _) (fun r hr => T_p hv1 (T_p hv2 (T_p hv3 (T_b hr (fun s hs => go _ hs))))))))) (fun _ => ?_)
  refine T_sw (fun _ => T_p hv1 (T_p hv2 (T_b (op_slip h _ _) (fun r hr => T_p hv1 (T_p hv2 (T_b hr (fun s hs => go _ hs.1))))))) (fun _ => ?_)
  refine T_sw (fun _ => T_p hv1 (T_b (op_fold h _) (fun r hr => T_p hv1 (T_b hr (fun s hs => go _ hs.1))))) (fun _ => ?_)
  refine T_sw (fun _ => T_b (op_hour h ) (fun r hr => T_b hr (fun s hs => go _ hs.1))) (fun _ => ?_)
  refine T_sw (fun _ => T_p hv1 (T_b (op_led h _) (fun r hr => T_p hv1 (T_b hr (fun s hs => go _ h))))) (fun _ => ?_)
  refine T_sw (fun _ => T_b (op_image h ) (fun r hr => T_b hr (fun s hs => go _ hs.1))) (fun _ => ?_)
  refine T_sw (fun _ => T_b (op_back h ) (fun r hr => T_b hr (fun s hs => go _ hs.1))) (fun _ => ?_)
  refine T_sw (fun _ => T_b (op_undo h ) (fun r hr => T_b hr (fun s hs => go _ hs.1))) (fun _ => ?_)
  refine T_sw (fun _ => T_b (op_redo h ) (fun r hr => T_b hr (fun s hs => go _ hs.1))) (fun _ => ?_)
  refine T_sw (fun _ => T_p hv1 (T_b (op_body h _) (fun r hr => T_p hv1 (T_b hr (fun s hs => go _ hs.1))))) (fun _ => ?_)
  refine T_sw (fun _ => T_p hv1 (T_p hv2 (T_p hv3 (T_b (op_act h _ _ _) (fun r hr => T_p hv1 (T_p hv2 (T_p hv3 (T_b hr (fun s hs => go _ hs.1))))))))) (fun _ => ?_)
  refine T_sw (fun _ => T_p hv1 (T_b (op_trace h _) (fun r hr => T_p hv1 (T_b hr (fun s hs => go _ h))))) (fun _ => ?_)
  refine T_sw (fun _ => T_p hv1 (T_p hv2 (T_b (op_keep h _ _) (fun r hr => T_p hv1 (T_p hv2 (T_b hr (fun s hs => go _ hs.1))))))) (fun _ => ?_)
  refine T_sw (fun _ => T_p hv1 (T_p hv2 (T_p hv3 (T_b (op_row h _ _ _) (fun r hr => T_p hv1 (T_p hv2 (T_p hv3 (T_b hr (fun s hs => go _ hs.1))))))))) (fun _ => ?_)
  refine T_sw (fun _ => T_p hv1 (T_p hv2 (T_p hv3 (T_p hv4 (T_b (op_put h _ _ _) (fun r hr => T_p hv1 (T_p hv2 (T_p hv3 (T_p hv4 (T_b hr (fun s hs => go _ hs.1))))))))))) (fun _ => ?_)
  refine T_sw (fun _ => T_p hv1 (T_p hv2 (T_b (op_element h _ _) (fun r hr => T_p hv1 (T_p hv2 (T_b hr (fun s hs => go _ h))))))) (fun _ => ?_)
  refine T_sw (fun _ => T_p hv1 (T_p hv2 (T_p hv3 (T_p hv4 (T_p hv5 (T_b (op_shift h _ _ _ _ _) (fun r hr => T_p hv1 (T_p hv2 (T_p hv3 (T_p hv4 (T_p hv5 (T_b hr (fun s hs => go _ hs.1))))))))))))) (fun _ => ?_)
  refine T_sw (fun _ => T_p hv1 (T_p hv2 (T_b (op_taken h _ _) (fun r hr => T_p hv1 (T_p hv2 (T_b hr (fun s hs => go _ h))))))) (fun _ => ?_)
  refine T_sw (fun _ => T_p hv1 (T_b (op_count h _) (fun r hr => T_p hv1 (T_b hr (fun s hs => T_p hs (go _ h)))))) (fun _ => ?_)
  exact T_sw0 (go _ h)
theorem law_all {L : Nat} (hL : L ≤ 3072) (xs : Nat → Int32) : ∃ q', f_L_law L xs (qof σM) 0 = some (1, q') := by
  obtain ⟨r, h1, h2⟩ := law_T hL xs INV_M
  obtain ⟨v, q'⟩ := r
  have h2 : v = 1 := h2
  subst h2
  exact ⟨q', h1⟩

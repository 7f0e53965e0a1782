/-! ===== the law's run: every call answers, and what is compared is the same ===== -/
theorem opx_odds {q : SS} (h : INV q) (a0 : Int32) : T (f_X11_odds q a0) (fun r => T (f_X12_odds r.2 a0) (fun s => INV s.2)) := T_mono (xo_odds h a0) (fun _ hr => mo_odds hr a0)
theorem opx_watch {q : SS} (h : INV q) (a0 : Int32) : T (f_X11_watch q a0) (fun r => T (f_X12_watch r.2 a0) (fun s => INV s.2)) := T_mono (xo_watch h a0) (fun _ hr => mo_watch hr a0)
theorem opx_later {q : SS} (h : INV q) (a0 : Int32) (a1 : Int32) (a2 : Int32) : T (f_X11_later q a0 a1 a2) (fun r => T (f_X12_later r.2 a0 a1 a2) (fun s => INV s.2)) := T_mono (xo_later h a0 a1 a2) (fun _ hr => mo_later hr a0 a1 a2)
theorem opx_likely {q : SS} (h : INV q) (a0 : Int32) (a1 : Int32) (a2 : Int32) : T (f_X11_likely q a0 a1 a2) (fun r => T (f_X12_likely r.2 a0 a1 a2) (fun s => INV s.2)) := T_mono (xo_likely h a0 a1 a2) (fun _ hr => mo_likely hr a0 a1 a2)
theorem opx_all {q : SS} (h : INV q) (a0 : Int32) (a1 : Int32) : T (f_X11_all q a0 a1) (fun r => T (f_X12_all r.2 a0 a1) (fun s => INV s.2)) := T_mono (xo_all h a0 a1) (fun _ hr => mo_all hr a0 a1)
theorem opx_drawn {q : SS} (h : INV q) (a0 : Int32) (a1 : Int32) (a2 : Int32) : T (f_X11_drawn q a0 a1 a2) (fun r => T (f_X12_drawn r.2 a0 a1 a2) (fun s => INV s.2)) := T_mono (xo_drawn h a0 a1 a2) (fun _ hr => mo_drawn hr a0 a1 a2)
theorem opx_behind {q : SS} (h : INV q) (a0 : Int32) (a1 : Int32) (a2 : Int32) : T (f_X11_behind q a0 a1 a2) (fun r => T (f_X12_behind r.2 a0 a1 a2) (fun s => INV s.2)) := T_mono (xo_behind h a0 a1 a2) (fun _ hr => mo_behind hr a0 a1 a2)
theorem opx_rid {q : SS} (h : INV q) (a0 : Int32) (a1 : Int32) (a2 : Int32) : T (f_X11_rid q a0 a1 a2) (fun r => T (f_X12_rid r.2 a0 a1 a2) (fun s => INV s.2)) := T_mono (xo_rid h a0 a1 a2) (fun _ hr => mo_rid hr a0 a1 a2)
theorem opx_first {q : SS} (h : INV q) (a0 : Int32) (a1 : Int32) : T (f_X11_first q a0 a1) (fun r => T (f_X12_first r.2 a0 a1) (fun s => INV s.2)) := T_mono (xo_first h a0 a1) (fun _ hr => mo_first hr a0 a1)
theorem opx_hire {q : SS} (h : INV q) (a0 : Int32) (a1 : Int32) (a2 : Int32) : T (f_X11_hire q a0 a1 a2) (fun r => T (f_X12_hire r.2 a0 a1 a2) (fun s => INV s.2)) := T_mono (xo_hire h a0 a1 a2) (fun _ hr => mo_hire hr a0 a1 a2)
theorem T_lift0 {α β : Type} {q : SS} {o1 : Option (α × SS)} {g : α × SS → Option (β × SS)} (h : INV q) (w : RLW q) (t : T o1 (fun r => T (g r) (fun s => INV s.2))) (k1 : KO q o1 (fun r => r.2)) (k2 : ∀ r, KO r.2 (g r) (fun r => r.2)) : T o1 (fun r => T (g r) (fun s => INV s.2 ∧ RLW s.2)) := by
  obtain ⟨r, hr, s, hs, hI⟩ := t
  exact ⟨r, hr, s, hs, hI, RLW_K (Fr_tr (k1 r hr) (k2 r s hs)) (INV_RW h) w⟩
theorem opl_person {q : SS} (h : INV q) (w : RLW q) (a0 : Int32) : T (f_X11_person q a0) (fun r => T (f_X12_person r.2 a0) (fun s => (INV s.2 ∧ RLW s.2) ∧ r.1 = s.1)) := T_lift (Q := fun r s => r.1 = s.1) h w (op_person h a0) (k_f_X11_person q q a0 (Fr_refl q)) (fun r => k_f_X12_person r.2 r.2 a0 (Fr_refl r.2))
theorem opl_ticket {q : SS} (h : INV q) (w : RLW q) (a0 : Int32) (a1 : Int32) : T (f_X11_ticket q a0 a1) (fun r => T (f_X12_ticket r.2 a0 a1) (fun s => (INV s.2 ∧ RLW s.2) ∧ r.1 = s.1)) := T_lift (Q := fun r s => r.1 = s.1) h w (op_ticket h a0 a1) (k_f_X11_ticket q q a0 a1 (Fr_refl q)) (fun r => k_f_X12_ticket r.2 r.2 a0 a1 (Fr_refl r.2))
theorem opl_feed {q : SS} (h : INV q) (w : RLW q) (a0 : Int32) : T (f_X11_feed q a0) (fun r => T (f_X12_feed r.2 a0) (fun s => (INV s.2 ∧ RLW s.2) ∧ r.1 = s.1)) := T_lift (Q := fun r s => r.1 = s.1) h w (op_feed h a0) (k_f_X11_feed q q a0 (Fr_refl q)) (fun r => k_f_X12_feed r.2 r.2 a0 (Fr_refl r.2))
theorem opl_body {q : SS} (h : INV q) (w : RLW q) (a0 : Int32) : T (f_X11_body q a0) (fun r => T (f_X12_body r.2 a0) (fun s => (INV s.2 ∧ RLW s.2) ∧ r.1 = s.1)) := T_lift (Q := fun r s => r.1 = s.1) h w (op_body h a0) (k_f_X11_body q q a0 (Fr_refl q)) (fun r => k_f_X12_body r.2 r.2 a0 (Fr_refl r.2))
theorem opl_keep {q : SS} (h : INV q) (w : RLW q) (a0 : Int32) (a1 : Int32) : T (f_X11_keep q a0 a1) (fun r => T (f_X12_keep r.2 a0 a1) (fun s => (INV s.2 ∧ RLW s.2) ∧ r.1 = s.1)) := T_lift (Q := fun r s => r.1 = s.1) h w (op_keep h a0 a1) (k_f_X11_keep q q a0 a1 (Fr_refl q)) (fun r => k_f_X12_keep r.2 r.2 a0 a1 (Fr_refl r.2))
theorem opl_row {q : SS} (h : INV q) (w : RLW q) (a0 : Int32) (a1 : Int32) (a2 : Int32) : T (f_X11_row q a0 a1 a2) (fun r => T (f_X12_row r.2 a0 a1 a2) (fun s => (INV s.2 ∧ RLW s.2) ∧ r.1 = s.1)) := T_lift (Q := fun r s => r.1 = s.1) h w (op_row h a0 a1 a2) (k_f_X11_row q q a0 a1 a2 (Fr_refl q)) (fun r => k_f_X12_row r.2 r.2 a0 a1 a2 (Fr_refl r.2))
theorem opl_put {q : SS} (h : INV q) (w : RLW q) (a0 : Int32) (a1 : Int32) (a2 : Int64) : T (f_X11_put q a0 a1 a2) (fun r => T (f_X12_put r.2 a0 a1 a2) (fun s => (INV s.2 ∧ RLW s.2) ∧ r.1 = s.1)) := T_lift (Q := fun r s => r.1 = s.1) h w (op_put h a0 a1 a2) (k_f_X11_put q q a0 a1 a2 (Fr_refl q)) (fun r => k_f_X12_put r.2 r.2 a0 a1 a2 (Fr_refl r.2))
theorem opl_shift {q : SS} (h : INV q) (w : RLW q) (a0 : Int32) (a1 : Int32) (a2 : Int32) (a3 : Int32) (a4 : Int32) : T (f_X11_shift q a0 a1 a2 a3 a4) (fun r => T (f_X12_shift r.2 a0 a1 a2 a3 a4) (fun s => (INV s.2 ∧ RLW s.2) ∧ r.1 = s.1)) := T_lift (Q := fun r s => r.1 = s.1) h w (op_shift h a0 a1 a2 a3 a4) (k_f_X11_shift q q a0 a1 a2 a3 a4 (Fr_refl q)) (fun r => k_f_X12_shift r.2 r.2 a0 a1 a2 a3 a4 (Fr_refl r.2))
theorem opl_fold {q : SS} (h : INV q) (w : RLW q) (a0 : Int32) : T (f_X11_fold q a0) (fun r => T (f_X12_fold r.2 a0) (fun s => (INV s.2 ∧ RLW s.2) ∧ r.1 = s.1)) := T_lift (Q := fun r s => r.1 = s.1) h w (op_fold h a0) (k_f_X11_fold q q a0 (Fr_refl q)) (fun r => k_f_X12_fold r.2 r.2 a0 (Fr_refl r.2))
theorem opl_hour {q : SS} (h : INV q) (w : RLW q)  : T (f_X11_hour q ) (fun r => T (f_X12_hour r.2 ) (fun s => (INV s.2 ∧ RLW s.2) ∧ r.1 = s.1)) := T_lift (Q := fun r s => r.1 = s.1) h w (op_hour h ) (k_f_X11_hour q q  (Fr_refl q)) (fun r => k_f_X12_hour r.2 r.2  (Fr_refl r.2))
theorem opl_slip {q : SS} (h : INV q) (w : RLW q) (a0 : Int32) (a1 : Int32) : T (f_X11_slip q a0 a1) (fun r => T (f_X12_slip r.2 a0 a1) (fun s => (INV s.2 ∧ RLW s.2) ∧ r.1 = s.1)) := T_lift (Q := fun r s => r.1 = s.1) h w (op_slip h a0 a1) (k_f_X11_slip q q a0 a1 (Fr_refl q)) (fun r => k_f_X12_slip r.2 r.2 a0 a1 (Fr_refl r.2))
theorem opl_undo {q : SS} (h : INV q) (w : RLW q)  : T (f_X11_undo q ) (fun r => T (f_X12_undo r.2 ) (fun s => (INV s.2 ∧ RLW s.2) ∧ r.1 = s.1)) := T_lift (Q := fun r s => r.1 = s.1) h w (op_undo h ) (k_f_X11_undo q q  (Fr_refl q)) (fun r => k_f_X12_undo r.2 r.2  (Fr_refl r.2))
theorem opl_redo {q : SS} (h : INV q) (w : RLW q)  : T (f_X11_redo q ) (fun r => T (f_X12_redo r.2 ) (fun s => (INV s.2 ∧ RLW s.2) ∧ r.1 = s.1)) := T_lift (Q := fun r s => r.1 = s.1) h w (op_redo h ) (k_f_X11_redo q q  (Fr_refl q)) (fun r => k_f_X12_redo r.2 r.2  (Fr_refl r.2))
theorem opl_mend {q : SS} (h : INV q) (w : RLW q) (a0 : Int32) (a1 : Int32) (a2 : Int32) : T (f_X11_mend q a0 a1 a2) (fun r => T (f_X12_mend r.2 a0 a1 a2) (fun s => (INV s.2 ∧ RLW s.2) ∧ r.1 = s.1)) := T_lift (Q := fun r s => r.1 = s.1) h w (op_mend h a0 a1 a2) (k_f_X11_mend q q a0 a1 a2 (Fr_refl q)) (fun r => k_f_X12_mend r.2 r.2 a0 a1 a2 (Fr_refl r.2))
theorem opl_act {q : SS} (h : INV q) (w : RLW q) (a0 : Int32) (a1 : Int32) (a2 : Int32) : T (f_X11_act q a0 a1 a2) (fun r => T (f_X12_act r.2 a0 a1 a2) (fun s => (INV s.2 ∧ RLW s.2) ∧ r.1 = s.1)) := T_lift (Q := fun r s => r.1 = s.1) h w (op_act h a0 a1 a2) (k_f_X11_act q q a0 a1 a2 (Fr_refl q)) (fun r => k_f_X12_act r.2 r.2 a0 a1 a2 (Fr_refl r.2))
theorem opl_image {q : SS} (h : INV q) (w : RLW q)  : T (f_X11_image q ) (fun r => T (f_X12_image r.2 ) (fun s => (INV s.2 ∧ RLW s.2) ∧ r.1 = s.1)) := T_lift (Q := fun r s => r.1 = s.1) h w (op_image h ) (k_f_X11_image q q  (Fr_refl q)) (fun r => k_f_X12_image r.2 r.2  (Fr_refl r.2))
theorem opl_back {q : SS} (h : INV q) (w : RLW q)  : T (f_X11_back q ) (fun r => T (f_X12_back r.2 ) (fun s => (INV s.2 ∧ RLW s.2) ∧ r.1 = s.1)) := T_lift (Q := fun r s => r.1 = s.1) h w (op_back h ) (k_f_X11_back q q  (Fr_refl q)) (fun r => k_f_X12_back r.2 r.2  (Fr_refl r.2))
theorem opl_tickets {q : SS} (h : INV q) (w : RLW q) (a0 : Int32) (a1 : Int32) (a2 : Int32) : T (f_X11_tickets q a0 a1 a2) (fun r => T (f_X12_tickets r.2 a0 a1 a2) (fun s => (INV s.2 ∧ RLW s.2) ∧ r.1 = s.1)) := T_lift (Q := fun r s => r.1 = s.1) h w (op_tickets h a0 a1 a2) (k_f_X11_tickets q q a0 a1 a2 (Fr_refl q)) (fun r => k_f_X12_tickets r.2 r.2 a0 a1 a2 (Fr_refl r.2))
theorem opl_of {q : SS} (h : INV q) (w : RLW q) (a0 : Int32) (a1 : Int32) : T (f_X11_of q a0 a1) (fun r => T (f_X12_of r.2 a0 a1) (fun s => (INV s.2 ∧ RLW s.2) ∧ r.1 = s.1)) := T_lift (Q := fun r s => r.1 = s.1) h w (op_of h a0 a1) (k_f_X11_of q q a0 a1 (Fr_refl q)) (fun r => k_f_X12_of r.2 r.2 a0 a1 (Fr_refl r.2))
theorem opl_share {q : SS} (h : INV q) (w : RLW q) (a0 : Int32) (a1 : Int32) : T (f_X11_share q a0 a1) (fun r => T (f_X12_share r.2 a0 a1) (fun s => (INV s.2 ∧ RLW s.2) ∧ r.1 = s.1)) := T_lift (Q := fun r s => r.1 = s.1) h w (op_share h a0 a1) (k_f_X11_share q q a0 a1 (Fr_refl q)) (fun r => k_f_X12_share r.2 r.2 a0 a1 (Fr_refl r.2))
theorem opl_safe {q : SS} (h : INV q) (w : RLW q)  : T (f_X11_safe q ) (fun r => T (f_X12_safe r.2 ) (fun s => (INV s.2 ∧ RLW s.2) ∧ r.1 = s.1)) := T_lift (Q := fun r s => r.1 = s.1) h w (op_safe h ) (k_f_X11_safe q q  (Fr_refl q)) (fun r => k_f_X12_safe r.2 r.2  (Fr_refl r.2))
theorem opl_likeliest {q : SS} (h : INV q) (w : RLW q)  : T (f_X11_likeliest q ) (fun r => T (f_X12_likeliest r.2 ) (fun s => (INV s.2 ∧ RLW s.2) ∧ r.1 = s.1)) := T_lift (Q := fun r s => r.1 = s.1) h w (op_likeliest h ) (k_f_X11_likeliest q q  (Fr_refl q)) (fun r => k_f_X12_likeliest r.2 r.2  (Fr_refl r.2))
theorem opl_king {q : SS} (h : INV q) (w : RLW q) (a0 : Int32) (a1 : Int32) : T (f_X11_king q a0 a1) (fun r => T (f_X12_king r.2 a0 a1) (fun s => (INV s.2 ∧ RLW s.2) ∧ r.1 = s.1)) := T_lift (Q := fun r s => r.1 = s.1) h w (op_king h a0 a1) (k_f_X11_king q q a0 a1 (Fr_refl q)) (fun r => k_f_X12_king r.2 r.2 a0 a1 (Fr_refl r.2))
theorem opl_friend {q : SS} (h : INV q) (w : RLW q) (a0 : Int32) (a1 : Int32) : T (f_X11_friend q a0 a1) (fun r => T (f_X12_friend r.2 a0 a1) (fun s => (INV s.2 ∧ RLW s.2) ∧ r.1 = s.1)) := T_lift (Q := fun r s => r.1 = s.1) h w (op_friend h a0 a1) (k_f_X11_friend q q a0 a1 (Fr_refl q)) (fun r => k_f_X12_friend r.2 r.2 a0 a1 (Fr_refl r.2))
theorem opl_half {q : SS} (h : INV q) (w : RLW q)  : T (f_X11_half q ) (fun r => T (f_X12_half r.2 ) (fun s => (INV s.2 ∧ RLW s.2) ∧ r.1 = s.1)) := T_lift (Q := fun r s => r.1 = s.1) h w (op_half h ) (k_f_X11_half q q  (Fr_refl q)) (fun r => k_f_X12_half r.2 r.2  (Fr_refl r.2))
theorem opl_odds {q : SS} (h : INV q) (w : RLW q) (a0 : Int32) : T (f_X11_odds q a0) (fun r => T (f_X12_odds r.2 a0) (fun s => INV s.2 ∧ RLW s.2)) := T_lift0 h w (opx_odds h a0) (k_f_X11_odds q q a0 (Fr_refl q)) (fun r => k_f_X12_odds r.2 r.2 a0 (Fr_refl r.2))
theorem opl_watch {q : SS} (h : INV q) (w : RLW q) (a0 : Int32) : T (f_X11_watch q a0) (fun r => T (f_X12_watch r.2 a0) (fun s => INV s.2 ∧ RLW s.2)) := T_lift0 h w (opx_watch h a0) (k_f_X11_watch q q a0 (Fr_refl q)) (fun r => k_f_X12_watch r.2 r.2 a0 (Fr_refl r.2))
theorem opl_later {q : SS} (h : INV q) (w : RLW q) (a0 : Int32) (a1 : Int32) (a2 : Int32) : T (f_X11_later q a0 a1 a2) (fun r => T (f_X12_later r.2 a0 a1 a2) (fun s => INV s.2 ∧ RLW s.2)) := T_lift0 h w (opx_later h a0 a1 a2) (k_f_X11_later q q a0 a1 a2 (Fr_refl q)) (fun r => k_f_X12_later r.2 r.2 a0 a1 a2 (Fr_refl r.2))
theorem opl_eve {q : SS} (h : INV q) (w : RLW q) (a0 : Int32) (a1 : Int32) (a2 : Int32) : T (f_X11_eve q a0 a1 a2) (fun r => T (f_X12_eve r.2 a0 a1 a2) (fun s => (INV s.2 ∧ RLW s.2) ∧ r.1 = s.1)) := T_lift (Q := fun r s => r.1 = s.1) h w (opq_eve h w a0 a1 a2) (k_f_X11_eve q q a0 a1 a2 (Fr_refl q)) (fun r => k_f_X12_eve r.2 r.2 a0 a1 a2 (Fr_refl r.2))
theorem opl_likely {q : SS} (h : INV q) (w : RLW q) (a0 : Int32) (a1 : Int32) (a2 : Int32) : T (f_X11_likely q a0 a1 a2) (fun r => T (f_X12_likely r.2 a0 a1 a2) (fun s => INV s.2 ∧ RLW s.2)) := T_lift0 h w (opx_likely h a0 a1 a2) (k_f_X11_likely q q a0 a1 a2 (Fr_refl q)) (fun r => k_f_X12_likely r.2 r.2 a0 a1 a2 (Fr_refl r.2))
theorem opl_all {q : SS} (h : INV q) (w : RLW q) (a0 : Int32) (a1 : Int32) : T (f_X11_all q a0 a1) (fun r => T (f_X12_all r.2 a0 a1) (fun s => INV s.2 ∧ RLW s.2)) := T_lift0 h w (opx_all h a0 a1) (k_f_X11_all q q a0 a1 (Fr_refl q)) (fun r => k_f_X12_all r.2 r.2 a0 a1 (Fr_refl r.2))
theorem opl_drawn {q : SS} (h : INV q) (w : RLW q) (a0 : Int32) (a1 : Int32) (a2 : Int32) : T (f_X11_drawn q a0 a1 a2) (fun r => T (f_X12_drawn r.2 a0 a1 a2) (fun s => INV s.2 ∧ RLW s.2)) := T_lift0 h w (opx_drawn h a0 a1 a2) (k_f_X11_drawn q q a0 a1 a2 (Fr_refl q)) (fun r => k_f_X12_drawn r.2 r.2 a0 a1 a2 (Fr_refl r.2))
theorem opl_behind {q : SS} (h : INV q) (w : RLW q) (a0 : Int32) (a1 : Int32) (a2 : Int32) : T (f_X11_behind q a0 a1 a2) (fun r => T (f_X12_behind r.2 a0 a1 a2) (fun s => INV s.2 ∧ RLW s.2)) := T_lift0 h w (opx_behind h a0 a1 a2) (k_f_X11_behind q q a0 a1 a2 (Fr_refl q)) (fun r => k_f_X12_behind r.2 r.2 a0 a1 a2 (Fr_refl r.2))
theorem opl_rid {q : SS} (h : INV q) (w : RLW q) (a0 : Int32) (a1 : Int32) (a2 : Int32) : T (f_X11_rid q a0 a1 a2) (fun r => T (f_X12_rid r.2 a0 a1 a2) (fun s => INV s.2 ∧ RLW s.2)) := T_lift0 h w (opx_rid h a0 a1 a2) (k_f_X11_rid q q a0 a1 a2 (Fr_refl q)) (fun r => k_f_X12_rid r.2 r.2 a0 a1 a2 (Fr_refl r.2))
theorem opl_first {q : SS} (h : INV q) (w : RLW q) (a0 : Int32) (a1 : Int32) : T (f_X11_first q a0 a1) (fun r => T (f_X12_first r.2 a0 a1) (fun s => INV s.2 ∧ RLW s.2)) := T_lift0 h w (opx_first h a0 a1) (k_f_X11_first q q a0 a1 (Fr_refl q)) (fun r => k_f_X12_first r.2 r.2 a0 a1 (Fr_refl r.2))
theorem opl_hire {q : SS} (h : INV q) (w : RLW q) (a0 : Int32) (a1 : Int32) (a2 : Int32) : T (f_X11_hire q a0 a1 a2) (fun r => T (f_X12_hire r.2 a0 a1 a2) (fun s => INV s.2 ∧ RLW s.2)) := T_lift0 h w (opx_hire h a0 a1 a2) (k_f_X11_hire q q a0 a1 a2 (Fr_refl q)) (fun r => k_f_X12_hire r.2 r.2 a0 a1 a2 (Fr_refl r.2))
theorem opx_law {q : SS} (h : INV q) : T (f_X11_law q) (fun r => T (f_X12_law r.2) (fun s => INV s.2)) := T_mono (xo_law h) (fun r hr => by
    obtain ⟨y, hy, _, e⟩ := hr
    rw [e]
    exact mo_law hy)
set_option maxHeartbeats 4000000 in
theorem law_T {L : Nat} (hL : L ≤ 3072) (xs : Nat → Int32) {q0 : SS} (h0 : (INV q0 ∧ RLW q0)) : T (f_L_law L xs q0 0) (fun r => r.1 = 1) := by
  have l6 : (6 : Int32).toInt = 6 := rfl
  have lL : (Int32.ofNat L).toInt = (L : Int) := onI (by omega)
  have lb : (Int32.ofNat L - 6).toInt = (L : Int) - 6 := by rw [tsub (by omega) (by omega), lL, l6]
  unfold f_L_law b_L_law_18
  refine T_fx2 (fun q l => (INV q ∧ RLW q) ∧ 0 ≤ l.toInt ∧ l.toInt ≤ 3100) (fun _ l => (3200 - l.toInt).toNat) ?_ _ _ _ ⟨h0, by decide, by decide⟩ (by unfold FU; decide)
  rintro rec q l3 ⟨⟨h, w⟩, b0, b1⟩ hrec
  refine T_lt (fun _ => T_some.mpr rfl) (fun ge => ?_)
  have vk : ∀ (k : Int32), 0 ≤ k.toInt → k.toInt ≤ 5 → vin (l3 + k) L := fun k k0 k5 => by
    have e : (l3 + k).toInt = l3.toInt + k.toInt := tadd (by omega) (by omega)
    exact ⟨by omega, by omega⟩
  have hv0 : vin l3 L := ⟨b0, by omega⟩
  have hv1 := vk 1 (by decide) (by decide)
  have hv2 := vk 2 (by decide) (by decide)
  have hv3 := vk 3 (by decide) (by decide)
  have hv4 := vk 4 (by decide) (by decide)
  have hv5 := vk 5 (by decide) (by decide)
  have i6 : (l3 + 6).toInt = l3.toInt + 6 := by rw [tadd (by omega) (by omega), l6]
  have go : ∀ q', (INV q' ∧ RLW q') → T (b_L_law_1512 L xs rec q' l3) (fun r => r.1 = 1) := fun q' hq => by
    unfold b_L_law_1512
    exact hrec _ _ ⟨hq, by omega, by omega⟩ (by omega)
  refine T_p hv0 (T_nm ?_)
  refine T_sw (fun _ => T_p hv1 (T_b (opl_person h w _) (fun r hr => T_p hv1 (T_b hr (fun s hs => go _ hs.1))))) (fun _ => ?_)
  refine T_sw (fun _ => T_p hv1 (T_p hv2 (T_b (opl_ticket h w _ _) (fun r hr => T_p hv1 (T_p hv2 (T_b hr (fun s hs => go _ hs.1))))))) (fun _ => ?_)
  refine T_sw (fun _ => T_p hv1 (T_p hv2 (T_p hv3 (T_b (opl_tickets h w _ _ _) (fun r hr => T_p hv1 (T_p hv2 (T_p hv3 (T_b hr (fun s hs => go _ hs.1))))))))) (fun _ => ?_)
  refine T_sw (fun _ => T_p hv1 (T_p hv2 (T_p hv3 (T_b (opl_mend h w _ _ _) (fun r hr => T_p hv1 (T_p hv2 (T_p hv3 (T_b hr (fun s hs => go _ hs.1))))))))) (fun _ => ?_)
  refine T_sw (fun _ => T_p hv1 (T_p hv2 (T_b (opl_of h w _ _) (fun r hr => T_p hv1 (T_p hv2 (T_b hr (fun s hs => go _ hs.1))))))) (fun _ => ?_)
  refine T_sw (fun _ => T_p hv1 (T_b (opl_feed h w _) (fun r hr => T_p hv1 (T_b hr (fun s hs => go _ hs.1))))) (fun _ => ?_)
  refine T_sw (fun _ => T_b (opw_law h w) (fun r hr => T_b hr (fun s hs => go _ hs.1))) (fun _ => ?_)
  refine T_sw (fun _ => T_p hv1 (T_b (opl_odds h w _) (fun r hr => T_p hv1 (T_b hr (fun s hs => go _ hs))))) (fun _ => ?_)
  refine T_sw (fun _ => T_p hv1 (T_p hv2 (T_p hv3 (T_b (opl_later h w _ _ _) (fun r hr => T_p hv1 (T_p hv2 (T_p hv3 (T_b hr (fun s hs => go _ hs))))))))) (fun _ => ?_)
  refine T_sw (fun _ => T_p hv1 (T_p hv2 (T_p hv3 (T_b (opl_eve h w _ _ _) (fun r hr => T_p hv1 (T_p hv2 (T_p hv3 (T_b hr (fun s hs => T_p hs.2 (go _ hs.1)))))))))) (fun _ => ?_)
  refine T_sw (fun _ => T_p hv1 (T_p hv2 (T_p hv3 (T_b (opl_likely h w _ _ _) (fun r hr => T_p hv1 (T_p hv2 (T_p hv3 (T_b hr (fun s hs => go _ hs))))))))) (fun _ => ?_)
  refine T_sw (fun _ => T_p hv1 (T_p hv2 (T_b (opl_all h w _ _) (fun r hr => T_p hv1 (T_p hv2 (T_b hr (fun s hs => go _ hs))))))) (fun _ => ?_)
  refine T_sw (fun _ => T_p hv1 (T_p hv2 (T_b (opl_king h w _ _) (fun r hr => T_p hv1 (T_p hv2 (T_b hr (fun s hs => go _ hs.1))))))) (fun _ => ?_)
  refine T_sw (fun _ => T_b (opl_safe h w ) (fun r hr => T_b hr (fun s hs => go _ hs.1))) (fun _ => ?_)
  refine T_sw (fun _ => T_b (opl_likeliest h w ) (fun r hr => T_b hr (fun s hs => go _ hs.1))) (fun _ => ?_)
  refine T_sw (fun _ => T_p hv1 (T_b (opl_watch h w _) (fun r hr => T_p hv1 (T_b hr (fun s hs => go _ hs))))) (fun _ => ?_)
  refine T_sw (fun _ => T_p hv1 (T_p hv2 (T_p hv3 (T_b (opl_rid h w _ _ _) (fun r hr => T_p hv1 (T_p hv2 (T_p hv3 (T_b hr (fun s hs => go _ hs))))))))) (fun _ => ?_)
  refine T_sw (fun _ => T_p hv1 (T_p hv2 (T_b (opl_first h w _ _) (fun r hr => T_p hv1 (T_p hv2 (T_b hr (fun s hs => go _ hs))))))) (fun _ => ?_)
  refine T_sw (fun _ => T_p hv1 (T_p hv2 (T_p hv3 (T_b (opl_hire h w _ _ _) (fun r hr => T_p hv1 (T_p hv2 (T_p hv3 (T_b hr (fun s hs => go _ hs))))))))) (fun _ => ?_)
  refine T_sw (fun _ => T_p hv1 (T_p hv2 (T_b (opl_friend h w _ _) (fun r hr => T_p hv1 (T_p hv2 (T_b hr (fun s hs => go _ hs.1))))))) (fun _ => ?_)
  refine T_sw (fun _ => T_p hv1 (T_p hv2 (T_b (opl_share h w _ _) (fun r hr => T_p hv1 (T_p hv2 (T_b hr (fun s hs => go _ hs.1))))))) (fun _ => ?_)
  refine T_sw (fun _ => T_b (opl_half h w ) (fun r hr => T_b hr (fun s hs => go _ hs.1))) (fun _ => ?_)
  refine T_sw (fun _ => T_p hv1 (T_p hv2 (T_p hv3 (T_b (opl_behind h w _ _ _) (fun r hr => T_p hv1 (T_p hv2 (T_p hv3 (T_b hr (fun s hs => go _ hs))))))))) (fun _ => ?_)
  refine T_sw (fun _ => T_p hv1 (T_p hv2 (T_p hv3 (T_b (opl_drawn h w _ _ _) (fun r hr => T_p hv1 (T_p hv2 (T_p hv3 (T_b hr (fun s hs => go _ hs))))))))) (fun _ => ?_)
  refine T_sw (fun _ => T_p hv1 (T_p hv2 (T_b (opl_slip h w _ _) (fun r hr => T_p hv1 (T_p hv2 (T_b hr (fun s hs => go _ hs.1))))))) (fun _ => ?_)
  refine T_sw (fun _ => T_p hv1 (T_b (opl_fold h w _) (fun r hr => T_p hv1 (T_b hr (fun s hs => go _ hs.1))))) (fun _ => ?_)
  refine T_sw (fun _ => T_b (opl_hour h w ) (fun r hr => T_b hr (fun s hs => go _ hs.1))) (fun _ => ?_)
  refine T_sw (fun _ => T_p hv1 (T_b (op_led h _) (fun r hr => T_p hv1 (T_b hr (fun s hs => go _ ⟨h, w⟩))))) (fun _ => ?_)
  refine T_sw (fun _ => T_b (opl_image h w ) (fun r hr => T_b hr (fun s hs => go _ hs.1))) (fun _ => ?_)
  refine T_sw (fun _ => T_b (opl_back h w ) (fun r hr => T_b hr (fun s hs => go _ hs.1))) (fun _ => ?_)
  refine T_sw (fun _ => T_b (opl_undo h w ) (fun r hr => T_b hr (fun s hs => go _ hs.1))) (fun _ => ?_)
  refine T_sw (fun _ => T_b (opl_redo h w ) (fun r hr => T_b hr (fun s hs => go _ hs.1))) (fun _ => ?_)
  refine T_sw (fun _ => T_p hv1 (T_b (opl_body h w _) (fun r hr => T_p hv1 (T_b hr (fun s hs => go _ hs.1))))) (fun _ => ?_)
  refine T_sw (fun _ => T_p hv1 (T_p hv2 (T_p hv3 (T_b (opl_act h w _ _ _) (fun r hr => T_p hv1 (T_p hv2 (T_p hv3 (T_b hr (fun s hs => go _ hs.1))))))))) (fun _ => ?_)
  refine T_sw (fun _ => T_p hv1 (T_b (op_trace h _) (fun r hr => T_p hv1 (T_b hr (fun s hs => go _ ⟨h, w⟩))))) (fun _ => ?_)
  refine T_sw (fun _ => T_p hv1 (T_p hv2 (T_b (opl_keep h w _ _) (fun r hr => T_p hv1 (T_p hv2 (T_b hr (fun s hs => go _ hs.1))))))) (fun _ => ?_)
  refine T_sw (fun _ => T_p hv1 (T_p hv2 (T_p hv3 (T_b (opl_row h w _ _ _) (fun r hr => T_p hv1 (T_p hv2 (T_p hv3 (T_b hr (fun s hs => go _ hs.1))))))))) (fun _ => ?_)
  refine T_sw (fun _ => T_p hv1 (T_p hv2 (T_p hv3 (T_p hv4 (T_b (opl_put h w _ _ _) (fun r hr => T_p hv1 (T_p hv2 (T_p hv3 (T_p hv4 (T_b hr (fun s hs => go _ hs.1))))))))))) (fun _ => ?_)
  refine T_sw (fun _ => T_p hv1 (T_p hv2 (T_b (op_element h _ _) (fun r hr => T_p hv1 (T_p hv2 (T_b hr (fun s hs => go _ ⟨h, w⟩))))))) (fun _ => ?_)
  refine T_sw (fun _ => T_p hv1 (T_p hv2 (T_p hv3 (T_p hv4 (T_p hv5 (T_b (opl_shift h w _ _ _ _ _) (fun r hr => T_p hv1 (T_p hv2 (T_p hv3 (T_p hv4 (T_p hv5 (T_b hr (fun s hs => go _ hs.1))))))))))))) (fun _ => ?_)
  refine T_sw (fun _ => T_p hv1 (T_p hv2 (T_b (op_taken h _ _) (fun r hr => T_p hv1 (T_p hv2 (T_b hr (fun s hs => go _ ⟨h, w⟩))))))) (fun _ => ?_)
  refine T_sw (fun _ => T_p hv1 (T_b (op_count h _) (fun r hr => T_p hv1 (T_b hr (fun s hs => go _ ⟨h, w⟩))))) (fun _ => ?_)
  exact T_sw0 (go _ ⟨h, w⟩)
theorem law_all {L : Nat} (hL : L ≤ 3072) (xs : Nat → Int32) : ∃ q', f_L_law L xs (qof σM) 0 = some (1, q') := by
  obtain ⟨r, h1, h2⟩ := law_T hL xs ⟨INV_M, RLW_M⟩
  obtain ⟨v, q'⟩ := r
  have h2 : v = 1 := h2
  subst h2
  exact ⟨q', h1⟩

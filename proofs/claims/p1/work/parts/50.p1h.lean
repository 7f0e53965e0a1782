f_X12_count  unfold nm
  refine T_sw (T_cI (opB (g := fun r => f_X12_person r _) hM (x_person hX _) (fun r hr => m_person hr _)) (fun _ _ => hrec _)) ?_
  refine T_sw (T_cI (opA hM (x_ticket hX _ _) (fun r hr => m_ticket hr _ _)) (fun _ _ => hrec _)) ?_
  refine T_sw (T_cI (opA hM (x_tickets hX _ _ _) (fun r hr => m_tickets hr _ _ _)) (fun _ _ => hrec _)) ?_
  refine T_sw (T_cI (op_mend hq hX hM _ _ _) (fun _ _ => hrec _)) ?_
  refine T_sw (T_cI (op_of hq hX hM _ _) (fun _ _ => hrec _)) ?_
  refine T_sw (T_cI (opB (g := fun r => f_X12_feed r _) hM (x_feed hX _) (fun r hr => m_feed hr _)) (fun _ _ => hrec _)) ?_
  refine T_sw (T_cI (by rw [hq]; exact ch0_T c_law) (fun _ _ => hrec _)) ?_
  refine T_sw (T_cI (opA hM (x_odds hX _) (fun r hr => m_odds hr _)) (fun _ _ => hrec _)) ?_
  refine T_sw (T_cI (opA hM (x_later hX _ _ _) (fun r hr => m_later hr _ _ _)) (fun _ _ => hrec _)) ?_
  refine T_sw (T_cI (opA hM (x_eve hX _ _ _) (fun r hr => m_eve hr _ _ _)) (fun _ _ => hrec _)) ?_
  refine T_sw (T_cL (opA hM (x_likely hX _ _ _) (fun r hr => m_likely hr _ _ _)) (fun _ _ => hrec _)) ?_
  refine T_sw (T_cL (opA hM (x_all hX _ _) (fun r hr => m_all hr _ _)) (fun _ _ => hrec _)) ?_
  refine T_sw (T_cL (opA hM (x_king hX _ _) (fun r hr => m_king hr _ _)) (fun _ _ => hrec _)) ?_
  refine T_sw (T_cI (by rw [hq]; exact ch0_T c_safe) (fun _ _ => hrec _)) ?_
  refine T_sw (T_cI (by rw [hq]; exact ch0_T c_likeliest) (fun _ _ => hrec _)) ?_
  refine T_sw (T_cI (opA hM (x_watch hX _) (fun r hr => m_watch hr _)) (fun _ _ => hrec _)) ?_
  refine T_sw (T_cL (opA hM (x_rid hX _ _ _) (fun r hr => m_rid hr _ _ _)) (fun _ _ => hrec _)) ?_
  refine T_sw (T_cI (opA hM (x_first hX _ _) (fun r hr => m_first hr _ _)) (fun _ _ => hrec _)) ?_
  refine T_sw (T_cI (opA hM (x_hire hX _ _ _) (fun r hr => m_hire hr _ _ _)) (fun _ _ => hrec _)) ?_
  refine T_sw (T_cI (opA hM (x_friend hX _ _) (fun r hr => m_friend hr _ _)) (fun _ _ => hrec _)) ?_
  refine T_sw (T_cI (opA hM (x_share hX _ _) (fun r hr => m_share hr _ _)) (fun _ _ => hrec _)) ?_
  refine T_sw (T_cI (by rw [hq]; exact ch0_T c_half) (fun _ _ => hrec _)) ?_
  refine T_sw (T_cI (opA hM (x_behind hX _ _ _) (fun r hr => m_behind hr _ _ _)) (fun _ _ => hrec _)) ?_
  refine T_sw (T_cI (opB (g := fun r => f_X12_drawn r _ _ _) hM (x_drawn hX _ _ _) (fun r hr => m_drawn hr _ _ _)) (fun _ _ => hrec _)) ?_
  refine T_sw (T_cI (opA hM (x_slip hX _ _) (fun r hr => m_slip hr _ _)) (fun _ _ => hrec _)) ?_
  refine T_sw (T_cI (opA hM (x_fold hX _) (fun r hr => m_fold hr _)) (fun _ _ => hrec _)) ?_
  refine T_sw (T_cI (by rw [hq]; exact ch0_T c_hour) (fun _ _ => hrec _)) ?_
  refine T_sw (T_ci (opP (T_of (x_led hX _) rfl) (m_led hM _)) (fun _ _ => hrec _)) ?_
  refine T_sw (T_cI (by rw [hq]; exact ch0_T c_image) (fun _ _ => hrec _)) ?_
  refine T_sw (T_cI (by rw [hq]; exact ch0_T c_back) (fun _ _ => hrec _)) ?_
  refine T_sw (T_cI (by rw [hq]; exact ch0_T c_undo) (fun _ _ => hrec _)) ?_
  refine T_sw (T_cI (by rw [hq]; exact ch0_T c_redo) (fun _ _ => hrec _)) ?_
  refine T_sw (T_cI (opB (g := fun r => f_X12_body r _) hM (x_body hX _) (fun r hr => m_body hr _)) (fun _ _ => hrec _)) ?_
  refine T_sw (T_cI (opB (g := fun r => f_X12_act r _ _ _) hM (x_act hX _ _ _) (fun r hr => m_act hr _ _ _)) (fun _ _ => hrec _)) ?_
  refine T_sw (T_ci (opP (T_of (x_trace hX _) rfl) (m_trace hM _)) (fun _ _ => hrec _)) ?_
  refine T_sw (T_cI (opB (g := fun r => f_X12_keep r _ _) hM (x_keep hX _ _) (fun r hr => m_keep hr _ _)) (fun _ _ => hrec _)) ?_
  refine T_sw (T_cI (opB (g := fun r => f_X12_row r _ _ _) hM (x_row _ _ _) (fun r hr => m_row _ _ _)) (fun _ _ => hrec _)) ?_
  refine T_sw (T_cI (opA hM (x_put hX _ _ _) (fun r hr => m_put hr _ _ _)) (fun _ _ => hrec _)) ?_
  refine T_sw (T_cl (opP (T_of (x_element hX _ _) rfl) (m_element hM _ _)) (fun _ _ => hrec _)) ?_
  refine T_sw (T_cI (opA hM (x_shift hX _ _ _ _ _) (fun r hr => m_shift hr _ _ _ _ _)) (fun _ _ => hrec _)) ?_
  refine T_sw (T_ci (opP (T_of (x_taken hX _ _) rfl) (m_taken hM _ _)) (fun _ _ => hrec _)) ?_
  refine T_sw (T_ci (opP (x_count hX _) (m_count hM _)) (fun _ _ => hrec _)) ?_
  exact hrec _
theorem law_fresh {L : Nat} (hL : L ≤ 6) (xs : Nat → Int32) : ∃ q', f_L_law L xs (qof σM) 0 = some (1, q') := by
  have key : ∀ q0 : SS, q0 = qof σM → FX q0 → FM q0 → T (f_L_law L xs q0 0) (fun r => r.1 = 1) := by
    intro q0 hq hX hM
    unfold f_L_law b_L_law_18
    refine T_fx2 (fun q l => (q = q0 ∧ l = 0) ∨ (L = 6 ∧ l = 6)) (fun _ l => if l = 0 then 1 else 0) ?_ _ _ _ (Or.inl ⟨rfl, rfl⟩) (by decide)
    rintro rec q l (⟨rfl, rfl⟩ | ⟨rfl, rfl⟩) hrec
    · by_cases h6 : L = 6
      · subst h6
        rw [if_neg (show ¬ Int32.ofNat 6 - 6 < 0 by decide), if_pos (show vin 0 6 by decide)]
        exact law_sw hq hX hM (fun q => hrec q 6 (Or.inr ⟨rfl, rfl⟩) (by decide))
      · have h5 : L = 0 ∨ L = 1 ∨ L = 2 ∨ L = 3 ∨ L = 4 ∨ L = 5 := by omega
        rw [if_pos (by rcases h5 with rfl | rfl | rfl | rfl | rfl | rfl <;> decide)]
        exact T_some.mpr rfl
    · rw [if_pos (show Int32.ofNat 6 - 6 < 6 by decide)]
      exact T_some.mpr rfl
  obtain ⟨r, h1, h2⟩ := key _ rfl fx_0 fm_0
  obtain ⟨v, q'⟩ := r
  have h2 : v = 1 := h2
  subst h2
  exact ⟨q', h1⟩

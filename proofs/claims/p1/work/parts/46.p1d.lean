/-! calls without arguments: closed, by running them -/
def ch0 (f g : SS → Option (Int32 × SS)) (q : SS) : Option Bool := (f q).bind fun r => (g r.2).bind fun s => some (decide (r.1 = s.1))
theorem ch0_T {f g : SS → Option (Int32 × SS)} {q : SS} (h : ch0 f g q = some true) : T (f q) (fun r => T (g r.2) (fun s => r.1 = s.1)) := by
  unfold ch0 at h
  obtain ⟨r, h1, h2⟩ := Option.bind_eq_some_iff.mp h
  obtain ⟨s, h3, h4⟩ := Option.bind_eq_some_iff.mp h2
  exact ⟨r, h1, s, h3, of_decide_eq_true (Option.some.inj h4)⟩
theorem c_law : ch0 f_X11_law f_X12_law (qof σM) = some true := by decide +kernel
theorem c_safe : ch0 f_X11_safe f_X12_safe (qof σM) = some true := by decide +kernel
theorem c_likeliest : ch0 f_X11_likeliest f_X12_likeliest (qof σM) = some true := by decide +kernel
theorem c_half : ch0 f_X11_half f_X12_half (qof σM) = some true := by decide +kernel
theorem c_hour : ch0 f_X11_hour f_X12_hour (qof σM) = some true := by decide +kernel
theorem c_image : ch0 f_X11_image f_X12_image (qof σM) = some true := by decide +kernel
theorem c_back : ch0 f_X11_back f_X12_back (qof σM) = some true := by decide +kernel
theorem c_undo : ch0 f_X11_undo f_X12_undo (qof σM) = some true := by decide +kernel
theorem c_redo : ch0 f_X11_redo f_X12_redo (qof σM) = some true := by decide +kernel
theorem c_mend7 : ∀ v, v < 12 → ch0 (fun q => f_X11_mend q 0 7 (Int32.ofNat v)) (fun q => f_X12_mend q 0 7 (Int32.ofNat v)) (qof σM) = some true := by decide +kernel
theorem c_mend8 : ∀ v, v < 10 → ch0 (fun q => f_X11_mend q 0 8 (Int32.ofNat v)) (fun q => f_X12_mend q 0 8 (Int32.ofNat v)) (qof σM) = some true := by decide +kernel
theorem c_of7 : ch0 (fun q => f_X11_of q 0 7) (fun q => f_X12_of q 0 7) (qof σM) = some true := by decide +kernel
theorem c_of8 : ch0 (fun q => f_X11_of q 0 8) (fun q => f_X12_of q 0 8) (qof σM) = some true := by decide +kernel

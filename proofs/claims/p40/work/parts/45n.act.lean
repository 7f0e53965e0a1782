/-! ===== acts ===== -/
def nbX (q : SS) (v : Int32) : SS := if (q.1 57 3).toInt < 24 then sI (sI q 59 (q.1 57 3).toNatClampNeg v) 57 3 (q.1 57 3 + 1) else sI q 57 3 (q.1 57 3 + 1)
def nbM (q : SS) (v : Int32) : SS := if (q.1 60 54).toInt < 24 then sI (sI q 88 (q.1 60 54).toNatClampNeg v) 60 54 (q.1 60 54 + 1) else sI q 60 54 (q.1 60 54 + 1)
theorem x_nb {q : SS} (h : 0 ≤ (q.1 57 3).toInt) (v : Int32) : f_X3_noteBody q v = some (nbX q v) := by
  have l24 : (24 : Int32).toInt = 24 := rfl
  unfold f_X3_noteBody b_X3_noteBody_19 nbX
  by_cases c : (q.1 57 3).toInt < 24
  · rw [if_neg (fun k => absurd (Int32.le_iff_toInt_le.mp k) (by omega)), if_pos ⟨h, c⟩, if_pos c]
    rfl
  · rw [if_pos (Int32.le_iff_toInt_le.mpr (by omega)), if_neg c]
    rfl
theorem m_nb {q : SS} (h : 0 ≤ (q.1 60 54).toInt) (v : Int32) : f_X12_ran q v = some (nbM q v) := by
  have l24 : (24 : Int32).toInt = 24 := rfl
  unfold f_X12_ran b_X12_ran_19 nbM
  by_cases c : (q.1 60 54).toInt < 24
  · rw [if_neg (fun k => absurd (Int32.le_iff_toInt_le.mp k) (by omega)), if_pos ⟨h, c⟩, if_pos c]
    rfl
  · rw [if_pos (Int32.le_iff_toInt_le.mpr (by omega)), if_neg c]
    rfl
/-- what a call's start may note still -/
def okR (a : Int32) (n : Int) : Prop := 0 ≤ a.toInt ∧ a.toInt + n ≤ 1000
def wH (k i : Nat) : Bool := k == 59 || k == 88 || (k == 57 && (i == 3 || i == 4)) || (k == 60 && i == 54)
theorem nbX_ran {q : SS} {v : Int32} {n : Int} (h : okR (q.1 57 3) (n + 1)) (hn : 0 ≤ n) : okR ((nbX q v).1 57 3) n := by
  have e : (nbX q v).1 57 3 = q.1 57 3 + 1 := by
    unfold nbX
    split <;> rfl
  have := inc1 (a := q.1 57 3) (by have := h.1; omega) (by have := h.2; omega)
  unfold okR at *
  rw [e]
  omega
theorem nbM_ran {q : SS} {v : Int32} {n : Int} (h : okR (q.1 60 54) (n + 1)) (hn : 0 ≤ n) : okR ((nbM q v).1 60 54) n := by
  have e : (nbM q v).1 60 54 = q.1 60 54 + 1 := by
    unfold nbM
    split <;> rfl
  have := inc1 (a := q.1 60 54) (by have := h.1; omega) (by have := h.2; omega)
  unfold okR at *
  rw [e]
  omega
theorem nbX_fr {a q : SS} {v : Int32} (h : Fr wH v0 a q) : Fr wH v0 a (nbX q v) := by
  unfold nbX
  split
  · exact Fr_sI (Fr_sI h rfl) rfl
  · exact Fr_sI h rfl
theorem nbM_fr {a q : SS} {v : Int32} (h : Fr wH v0 a q) : Fr wH v0 a (nbM q v) := by
  unfold nbM
  split
  · exact Fr_sI (Fr_sI h rfl) rfl
  · exact Fr_sI h rfl
theorem nbX_o {q : SS} {v : Int32} : (nbX q v).1 57 4 = q.1 57 4 ∧ (nbX q v).1 57 2 = q.1 57 2 ∧ (nbX q v).1 58 = q.1 58 := by
  unfold nbX
  split
  · exact ⟨rfl, rfl, rfl⟩
  · exact ⟨rfl, rfl, rfl⟩
theorem nbM_o {q : SS} {v : Int32} : (nbM q v).1 87 = q.1 87 := by
  unfold nbM
  split <;> rfl
/-- the two traces -/
def TR (a b : SS) : Prop := a.1 57 3 = b.1 60 54 ∧ a.1 59 = b.1 88
theorem TR_nb {a b : SS} (h : TR a b) (v : Int32) : TR (nbX a v) (nbM b v) := by
  unfold TR nbX nbM at *
  rw [h.1]
  split
  · refine ⟨rfl, ?_⟩
    funext j
    have e := congrFun h.2 j
    simp [sI_rd, e]
  · exact ⟨rfl, h.2⟩
/-- own body b of kind k, at a call's depth -/
def OKk (q : SS) (k b : Int32) : Prop := q.1 57 4 = b ∧ f_X3_kindOf q b = some k
theorem OK_nb {q : SS} {k b v : Int32} (h : OKk q k b) : OKk (nbX q v) k b := by
  refine ⟨nbX_o.1.trans h.1, ?_⟩
  rw [← h.2]
  unfold f_X3_kindOf f_X3_isBody
  rw [nbX_o.2.1, nbX_o.2.2]
theorem own_q (q : SS) : f_X3_ownerOf q = f_X3_ownerOf q00 := rfl
set_option maxRecDepth 100000 in
theorem own_0_0 : f_X3_ownerOf q00 0 0 = some 0 := by decide +kernel
set_option maxRecDepth 100000 in
theorem own_0_1 : f_X3_ownerOf q00 0 1 = some 0 := by decide +kernel
set_option maxRecDepth 100000 in
theorem own_0_2 : f_X3_ownerOf q00 0 2 = some 0 := by decide +kernel
set_option maxRecDepth 100000 in
theorem own_0_3 : f_X3_ownerOf q00 0 3 = some 0 := by decide +kernel
set_option maxRecDepth 100000 in
theorem own_1_0 : f_X3_ownerOf q00 1 0 = some 1 := by decide +kernel
set_option maxRecDepth 100000 in
theorem own_1_1 : f_X3_ownerOf q00 1 1 = some 0 := by decide +kernel
set_option maxRecDepth 100000 in
theorem own_1_2 : f_X3_ownerOf q00 1 2 = some 0 := by decide +kernel
set_option maxRecDepth 100000 in
theorem own_1_3 : f_X3_ownerOf q00 1 3 = some 0 := by decide +kernel
set_option maxRecDepth 100000 in
theorem own_2_0 : f_X3_ownerOf q00 2 0 = some 0 := by decide +kernel
set_option maxRecDepth 100000 in
theorem own_2_1 : f_X3_ownerOf q00 2 1 = some 2 := by decide +kernel
set_option maxRecDepth 100000 in
theorem own_2_2 : f_X3_ownerOf q00 2 2 = some 0 := by decide +kernel
set_option maxRecDepth 100000 in
theorem own_2_3 : f_X3_ownerOf q00 2 3 = some 0 := by decide +kernel
set_option maxRecDepth 100000 in
theorem own_3_0 : f_X3_ownerOf q00 3 0 = some 0 := by decide +kernel
set_option maxRecDepth 100000 in
theorem own_3_1 : f_X3_ownerOf q00 3 1 = some 3 := by decide +kernel
set_option maxRecDepth 100000 in
theorem own_3_2 : f_X3_ownerOf q00 3 2 = some 3 := by decide +kernel
set_option maxRecDepth 100000 in
theorem own_3_3 : f_X3_ownerOf q00 3 3 = some 0 := by decide +kernel
set_option maxRecDepth 100000 in
theorem own_4_0 : f_X3_ownerOf q00 4 0 = some 1 := by decide +kernel
set_option maxRecDepth 100000 in
theorem own_4_1 : f_X3_ownerOf q00 4 1 = some 0 := by decide +kernel
set_option maxRecDepth 100000 in
theorem own_4_2 : f_X3_ownerOf q00 4 2 = some 0 := by decide +kernel
set_option maxRecDepth 100000 in
theorem own_4_3 : f_X3_ownerOf q00 4 3 = some 4 := by decide +kernel
set_option maxRecDepth 100000 in
theorem own_5_0 : f_X3_ownerOf q00 5 0 = some 0 := by decide +kernel
set_option maxRecDepth 100000 in
theorem own_5_1 : f_X3_ownerOf q00 5 1 = some 3 := by decide +kernel
set_option maxRecDepth 100000 in
theorem own_5_2 : f_X3_ownerOf q00 5 2 = some 5 := by decide +kernel
set_option maxRecDepth 100000 in
theorem own_5_3 : f_X3_ownerOf q00 5 3 = some 5 := by decide +kernel
set_option maxRecDepth 100000 in
theorem own_6_0 : f_X3_ownerOf q00 6 0 = some 6 := by decide +kernel
set_option maxRecDepth 100000 in
theorem own_6_1 : f_X3_ownerOf q00 6 1 = some 0 := by decide +kernel
set_option maxRecDepth 100000 in
theorem own_6_2 : f_X3_ownerOf q00 6 2 = some 0 := by decide +kernel
set_option maxRecDepth 100000 in
theorem own_6_3 : f_X3_ownerOf q00 6 3 = some 0 := by decide +kernel
set_option maxRecDepth 100000 in
theorem own_7_0 : f_X3_ownerOf q00 7 0 = some 7 := by decide +kernel
set_option maxRecDepth 100000 in
theorem own_7_1 : f_X3_ownerOf q00 7 1 = some 7 := by decide +kernel
set_option maxRecDepth 100000 in
theorem own_7_2 : f_X3_ownerOf q00 7 2 = some 0 := by decide +kernel
set_option maxRecDepth 100000 in
theorem own_7_3 : f_X3_ownerOf q00 7 3 = some 0 := by decide +kernel
theorem pf_0_0_0 {q : SS} {b : Int32} (ob : OKk q 0 b) (n : Nat) (x d : Int32) (d0 : 0 ≤ d.toInt) (d1 : d.toInt ≤ 40) (hr : okR (q.1 57 3) 1) : g_X3_perform (n + 1) q 0 0 x d = some ((x + b), (nbX q 1)) := by
  have l40 : (40 : Int32).toInt = 40 := rfl
  have e1 := inc1 (a := d) (by omega) (by omega)
  show fb_X3_perform (g_X3_perform (n + 0)) q 0 0 x d = _
  unfold fb_X3_perform
  rw [own_q, own_0_0, bind_s, if_neg (by decide), if_pos (Int32.le_iff_toInt_le.mpr (by omega)), if_pos (by decide)]
  unfold nm
  dsimp only
  rw [ob.1, ob.2, bind_s, if_pos (by decide), show stV 2 (((0 : Int32) * 4 + 0).toNatClampNeg) = 1 from rfl, x_nb hr.1, bind_s]
  show some (x + (nbX q 1).1 57 4, nbX q 1) = _
  rw [nbX_o.1, ob.1]
theorem pf_0_0_2 {q : SS} {b : Int32} (ob : OKk q 0 b) (n : Nat) (x d : Int32) (d0 : 0 ≤ d.toInt) (d1 : d.toInt ≤ 40) (hr : okR (q.1 57 3) 1) : g_X3_perform (n + 1) q 0 2 x d = some ((x ^^^ b), (nbX q 11)) := by
  have l40 : (40 : Int32).toInt = 40 := rfl
  have e1 := inc1 (a := d) (by omega) (by omega)
  show fb_X3_perform (g_X3_perform (n + 0)) q 0 2 x d = _
  unfold fb_X3_perform
  rw [own_q, own_0_2, bind_s, if_neg (by decide), if_pos (Int32.le_iff_toInt_le.mpr (by omega)), if_pos (by decide)]
  unfold nm
  dsimp only
  rw [ob.1, ob.2, bind_s, if_pos (by decide), show stV 2 (((0 : Int32) * 4 + 2).toNatClampNeg) = 11 from rfl, x_nb hr.1, bind_s]
  show some (x ^^^ (nbX q 11).1 57 4, nbX q 11) = _
  rw [nbX_o.1, ob.1]
theorem pf_0_0_1 {q : SS} {b : Int32} (ob : OKk q 0 b) (n : Nat) (x d : Int32) (d0 : 0 ≤ d.toInt) (d1 : d.toInt ≤ 39) (hr : okR (q.1 57 3) 2) : g_X3_perform (n + 2) q 0 1 x d = some (((x + b) * 2), (nbX (nbX q 10) 1)) := by
  have l40 : (40 : Int32).toInt = 40 := rfl
  have e1 := inc1 (a := d) (by omega) (by omega)
  show fb_X3_perform (g_X3_perform (n + 1)) q 0 1 x d = _
  unfold fb_X3_perform
  rw [own_q, own_0_1, bind_s, if_neg (by decide), if_pos (Int32.le_iff_toInt_le.mpr (by omega)), if_pos (by decide)]
  unfold nm
  dsimp only
  rw [ob.1, ob.2, bind_s, if_pos (by decide), show stV 2 (((0 : Int32) * 4 + 1).toNatClampNeg) = 10 from rfl, x_nb hr.1, bind_s]
  show (g_X3_perform (n + 1) (nbX q 10) 0 0 x (d + 1)).bind (fun r => some (r.1 * 2, r.2)) = _
  rw [show n + 1 = (n + 0) + 1 from by omega, pf_0_0_0 (q := (nbX q 10)) (OK_nb ob) (n + 0) x (d + 1) (by omega) (by omega) (nbX_ran (n := 1) hr (by decide)), bind_s]
theorem pf_0_0_3 {q : SS} {b : Int32} (ob : OKk q 0 b) (n : Nat) (x d : Int32) (d0 : 0 ≤ d.toInt) (d1 : d.toInt ≤ 38) (hr : okR (q.1 57 3) 4) : g_X3_perform (n + 3) q 0 3 x d = some ((((x + b) * 2) - (1 ^^^ b)), (nbX (nbX (nbX (nbX q 2) 10) 1) 11)) := by
  have l40 : (40 : Int32).toInt = 40 := rfl
  have e1 := inc1 (a := d) (by omega) (by omega)
  show fb_X3_perform (g_X3_perform (n + 2)) q 0 3 x d = _
  unfold fb_X3_perform
  rw [own_q, own_0_3, bind_s, if_neg (by decide), if_pos (Int32.le_iff_toInt_le.mpr (by omega)), if_pos (by decide)]
  unfold nm
  dsimp only
  rw [ob.1, ob.2, bind_s, if_pos (by decide), show stV 2 (((0 : Int32) * 4 + 3).toNatClampNeg) = 2 from rfl, x_nb hr.1, bind_s]
  show (g_X3_perform (n + 2) (nbX q 2) 0 1 x (d + 1)).bind (fun r => (g_X3_perform (n + 2) r.2 0 2 1 (d + 1)).bind fun s => some (r.1 - s.1, s.2)) = _
  have hr1 : okR (((nbX q 2)).1 57 3) 3 := nbX_ran (n := 3) hr (by decide)
  have hs0 : okR ((nbX (nbX q 2) 10).1 57 3) 2 := nbX_ran (n := 2) hr1 (by decide)
  have hs1 : okR ((nbX (nbX (nbX q 2) 10) 1).1 57 3) 1 := nbX_ran (n := 1) hs0 (by decide)
  have p1 := pf_0_0_1 (q := (nbX q 2)) (OK_nb ob) (n + 0) x (d + 1) (by omega) (by omega) ⟨hr1.1, by have := hr1.2; omega⟩
  have p2 := pf_0_0_2 (q := (nbX (nbX (nbX q 2) 10) 1)) (OK_nb (OK_nb (OK_nb ob))) (n + 1) 1 (d + 1) (by omega) (by omega) ⟨hs1.1, by have := hs1.2; omega⟩
  rw [show (n + 0) + 2 = n + 2 from by omega] at p1
  rw [show (n + 1) + 1 = n + 2 from by omega] at p2
  rw [p1, bind_s, p2, bind_s]
theorem pf_1_0_0 {q : SS} {b : Int32} (ob : OKk q 1 b) (n : Nat) (x d : Int32) (d0 : 0 ≤ d.toInt) (d1 : d.toInt ≤ 40) (hr : okR (q.1 57 3) 1) : g_X3_perform (n + 1) q 0 0 x d = some ((x + b), (nbX q 1)) := by
  have l40 : (40 : Int32).toInt = 40 := rfl
  have e1 := inc1 (a := d) (by omega) (by omega)
  show fb_X3_perform (g_X3_perform (n + 0)) q 0 0 x d = _
  unfold fb_X3_perform
  rw [own_q, own_0_0, bind_s, if_neg (by decide), if_pos (Int32.le_iff_toInt_le.mpr (by omega)), if_pos (by decide)]
  unfold nm
  dsimp only
  rw [ob.1, ob.2, bind_s, if_pos (by decide), show stV 2 (((0 : Int32) * 4 + 0).toNatClampNeg) = 1 from rfl, x_nb hr.1, bind_s]
  show some (x + (nbX q 1).1 57 4, nbX q 1) = _
  rw [nbX_o.1, ob.1]
theorem pf_1_1_2 {q : SS} {b : Int32} (ob : OKk q 1 b) (n : Nat) (x d : Int32) (d0 : 0 ≤ d.toInt) (d1 : d.toInt ≤ 40) (hr : okR (q.1 57 3) 1) : g_X3_perform (n + 1) q 1 2 x d = some ((x ^^^ b), (nbX q 11)) := by
  have l40 : (40 : Int32).toInt = 40 := rfl
  have e1 := inc1 (a := d) (by omega) (by omega)
  show fb_X3_perform (g_X3_perform (n + 0)) q 1 2 x d = _
  unfold fb_X3_perform
  rw [own_q, own_1_2, bind_s, if_neg (by decide), if_pos (Int32.le_iff_toInt_le.mpr (by omega)), if_pos (by decide)]
  unfold nm
  dsimp only
  rw [ob.1, ob.2, bind_s, if_pos (by decide), show stV 2 (((0 : Int32) * 4 + 2).toNatClampNeg) = 11 from rfl, x_nb hr.1, bind_s]
  show some (x ^^^ (nbX q 11).1 57 4, nbX q 11) = _
  rw [nbX_o.1, ob.1]
theorem pf_1_1_0 {q : SS} {b : Int32} (ob : OKk q 1 b) (n : Nat) (x d : Int32) (d0 : 0 ≤ d.toInt) (d1 : d.toInt ≤ 39) (hr : okR (q.1 57 3) 2) : g_X3_perform (n + 2) q 1 0 x d = some (((x + b) + 3), (nbX (nbX q 20) 1)) := by
  have l40 : (40 : Int32).toInt = 40 := rfl
  have e1 := inc1 (a := d) (by omega) (by omega)
  show fb_X3_perform (g_X3_perform (n + 1)) q 1 0 x d = _
  unfold fb_X3_perform
  rw [own_q, own_1_0, bind_s, if_neg (by decide), if_pos (Int32.le_iff_toInt_le.mpr (by omega)), if_pos (by decide)]
  unfold nm
  dsimp only
  rw [ob.1, ob.2, bind_s, if_pos (by decide), show stV 2 (((1 : Int32) * 4 + 0).toNatClampNeg) = 20 from rfl, x_nb hr.1, bind_s]
  show (g_X3_perform (n + 1) (nbX q 20) 0 0 x (d + 1)).bind (fun r => some (r.1 + 3, r.2)) = _
  rw [show n + 1 = (n + 0) + 1 from by omega, pf_1_0_0 (q := (nbX q 20)) (OK_nb ob) (n + 0) x (d + 1) (by omega) (by omega) (nbX_ran (n := 1) hr (by decide)), bind_s]
theorem pf_1_1_1 {q : SS} {b : Int32} (ob : OKk q 1 b) (n : Nat) (x d : Int32) (d0 : 0 ≤ d.toInt) (d1 : d.toInt ≤ 38) (hr : okR (q.1 57 3) 3) : g_X3_perform (n + 3) q 1 1 x d = some ((((x + b) + 3) * 2), (nbX (nbX (nbX q 10) 20) 1)) := by
  have l40 : (40 : Int32).toInt = 40 := rfl
  have e1 := inc1 (a := d) (by omega) (by omega)
  show fb_X3_perform (g_X3_perform (n + 2)) q 1 1 x d = _
  unfold fb_X3_perform
  rw [own_q, own_1_1, bind_s, if_neg (by decide), if_pos (Int32.le_iff_toInt_le.mpr (by omega)), if_pos (by decide)]
  unfold nm
  dsimp only
  rw [ob.1, ob.2, bind_s, if_pos (by decide), show stV 2 (((0 : Int32) * 4 + 1).toNatClampNeg) = 10 from rfl, x_nb hr.1, bind_s]
  show (g_X3_perform (n + 2) (nbX q 10) 1 0 x (d + 1)).bind (fun r => some (r.1 * 2, r.2)) = _
  rw [show n + 2 = (n + 0) + 2 from by omega, pf_1_1_0 (q := (nbX q 10)) (OK_nb ob) (n + 0) x (d + 1) (by omega) (by omega) (nbX_ran (n := 2) hr (by decide)), bind_s]
theorem pf_1_1_3 {q : SS} {b : Int32} (ob : OKk q 1 b) (n : Nat) (x d : Int32) (d0 : 0 ≤ d.toInt) (d1 : d.toInt ≤ 37) (hr : okR (q.1 57 3) 5) : g_X3_perform (n + 4) q 1 3 x d = some (((((x + b) + 3) * 2) - (1 ^^^ b)), (nbX (nbX (nbX (nbX (nbX q 2) 10) 20) 1) 11)) := by
  have l40 : (40 : Int32).toInt = 40 := rfl
  have e1 := inc1 (a := d) (by omega) (by omega)
  show fb_X3_perform (g_X3_perform (n + 3)) q 1 3 x d = _
  unfold fb_X3_perform
  rw [own_q, own_1_3, bind_s, if_neg (by decide), if_pos (Int32.le_iff_toInt_le.mpr (by omega)), if_pos (by decide)]
  unfold nm
  dsimp only
  rw [ob.1, ob.2, bind_s, if_pos (by decide), show stV 2 (((0 : Int32) * 4 + 3).toNatClampNeg) = 2 from rfl, x_nb hr.1, bind_s]
  show (g_X3_perform (n + 3) (nbX q 2) 1 1 x (d + 1)).bind (fun r => (g_X3_perform (n + 3) r.2 1 2 1 (d + 1)).bind fun s => some (r.1 - s.1, s.2)) = _
  have hr1 : okR (((nbX q 2)).1 57 3) 4 := nbX_ran (n := 4) hr (by decide)
  have hs0 : okR ((nbX (nbX q 2) 10).1 57 3) 3 := nbX_ran (n := 3) hr1 (by decide)
  have hs1 : okR ((nbX (nbX (nbX q 2) 10) 20).1 57 3) 2 := nbX_ran (n := 2) hs0 (by decide)
  have hs2 : okR ((nbX (nbX (nbX (nbX q 2) 10) 20) 1).1 57 3) 1 := nbX_ran (n := 1) hs1 (by decide)
  have p1 := pf_1_1_1 (q := (nbX q 2)) (OK_nb ob) (n + 0) x (d + 1) (by omega) (by omega) ⟨hr1.1, by have := hr1.2; omega⟩
  have p2 := pf_1_1_2 (q := (nbX (nbX (nbX (nbX q 2) 10) 20) 1)) (OK_nb (OK_nb (OK_nb (OK_nb ob)))) (n + 2) 1 (d + 1) (by omega) (by omega) ⟨hs2.1, by have := hs2.2; omega⟩
  rw [show (n + 0) + 3 = n + 3 from by omega] at p1
  rw [show (n + 2) + 1 = n + 3 from by omega] at p2
  rw [p1, bind_s, p2, bind_s]
theorem pf_2_2_0 {q : SS} {b : Int32} (ob : OKk q 2 b) (n : Nat) (x d : Int32) (d0 : 0 ≤ d.toInt) (d1 : d.toInt ≤ 40) (hr : okR (q.1 57 3) 1) : g_X3_perform (n + 1) q 2 0 x d = some ((x + b), (nbX q 1)) := by
  have l40 : (40 : Int32).toInt = 40 := rfl
  have e1 := inc1 (a := d) (by omega) (by omega)
  show fb_X3_perform (g_X3_perform (n + 0)) q 2 0 x d = _
  unfold fb_X3_perform
  rw [own_q, own_2_0, bind_s, if_neg (by decide), if_pos (Int32.le_iff_toInt_le.mpr (by omega)), if_pos (by decide)]
  unfold nm
  dsimp only
  rw [ob.1, ob.2, bind_s, if_pos (by decide), show stV 2 (((0 : Int32) * 4 + 0).toNatClampNeg) = 1 from rfl, x_nb hr.1, bind_s]
  show some (x + (nbX q 1).1 57 4, nbX q 1) = _
  rw [nbX_o.1, ob.1]
theorem pf_2_2_2 {q : SS} {b : Int32} (ob : OKk q 2 b) (n : Nat) (x d : Int32) (d0 : 0 ≤ d.toInt) (d1 : d.toInt ≤ 40) (hr : okR (q.1 57 3) 1) : g_X3_perform (n + 1) q 2 2 x d = some ((x ^^^ b), (nbX q 11)) := by
  have l40 : (40 : Int32).toInt = 40 := rfl
  have e1 := inc1 (a := d) (by omega) (by omega)
  show fb_X3_perform (g_X3_perform (n + 0)) q 2 2 x d = _
  unfold fb_X3_perform
  rw [own_q, own_2_2, bind_s, if_neg (by decide), if_pos (Int32.le_iff_toInt_le.mpr (by omega)), if_pos (by decide)]
  unfold nm
  dsimp only
  rw [ob.1, ob.2, bind_s, if_pos (by decide), show stV 2 (((0 : Int32) * 4 + 2).toNatClampNeg) = 11 from rfl, x_nb hr.1, bind_s]
  show some (x ^^^ (nbX q 11).1 57 4, nbX q 11) = _
  rw [nbX_o.1, ob.1]
theorem pf_2_0_1 {q : SS} {b : Int32} (ob : OKk q 2 b) (n : Nat) (x d : Int32) (d0 : 0 ≤ d.toInt) (d1 : d.toInt ≤ 39) (hr : okR (q.1 57 3) 2) : g_X3_perform (n + 2) q 0 1 x d = some (((x + b) * 2), (nbX (nbX q 10) 1)) := by
  have l40 : (40 : Int32).toInt = 40 := rfl
  have e1 := inc1 (a := d) (by omega) (by omega)
  show fb_X3_perform (g_X3_perform (n + 1)) q 0 1 x d = _
  unfold fb_X3_perform
  rw [own_q, own_0_1, bind_s, if_neg (by decide), if_pos (Int32.le_iff_toInt_le.mpr (by omega)), if_pos (by decide)]
  unfold nm
  dsimp only
  rw [ob.1, ob.2, bind_s, if_pos (by decide), show stV 2 (((0 : Int32) * 4 + 1).toNatClampNeg) = 10 from rfl, x_nb hr.1, bind_s]
  show (g_X3_perform (n + 1) (nbX q 10) 2 0 x (d + 1)).bind (fun r => some (r.1 * 2, r.2)) = _
  rw [show n + 1 = (n + 0) + 1 from by omega, pf_2_2_0 (q := (nbX q 10)) (OK_nb ob) (n + 0) x (d + 1) (by omega) (by omega) (nbX_ran (n := 1) hr (by decide)), bind_s]
theorem pf_2_2_1 {q : SS} {b : Int32} (ob : OKk q 2 b) (n : Nat) (x d : Int32) (d0 : 0 ≤ d.toInt) (d1 : d.toInt ≤ 38) (hr : okR (q.1 57 3) 3) : g_X3_perform (n + 3) q 2 1 x d = some ((-((x + b) * 2)), (nbX (nbX (nbX q 30) 10) 1)) := by
  have l40 : (40 : Int32).toInt = 40 := rfl
  have e1 := inc1 (a := d) (by omega) (by omega)
  show fb_X3_perform (g_X3_perform (n + 2)) q 2 1 x d = _
  unfold fb_X3_perform
  rw [own_q, own_2_1, bind_s, if_neg (by decide), if_pos (Int32.le_iff_toInt_le.mpr (by omega)), if_pos (by decide)]
  unfold nm
  dsimp only
  rw [ob.1, ob.2, bind_s, if_pos (by decide), show stV 2 (((2 : Int32) * 4 + 1).toNatClampNeg) = 30 from rfl, x_nb hr.1, bind_s]
  show (g_X3_perform (n + 2) (nbX q 30) 0 1 x (d + 1)).bind (fun r => some (-r.1, r.2)) = _
  rw [show n + 2 = (n + 0) + 2 from by omega, pf_2_0_1 (q := (nbX q 30)) (OK_nb ob) (n + 0) x (d + 1) (by omega) (by omega) (nbX_ran (n := 2) hr (by decide)), bind_s]
theorem pf_2_2_3 {q : SS} {b : Int32} (ob : OKk q 2 b) (n : Nat) (x d : Int32) (d0 : 0 ≤ d.toInt) (d1 : d.toInt ≤ 37) (hr : okR (q.1 57 3) 5) : g_X3_perform (n + 4) q 2 3 x d = some (((-((x + b) * 2)) - (1 ^^^ b)), (nbX (nbX (nbX (nbX (nbX q 2) 30) 10) 1) 11)) := by
  have l40 : (40 : Int32).toInt = 40 := rfl
  have e1 := inc1 (a := d) (by omega) (by omega)
  show fb_X3_perform (g_X3_perform (n + 3)) q 2 3 x d = _
  unfold fb_X3_perform
  rw [own_q, own_2_3, bind_s, if_neg (by decide), if_pos (Int32.le_iff_toInt_le.mpr (by omega)), if_pos (by decide)]
  unfold nm
  dsimp only
  rw [ob.1, ob.2, bind_s, if_pos (by decide), show stV 2 (((0 : Int32) * 4 + 3).toNatClampNeg) = 2 from rfl, x_nb hr.1, bind_s]
  show (g_X3_perform (n + 3) (nbX q 2) 2 1 x (d + 1)).bind (fun r => (g_X3_perform (n + 3) r.2 2 2 1 (d + 1)).bind fun s => some (r.1 - s.1, s.2)) = _
  have hr1 : okR (((nbX q 2)).1 57 3) 4 := nbX_ran (n := 4) hr (by decide)
  have hs0 : okR ((nbX (nbX q 2) 30).1 57 3) 3 := nbX_ran (n := 3) hr1 (by decide)
  have hs1 : okR ((nbX (nbX (nbX q 2) 30) 10).1 57 3) 2 := nbX_ran (n := 2) hs0 (by decide)
  have hs2 : okR ((nbX (nbX (nbX (nbX q 2) 30) 10) 1).1 57 3) 1 := nbX_ran (n := 1) hs1 (by decide)
  have p1 := pf_2_2_1 (q := (nbX q 2)) (OK_nb ob) (n + 0) x (d + 1) (by omega) (by omega) ⟨hr1.1, by have := hr1.2; omega⟩
  have p2 := pf_2_2_2 (q := (nbX (nbX (nbX (nbX q 2) 30) 10) 1)) (OK_nb (OK_nb (OK_nb (OK_nb ob)))) (n + 2) 1 (d + 1) (by omega) (by omega) ⟨hs2.1, by have := hs2.2; omega⟩
  rw [show (n + 0) + 3 = n + 3 from by omega] at p1
  rw [show (n + 2) + 1 = n + 3 from by omega] at p2
  rw [p1, bind_s, p2, bind_s]
theorem pf_3_2_2 {q : SS} {b : Int32} (ob : OKk q 3 b) (n : Nat) (x d : Int32) (d0 : 0 ≤ d.toInt) (d1 : d.toInt ≤ 40) (hr : okR (q.1 57 3) 1) : g_X3_perform (n + 1) q 2 2 x d = some ((x ^^^ b), (nbX q 11)) := by
  have l40 : (40 : Int32).toInt = 40 := rfl
  have e1 := inc1 (a := d) (by omega) (by omega)
  show fb_X3_perform (g_X3_perform (n + 0)) q 2 2 x d = _
  unfold fb_X3_perform
  rw [own_q, own_2_2, bind_s, if_neg (by decide), if_pos (Int32.le_iff_toInt_le.mpr (by omega)), if_pos (by decide)]
  unfold nm
  dsimp only
  rw [ob.1, ob.2, bind_s, if_pos (by decide), show stV 2 (((0 : Int32) * 4 + 2).toNatClampNeg) = 11 from rfl, x_nb hr.1, bind_s]
  show some (x ^^^ (nbX q 11).1 57 4, nbX q 11) = _
  rw [nbX_o.1, ob.1]
theorem pf_3_3_0 {q : SS} {b : Int32} (ob : OKk q 3 b) (n : Nat) (x d : Int32) (d0 : 0 ≤ d.toInt) (d1 : d.toInt ≤ 40) (hr : okR (q.1 57 3) 1) : g_X3_perform (n + 1) q 3 0 x d = some ((x + b), (nbX q 1)) := by
  have l40 : (40 : Int32).toInt = 40 := rfl
  have e1 := inc1 (a := d) (by omega) (by omega)
  show fb_X3_perform (g_X3_perform (n + 0)) q 3 0 x d = _
  unfold fb_X3_perform
  rw [own_q, own_3_0, bind_s, if_neg (by decide), if_pos (Int32.le_iff_toInt_le.mpr (by omega)), if_pos (by decide)]
  unfold nm
  dsimp only
  rw [ob.1, ob.2, bind_s, if_pos (by decide), show stV 2 (((0 : Int32) * 4 + 0).toNatClampNeg) = 1 from rfl, x_nb hr.1, bind_s]
  show some (x + (nbX q 1).1 57 4, nbX q 1) = _
  rw [nbX_o.1, ob.1]
theorem pf_3_0_1 {q : SS} {b : Int32} (ob : OKk q 3 b) (n : Nat) (x d : Int32) (d0 : 0 ≤ d.toInt) (d1 : d.toInt ≤ 39) (hr : okR (q.1 57 3) 2) : g_X3_perform (n + 2) q 0 1 x d = some (((x + b) * 2), (nbX (nbX q 10) 1)) := by
  have l40 : (40 : Int32).toInt = 40 := rfl
  have e1 := inc1 (a := d) (by omega) (by omega)
  show fb_X3_perform (g_X3_perform (n + 1)) q 0 1 x d = _
  unfold fb_X3_perform
  rw [own_q, own_0_1, bind_s, if_neg (by decide), if_pos (Int32.le_iff_toInt_le.mpr (by omega)), if_pos (by decide)]
  unfold nm
  dsimp only
  rw [ob.1, ob.2, bind_s, if_pos (by decide), show stV 2 (((0 : Int32) * 4 + 1).toNatClampNeg) = 10 from rfl, x_nb hr.1, bind_s]
  show (g_X3_perform (n + 1) (nbX q 10) 3 0 x (d + 1)).bind (fun r => some (r.1 * 2, r.2)) = _
  rw [show n + 1 = (n + 0) + 1 from by omega, pf_3_3_0 (q := (nbX q 10)) (OK_nb ob) (n + 0) x (d + 1) (by omega) (by omega) (nbX_ran (n := 1) hr (by decide)), bind_s]
theorem pf_3_3_2 {q : SS} {b : Int32} (ob : OKk q 3 b) (n : Nat) (x d : Int32) (d0 : 0 ≤ d.toInt) (d1 : d.toInt ≤ 39) (hr : okR (q.1 57 3) 2) : g_X3_perform (n + 2) q 3 2 x d = some (((x ^^^ b) * 3), (nbX (nbX q 40) 11)) := by
  have l40 : (40 : Int32).toInt = 40 := rfl
  have e1 := inc1 (a := d) (by omega) (by omega)
  show fb_X3_perform (g_X3_perform (n + 1)) q 3 2 x d = _
  unfold fb_X3_perform
  rw [own_q, own_3_2, bind_s, if_neg (by decide), if_pos (Int32.le_iff_toInt_le.mpr (by omega)), if_pos (by decide)]
  unfold nm
  dsimp only
  rw [ob.1, ob.2, bind_s, if_pos (by decide), show stV 2 (((3 : Int32) * 4 + 2).toNatClampNeg) = 40 from rfl, x_nb hr.1, bind_s]
  show (g_X3_perform (n + 1) (nbX q 40) 2 2 x (d + 1)).bind (fun r => some (r.1 * 3, r.2)) = _
  rw [show n + 1 = (n + 0) + 1 from by omega, pf_3_2_2 (q := (nbX q 40)) (OK_nb ob) (n + 0) x (d + 1) (by omega) (by omega) (nbX_ran (n := 1) hr (by decide)), bind_s]
theorem pf_3_2_1 {q : SS} {b : Int32} (ob : OKk q 3 b) (n : Nat) (x d : Int32) (d0 : 0 ≤ d.toInt) (d1 : d.toInt ≤ 38) (hr : okR (q.1 57 3) 3) : g_X3_perform (n + 3) q 2 1 x d = some ((-((x + b) * 2)), (nbX (nbX (nbX q 30) 10) 1)) := by
  have l40 : (40 : Int32).toInt = 40 := rfl
  have e1 := inc1 (a := d) (by omega) (by omega)
  show fb_X3_perform (g_X3_perform (n + 2)) q 2 1 x d = _
  unfold fb_X3_perform
  rw [own_q, own_2_1, bind_s, if_neg (by decide), if_pos (Int32.le_iff_toInt_le.mpr (by omega)), if_pos (by decide)]
  unfold nm
  dsimp only
  rw [ob.1, ob.2, bind_s, if_pos (by decide), show stV 2 (((2 : Int32) * 4 + 1).toNatClampNeg) = 30 from rfl, x_nb hr.1, bind_s]
  show (g_X3_perform (n + 2) (nbX q 30) 0 1 x (d + 1)).bind (fun r => some (-r.1, r.2)) = _
  rw [show n + 2 = (n + 0) + 2 from by omega, pf_3_0_1 (q := (nbX q 30)) (OK_nb ob) (n + 0) x (d + 1) (by omega) (by omega) (nbX_ran (n := 2) hr (by decide)), bind_s]
theorem pf_3_3_1 {q : SS} {b : Int32} (ob : OKk q 3 b) (n : Nat) (x d : Int32) (d0 : 0 ≤ d.toInt) (d1 : d.toInt ≤ 37) (hr : okR (q.1 57 3) 4) : g_X3_perform (n + 4) q 3 1 x d = some ((-(((x + 1) + b) * 2)), (nbX (nbX (nbX (nbX q 41) 30) 10) 1)) := by
  have l40 : (40 : Int32).toInt = 40 := rfl
  have e1 := inc1 (a := d) (by omega) (by omega)
  show fb_X3_perform (g_X3_perform (n + 3)) q 3 1 x d = _
  unfold fb_X3_perform
  rw [own_q, own_3_1, bind_s, if_neg (by decide), if_pos (Int32.le_iff_toInt_le.mpr (by omega)), if_pos (by decide)]
  unfold nm
  dsimp only
  rw [ob.1, ob.2, bind_s, if_pos (by decide), show stV 2 (((3 : Int32) * 4 + 1).toNatClampNeg) = 41 from rfl, x_nb hr.1, bind_s]
  show (g_X3_perform (n + 3) (nbX q 41) 2 1 (x + 1) (d + 1)).bind (fun r => some (r.1, r.2)) = _
  rw [show n + 3 = (n + 0) + 3 from by omega, pf_3_2_1 (q := (nbX q 41)) (OK_nb ob) (n + 0) (x + 1) (d + 1) (by omega) (by omega) (nbX_ran (n := 3) hr (by decide)), bind_s]
theorem pf_3_3_3 {q : SS} {b : Int32} (ob : OKk q 3 b) (n : Nat) (x d : Int32) (d0 : 0 ≤ d.toInt) (d1 : d.toInt ≤ 36) (hr : okR (q.1 57 3) 7) : g_X3_perform (n + 5) q 3 3 x d = some (((-(((x + 1) + b) * 2)) - ((1 ^^^ b) * 3)), (nbX (nbX (nbX (nbX (nbX (nbX (nbX q 2) 41) 30) 10) 1) 40) 11)) := by
  have l40 : (40 : Int32).toInt = 40 := rfl
  have e1 := inc1 (a := d) (by omega) (by omega)
  show fb_X3_perform (g_X3_perform (n + 4)) q 3 3 x d = _
  unfold fb_X3_perform
  rw [own_q, own_3_3, bind_s, if_neg (by decide), if_pos (Int32.le_iff_toInt_le.mpr (by omega)), if_pos (by decide)]
  unfold nm
  dsimp only
  rw [ob.1, ob.2, bind_s, if_pos (by decide), show stV 2 (((0 : Int32) * 4 + 3).toNatClampNeg) = 2 from rfl, x_nb hr.1, bind_s]
  show (g_X3_perform (n + 4) (nbX q 2) 3 1 x (d + 1)).bind (fun r => (g_X3_perform (n + 4) r.2 3 2 1 (d + 1)).bind fun s => some (r.1 - s.1, s.2)) = _
  have hr1 : okR (((nbX q 2)).1 57 3) 6 := nbX_ran (n := 6) hr (by decide)
  have hs0 : okR ((nbX (nbX q 2) 41).1 57 3) 5 := nbX_ran (n := 5) hr1 (by decide)
  have hs1 : okR ((nbX (nbX (nbX q 2) 41) 30).1 57 3) 4 := nbX_ran (n := 4) hs0 (by decide)
  have hs2 : okR ((nbX (nbX (nbX (nbX q 2) 41) 30) 10).1 57 3) 3 := nbX_ran (n := 3) hs1 (by decide)
  have hs3 : okR ((nbX (nbX (nbX (nbX (nbX q 2) 41) 30) 10) 1).1 57 3) 2 := nbX_ran (n := 2) hs2 (by decide)
  have p1 := pf_3_3_1 (q := (nbX q 2)) (OK_nb ob) (n + 0) x (d + 1) (by omega) (by omega) ⟨hr1.1, by have := hr1.2; omega⟩
  have p2 := pf_3_3_2 (q := (nbX (nbX (nbX (nbX (nbX q 2) 41) 30) 10) 1)) (OK_nb (OK_nb (OK_nb (OK_nb (OK_nb ob))))) (n + 2) 1 (d + 1) (by omega) (by omega) ⟨hs3.1, by have := hs3.2; omega⟩
  rw [show (n + 0) + 4 = n + 4 from by omega] at p1
  rw [show (n + 2) + 2 = n + 4 from by omega] at p2
  rw [p1, bind_s, p2, bind_s]
theorem pf_4_0_0 {q : SS} {b : Int32} (ob : OKk q 4 b) (n : Nat) (x d : Int32) (d0 : 0 ≤ d.toInt) (d1 : d.toInt ≤ 40) (hr : okR (q.1 57 3) 1) : g_X3_perform (n + 1) q 0 0 x d = some ((x + b), (nbX q 1)) := by
  have l40 : (40 : Int32).toInt = 40 := rfl
  have e1 := inc1 (a := d) (by omega) (by omega)
  show fb_X3_perform (g_X3_perform (n + 0)) q 0 0 x d = _
  unfold fb_X3_perform
  rw [own_q, own_0_0, bind_s, if_neg (by decide), if_pos (Int32.le_iff_toInt_le.mpr (by omega)), if_pos (by decide)]
  unfold nm
  dsimp only
  rw [ob.1, ob.2, bind_s, if_pos (by decide), show stV 2 (((0 : Int32) * 4 + 0).toNatClampNeg) = 1 from rfl, x_nb hr.1, bind_s]
  show some (x + (nbX q 1).1 57 4, nbX q 1) = _
  rw [nbX_o.1, ob.1]
theorem pf_4_4_2 {q : SS} {b : Int32} (ob : OKk q 4 b) (n : Nat) (x d : Int32) (d0 : 0 ≤ d.toInt) (d1 : d.toInt ≤ 40) (hr : okR (q.1 57 3) 1) : g_X3_perform (n + 1) q 4 2 x d = some ((x ^^^ b), (nbX q 11)) := by
  have l40 : (40 : Int32).toInt = 40 := rfl
  have e1 := inc1 (a := d) (by omega) (by omega)
  show fb_X3_perform (g_X3_perform (n + 0)) q 4 2 x d = _
  unfold fb_X3_perform
  rw [own_q, own_4_2, bind_s, if_neg (by decide), if_pos (Int32.le_iff_toInt_le.mpr (by omega)), if_pos (by decide)]
  unfold nm
  dsimp only
  rw [ob.1, ob.2, bind_s, if_pos (by decide), show stV 2 (((0 : Int32) * 4 + 2).toNatClampNeg) = 11 from rfl, x_nb hr.1, bind_s]
  show some (x ^^^ (nbX q 11).1 57 4, nbX q 11) = _
  rw [nbX_o.1, ob.1]
theorem pf_4_4_0 {q : SS} {b : Int32} (ob : OKk q 4 b) (n : Nat) (x d : Int32) (d0 : 0 ≤ d.toInt) (d1 : d.toInt ≤ 39) (hr : okR (q.1 57 3) 2) : g_X3_perform (n + 2) q 4 0 x d = some (((x + b) + 3), (nbX (nbX q 20) 1)) := by
  have l40 : (40 : Int32).toInt = 40 := rfl
  have e1 := inc1 (a := d) (by omega) (by omega)
  show fb_X3_perform (g_X3_perform (n + 1)) q 4 0 x d = _
  unfold fb_X3_perform
  rw [own_q, own_4_0, bind_s, if_neg (by decide), if_pos (Int32.le_iff_toInt_le.mpr (by omega)), if_pos (by decide)]
  unfold nm
  dsimp only
  rw [ob.1, ob.2, bind_s, if_pos (by decide), show stV 2 (((1 : Int32) * 4 + 0).toNatClampNeg) = 20 from rfl, x_nb hr.1, bind_s]
  show (g_X3_perform (n + 1) (nbX q 20) 0 0 x (d + 1)).bind (fun r => some (r.1 + 3, r.2)) = _
  rw [show n + 1 = (n + 0) + 1 from by omega, pf_4_0_0 (q := (nbX q 20)) (OK_nb ob) (n + 0) x (d + 1) (by omega) (by omega) (nbX_ran (n := 1) hr (by decide)), bind_s]
theorem pf_4_4_1 {q : SS} {b : Int32} (ob : OKk q 4 b) (n : Nat) (x d : Int32) (d0 : 0 ≤ d.toInt) (d1 : d.toInt ≤ 38) (hr : okR (q.1 57 3) 3) : g_X3_perform (n + 3) q 4 1 x d = some ((((x + b) + 3) * 2), (nbX (nbX (nbX q 10) 20) 1)) := by
  have l40 : (40 : Int32).toInt = 40 := rfl
  have e1 := inc1 (a := d) (by omega) (by omega)
  show fb_X3_perform (g_X3_perform (n + 2)) q 4 1 x d = _
  unfold fb_X3_perform
  rw [own_q, own_4_1, bind_s, if_neg (by decide), if_pos (Int32.le_iff_toInt_le.mpr (by omega)), if_pos (by decide)]
  unfold nm
  dsimp only
  rw [ob.1, ob.2, bind_s, if_pos (by decide), show stV 2 (((0 : Int32) * 4 + 1).toNatClampNeg) = 10 from rfl, x_nb hr.1, bind_s]
  show (g_X3_perform (n + 2) (nbX q 10) 4 0 x (d + 1)).bind (fun r => some (r.1 * 2, r.2)) = _
  rw [show n + 2 = (n + 0) + 2 from by omega, pf_4_4_0 (q := (nbX q 10)) (OK_nb ob) (n + 0) x (d + 1) (by omega) (by omega) (nbX_ran (n := 2) hr (by decide)), bind_s]
theorem pf_4_1_3 {q : SS} {b : Int32} (ob : OKk q 4 b) (n : Nat) (x d : Int32) (d0 : 0 ≤ d.toInt) (d1 : d.toInt ≤ 37) (hr : okR (q.1 57 3) 5) : g_X3_perform (n + 4) q 1 3 x d = some (((((x + b) + 3) * 2) - (1 ^^^ b)), (nbX (nbX (nbX (nbX (nbX q 2) 10) 20) 1) 11)) := by
  have l40 : (40 : Int32).toInt = 40 := rfl
  have e1 := inc1 (a := d) (by omega) (by omega)
  show fb_X3_perform (g_X3_perform (n + 3)) q 1 3 x d = _
  unfold fb_X3_perform
  rw [own_q, own_1_3, bind_s, if_neg (by decide), if_pos (Int32.le_iff_toInt_le.mpr (by omega)), if_pos (by decide)]
  unfold nm
  dsimp only
  rw [ob.1, ob.2, bind_s, if_pos (by decide), show stV 2 (((0 : Int32) * 4 + 3).toNatClampNeg) = 2 from rfl, x_nb hr.1, bind_s]
  show (g_X3_perform (n + 3) (nbX q 2) 4 1 x (d + 1)).bind (fun r => (g_X3_perform (n + 3) r.2 4 2 1 (d + 1)).bind fun s => some (r.1 - s.1, s.2)) = _
  have hr1 : okR (((nbX q 2)).1 57 3) 4 := nbX_ran (n := 4) hr (by decide)
  have hs0 : okR ((nbX (nbX q 2) 10).1 57 3) 3 := nbX_ran (n := 3) hr1 (by decide)
  have hs1 : okR ((nbX (nbX (nbX q 2) 10) 20).1 57 3) 2 := nbX_ran (n := 2) hs0 (by decide)
  have hs2 : okR ((nbX (nbX (nbX (nbX q 2) 10) 20) 1).1 57 3) 1 := nbX_ran (n := 1) hs1 (by decide)
  have p1 := pf_4_4_1 (q := (nbX q 2)) (OK_nb ob) (n + 0) x (d + 1) (by omega) (by omega) ⟨hr1.1, by have := hr1.2; omega⟩
  have p2 := pf_4_4_2 (q := (nbX (nbX (nbX (nbX q 2) 10) 20) 1)) (OK_nb (OK_nb (OK_nb (OK_nb ob)))) (n + 2) 1 (d + 1) (by omega) (by omega) ⟨hs2.1, by have := hs2.2; omega⟩
  rw [show (n + 0) + 3 = n + 3 from by omega] at p1
  rw [show (n + 2) + 1 = n + 3 from by omega] at p2
  rw [p1, bind_s, p2, bind_s]
theorem pf_4_4_3 {q : SS} {b : Int32} (ob : OKk q 4 b) (n : Nat) (x d : Int32) (d0 : 0 ≤ d.toInt) (d1 : d.toInt ≤ 36) (hr : okR (q.1 57 3) 6) : g_X3_perform (n + 5) q 4 3 x d = some ((((((x + b) + 3) * 2) - (1 ^^^ b)) ^^^ 5), (nbX (nbX (nbX (nbX (nbX (nbX q 50) 2) 10) 20) 1) 11)) := by
  have l40 : (40 : Int32).toInt = 40 := rfl
  have e1 := inc1 (a := d) (by omega) (by omega)
  show fb_X3_perform (g_X3_perform (n + 4)) q 4 3 x d = _
  unfold fb_X3_perform
  rw [own_q, own_4_3, bind_s, if_neg (by decide), if_pos (Int32.le_iff_toInt_le.mpr (by omega)), if_pos (by decide)]
  unfold nm
  dsimp only
  rw [ob.1, ob.2, bind_s, if_pos (by decide), show stV 2 (((4 : Int32) * 4 + 3).toNatClampNeg) = 50 from rfl, x_nb hr.1, bind_s]
  show (g_X3_perform (n + 4) (nbX q 50) 1 3 x (d + 1)).bind (fun r => some (r.1 ^^^ 5, r.2)) = _
  rw [show n + 4 = (n + 0) + 4 from by omega, pf_4_1_3 (q := (nbX q 50)) (OK_nb ob) (n + 0) x (d + 1) (by omega) (by omega) (nbX_ran (n := 5) hr (by decide)), bind_s]
theorem pf_5_2_2 {q : SS} {b : Int32} (ob : OKk q 5 b) (n : Nat) (x d : Int32) (d0 : 0 ≤ d.toInt) (d1 : d.toInt ≤ 40) (hr : okR (q.1 57 3) 1) : g_X3_perform (n + 1) q 2 2 x d = some ((x ^^^ b), (nbX q 11)) := by
  have l40 : (40 : Int32).toInt = 40 := rfl
  have e1 := inc1 (a := d) (by omega) (by omega)
  show fb_X3_perform (g_X3_perform (n + 0)) q 2 2 x d = _
  unfold fb_X3_perform
  rw [own_q, own_2_2, bind_s, if_neg (by decide), if_pos (Int32.le_iff_toInt_le.mpr (by omega)), if_pos (by decide)]
  unfold nm
  dsimp only
  rw [ob.1, ob.2, bind_s, if_pos (by decide), show stV 2 (((0 : Int32) * 4 + 2).toNatClampNeg) = 11 from rfl, x_nb hr.1, bind_s]
  show some (x ^^^ (nbX q 11).1 57 4, nbX q 11) = _
  rw [nbX_o.1, ob.1]
theorem pf_5_5_0 {q : SS} {b : Int32} (ob : OKk q 5 b) (n : Nat) (x d : Int32) (d0 : 0 ≤ d.toInt) (d1 : d.toInt ≤ 40) (hr : okR (q.1 57 3) 1) : g_X3_perform (n + 1) q 5 0 x d = some ((x + b), (nbX q 1)) := by
  have l40 : (40 : Int32).toInt = 40 := rfl
  have e1 := inc1 (a := d) (by omega) (by omega)
  show fb_X3_perform (g_X3_perform (n + 0)) q 5 0 x d = _
  unfold fb_X3_perform
  rw [own_q, own_5_0, bind_s, if_neg (by decide), if_pos (Int32.le_iff_toInt_le.mpr (by omega)), if_pos (by decide)]
  unfold nm
  dsimp only
  rw [ob.1, ob.2, bind_s, if_pos (by decide), show stV 2 (((0 : Int32) * 4 + 0).toNatClampNeg) = 1 from rfl, x_nb hr.1, bind_s]
  show some (x + (nbX q 1).1 57 4, nbX q 1) = _
  rw [nbX_o.1, ob.1]
theorem pf_5_0_1 {q : SS} {b : Int32} (ob : OKk q 5 b) (n : Nat) (x d : Int32) (d0 : 0 ≤ d.toInt) (d1 : d.toInt ≤ 39) (hr : okR (q.1 57 3) 2) : g_X3_perform (n + 2) q 0 1 x d = some (((x + b) * 2), (nbX (nbX q 10) 1)) := by
  have l40 : (40 : Int32).toInt = 40 := rfl
  have e1 := inc1 (a := d) (by omega) (by omega)
  show fb_X3_perform (g_X3_perform (n + 1)) q 0 1 x d = _
  unfold fb_X3_perform
  rw [own_q, own_0_1, bind_s, if_neg (by decide), if_pos (Int32.le_iff_toInt_le.mpr (by omega)), if_pos (by decide)]
  unfold nm
  dsimp only
  rw [ob.1, ob.2, bind_s, if_pos (by decide), show stV 2 (((0 : Int32) * 4 + 1).toNatClampNeg) = 10 from rfl, x_nb hr.1, bind_s]
  show (g_X3_perform (n + 1) (nbX q 10) 5 0 x (d + 1)).bind (fun r => some (r.1 * 2, r.2)) = _
  rw [show n + 1 = (n + 0) + 1 from by omega, pf_5_5_0 (q := (nbX q 10)) (OK_nb ob) (n + 0) x (d + 1) (by omega) (by omega) (nbX_ran (n := 1) hr (by decide)), bind_s]
theorem pf_5_3_2 {q : SS} {b : Int32} (ob : OKk q 5 b) (n : Nat) (x d : Int32) (d0 : 0 ≤ d.toInt) (d1 : d.toInt ≤ 39) (hr : okR (q.1 57 3) 2) : g_X3_perform (n + 2) q 3 2 x d = some (((x ^^^ b) * 3), (nbX (nbX q 40) 11)) := by
  have l40 : (40 : Int32).toInt = 40 := rfl
  have e1 := inc1 (a := d) (by omega) (by omega)
  show fb_X3_perform (g_X3_perform (n + 1)) q 3 2 x d = _
  unfold fb_X3_perform
  rw [own_q, own_3_2, bind_s, if_neg (by decide), if_pos (Int32.le_iff_toInt_le.mpr (by omega)), if_pos (by decide)]
  unfold nm
  dsimp only
  rw [ob.1, ob.2, bind_s, if_pos (by decide), show stV 2 (((3 : Int32) * 4 + 2).toNatClampNeg) = 40 from rfl, x_nb hr.1, bind_s]
  show (g_X3_perform (n + 1) (nbX q 40) 2 2 x (d + 1)).bind (fun r => some (r.1 * 3, r.2)) = _
  rw [show n + 1 = (n + 0) + 1 from by omega, pf_5_2_2 (q := (nbX q 40)) (OK_nb ob) (n + 0) x (d + 1) (by omega) (by omega) (nbX_ran (n := 1) hr (by decide)), bind_s]
theorem pf_5_2_1 {q : SS} {b : Int32} (ob : OKk q 5 b) (n : Nat) (x d : Int32) (d0 : 0 ≤ d.toInt) (d1 : d.toInt ≤ 38) (hr : okR (q.1 57 3) 3) : g_X3_perform (n + 3) q 2 1 x d = some ((-((x + b) * 2)), (nbX (nbX (nbX q 30) 10) 1)) := by
  have l40 : (40 : Int32).toInt = 40 := rfl
  have e1 := inc1 (a := d) (by omega) (by omega)
  show fb_X3_perform (g_X3_perform (n + 2)) q 2 1 x d = _
  unfold fb_X3_perform
  rw [own_q, own_2_1, bind_s, if_neg (by decide), if_pos (Int32.le_iff_toInt_le.mpr (by omega)), if_pos (by decide)]
  unfold nm
  dsimp only
  rw [ob.1, ob.2, bind_s, if_pos (by decide), show stV 2 (((2 : Int32) * 4 + 1).toNatClampNeg) = 30 from rfl, x_nb hr.1, bind_s]
  show (g_X3_perform (n + 2) (nbX q 30) 0 1 x (d + 1)).bind (fun r => some (-r.1, r.2)) = _
  rw [show n + 2 = (n + 0) + 2 from by omega, pf_5_0_1 (q := (nbX q 30)) (OK_nb ob) (n + 0) x (d + 1) (by omega) (by omega) (nbX_ran (n := 2) hr (by decide)), bind_s]
theorem pf_5_5_2 {q : SS} {b : Int32} (ob : OKk q 5 b) (n : Nat) (x d : Int32) (d0 : 0 ≤ d.toInt) (d1 : d.toInt ≤ 38) (hr : okR (q.1 57 3) 4) : g_X3_perform (n + 3) q 5 2 x d = some ((((x ^^^ b) * 3) - (2 + b)), (nbX (nbX (nbX (nbX q 60) 40) 11) 1)) := by
  have l40 : (40 : Int32).toInt = 40 := rfl
  have e1 := inc1 (a := d) (by omega) (by omega)
  show fb_X3_perform (g_X3_perform (n + 2)) q 5 2 x d = _
  unfold fb_X3_perform
  rw [own_q, own_5_2, bind_s, if_neg (by decide), if_pos (Int32.le_iff_toInt_le.mpr (by omega)), if_pos (by decide)]
  unfold nm
  dsimp only
  rw [ob.1, ob.2, bind_s, if_pos (by decide), show stV 2 (((5 : Int32) * 4 + 2).toNatClampNeg) = 60 from rfl, x_nb hr.1, bind_s]
  show (g_X3_perform (n + 2) (nbX q 60) 3 2 x (d + 1)).bind (fun r => (g_X3_perform (n + 2) r.2 5 0 2 (d + 1)).bind fun s => some (r.1 - s.1, s.2)) = _
  have hr1 : okR (((nbX q 60)).1 57 3) 3 := nbX_ran (n := 3) hr (by decide)
  have hs0 : okR ((nbX (nbX q 60) 40).1 57 3) 2 := nbX_ran (n := 2) hr1 (by decide)
  have hs1 : okR ((nbX (nbX (nbX q 60) 40) 11).1 57 3) 1 := nbX_ran (n := 1) hs0 (by decide)
  have p1 := pf_5_3_2 (q := (nbX q 60)) (OK_nb ob) (n + 0) x (d + 1) (by omega) (by omega) ⟨hr1.1, by have := hr1.2; omega⟩
  have p2 := pf_5_5_0 (q := (nbX (nbX (nbX q 60) 40) 11)) (OK_nb (OK_nb (OK_nb ob))) (n + 1) 2 (d + 1) (by omega) (by omega) ⟨hs1.1, by have := hs1.2; omega⟩
  rw [show (n + 0) + 2 = n + 2 from by omega] at p1
  rw [show (n + 1) + 1 = n + 2 from by omega] at p2
  rw [p1, bind_s, p2, bind_s]
theorem pf_5_5_1 {q : SS} {b : Int32} (ob : OKk q 5 b) (n : Nat) (x d : Int32) (d0 : 0 ≤ d.toInt) (d1 : d.toInt ≤ 37) (hr : okR (q.1 57 3) 4) : g_X3_perform (n + 4) q 5 1 x d = some ((-(((x + 1) + b) * 2)), (nbX (nbX (nbX (nbX q 41) 30) 10) 1)) := by
  have l40 : (40 : Int32).toInt = 40 := rfl
  have e1 := inc1 (a := d) (by omega) (by omega)
  show fb_X3_perform (g_X3_perform (n + 3)) q 5 1 x d = _
  unfold fb_X3_perform
  rw [own_q, own_5_1, bind_s, if_neg (by decide), if_pos (Int32.le_iff_toInt_le.mpr (by omega)), if_pos (by decide)]
  unfold nm
  dsimp only
  rw [ob.1, ob.2, bind_s, if_pos (by decide), show stV 2 (((3 : Int32) * 4 + 1).toNatClampNeg) = 41 from rfl, x_nb hr.1, bind_s]
  show (g_X3_perform (n + 3) (nbX q 41) 2 1 (x + 1) (d + 1)).bind (fun r => some (r.1, r.2)) = _
  rw [show n + 3 = (n + 0) + 3 from by omega, pf_5_2_1 (q := (nbX q 41)) (OK_nb ob) (n + 0) (x + 1) (d + 1) (by omega) (by omega) (nbX_ran (n := 3) hr (by decide)), bind_s]
theorem pf_5_3_3 {q : SS} {b : Int32} (ob : OKk q 5 b) (n : Nat) (x d : Int32) (d0 : 0 ≤ d.toInt) (d1 : d.toInt ≤ 36) (hr : okR (q.1 57 3) 9) : g_X3_perform (n + 5) q 3 3 x d = some (((-(((x + 1) + b) * 2)) - (((1 ^^^ b) * 3) - (2 + b))), (nbX (nbX (nbX (nbX (nbX (nbX (nbX (nbX (nbX q 2) 41) 30) 10) 1) 60) 40) 11) 1)) := by
  have l40 : (40 : Int32).toInt = 40 := rfl
  have e1 := inc1 (a := d) (by omega) (by omega)
  show fb_X3_perform (g_X3_perform (n + 4)) q 3 3 x d = _
  unfold fb_X3_perform
  rw [own_q, own_3_3, bind_s, if_neg (by decide), if_pos (Int32.le_iff_toInt_le.mpr (by omega)), if_pos (by decide)]
  unfold nm
  dsimp only
  rw [ob.1, ob.2, bind_s, if_pos (by decide), show stV 2 (((0 : Int32) * 4 + 3).toNatClampNeg) = 2 from rfl, x_nb hr.1, bind_s]
  show (g_X3_perform (n + 4) (nbX q 2) 5 1 x (d + 1)).bind (fun r => (g_X3_perform (n + 4) r.2 5 2 1 (d + 1)).bind fun s => some (r.1 - s.1, s.2)) = _
  have hr1 : okR (((nbX q 2)).1 57 3) 8 := nbX_ran (n := 8) hr (by decide)
  have hs0 : okR ((nbX (nbX q 2) 41).1 57 3) 7 := nbX_ran (n := 7) hr1 (by decide)
  have hs1 : okR ((nbX (nbX (nbX q 2) 41) 30).1 57 3) 6 := nbX_ran (n := 6) hs0 (by decide)
  have hs2 : okR ((nbX (nbX (nbX (nbX q 2) 41) 30) 10).1 57 3) 5 := nbX_ran (n := 5) hs1 (by decide)
  have hs3 : okR ((nbX (nbX (nbX (nbX (nbX q 2) 41) 30) 10) 1).1 57 3) 4 := nbX_ran (n := 4) hs2 (by decide)
  have p1 := pf_5_5_1 (q := (nbX q 2)) (OK_nb ob) (n + 0) x (d + 1) (by omega) (by omega) ⟨hr1.1, by have := hr1.2; omega⟩
  have p2 := pf_5_5_2 (q := (nbX (nbX (nbX (nbX (nbX q 2) 41) 30) 10) 1)) (OK_nb (OK_nb (OK_nb (OK_nb (OK_nb ob))))) (n + 1) 1 (d + 1) (by omega) (by omega) ⟨hs3.1, by have := hs3.2; omega⟩
  rw [show (n + 0) + 4 = n + 4 from by omega] at p1
  rw [show (n + 1) + 3 = n + 4 from by omega] at p2
  rw [p1, bind_s, p2, bind_s]
theorem pf_5_5_3 {q : SS} {b : Int32} (ob : OKk q 5 b) (n : Nat) (x d : Int32) (d0 : 0 ≤ d.toInt) (d1 : d.toInt ≤ 35) (hr : okR (q.1 57 3) 10) : g_X3_perform (n + 6) q 5 3 x d = some ((((-(((x + 1) + b) * 2)) - (((1 ^^^ b) * 3) - (2 + b))) + 1), (nbX (nbX (nbX (nbX (nbX (nbX (nbX (nbX (nbX (nbX q 61) 2) 41) 30) 10) 1) 60) 40) 11) 1)) := by
  have l40 : (40 : Int32).toInt = 40 := rfl
  have e1 := inc1 (a := d) (by omega) (by omega)
  show fb_X3_perform (g_X3_perform (n + 5)) q 5 3 x d = _
  unfold fb_X3_perform
  rw [own_q, own_5_3, bind_s, if_neg (by decide), if_pos (Int32.le_iff_toInt_le.mpr (by omega)), if_pos (by decide)]
  unfold nm
  dsimp only
  rw [ob.1, ob.2, bind_s, if_pos (by decide), show stV 2 (((5 : Int32) * 4 + 3).toNatClampNeg) = 61 from rfl, x_nb hr.1, bind_s]
  show (g_X3_perform (n + 5) (nbX q 61) 3 3 x (d + 1)).bind (fun r => some (r.1 + 1, r.2)) = _
  rw [show n + 5 = (n + 0) + 5 from by omega, pf_5_3_3 (q := (nbX q 61)) (OK_nb ob) (n + 0) x (d + 1) (by omega) (by omega) (nbX_ran (n := 9) hr (by decide)), bind_s]
theorem pf_6_0_0 {q : SS} {b : Int32} (ob : OKk q 6 b) (n : Nat) (x d : Int32) (d0 : 0 ≤ d.toInt) (d1 : d.toInt ≤ 40) (hr : okR (q.1 57 3) 1) : g_X3_perform (n + 1) q 0 0 x d = some ((x + b), (nbX q 1)) := by
  have l40 : (40 : Int32).toInt = 40 := rfl
  have e1 := inc1 (a := d) (by omega) (by omega)
  show fb_X3_perform (g_X3_perform (n + 0)) q 0 0 x d = _
  unfold fb_X3_perform
  rw [own_q, own_0_0, bind_s, if_neg (by decide), if_pos (Int32.le_iff_toInt_le.mpr (by omega)), if_pos (by decide)]
  unfold nm
  dsimp only
  rw [ob.1, ob.2, bind_s, if_pos (by decide), show stV 2 (((0 : Int32) * 4 + 0).toNatClampNeg) = 1 from rfl, x_nb hr.1, bind_s]
  show some (x + (nbX q 1).1 57 4, nbX q 1) = _
  rw [nbX_o.1, ob.1]
theorem pf_6_6_2 {q : SS} {b : Int32} (ob : OKk q 6 b) (n : Nat) (x d : Int32) (d0 : 0 ≤ d.toInt) (d1 : d.toInt ≤ 40) (hr : okR (q.1 57 3) 1) : g_X3_perform (n + 1) q 6 2 x d = some ((x ^^^ b), (nbX q 11)) := by
  have l40 : (40 : Int32).toInt = 40 := rfl
  have e1 := inc1 (a := d) (by omega) (by omega)
  show fb_X3_perform (g_X3_perform (n + 0)) q 6 2 x d = _
  unfold fb_X3_perform
  rw [own_q, own_6_2, bind_s, if_neg (by decide), if_pos (Int32.le_iff_toInt_le.mpr (by omega)), if_pos (by decide)]
  unfold nm
  dsimp only
  rw [ob.1, ob.2, bind_s, if_pos (by decide), show stV 2 (((0 : Int32) * 4 + 2).toNatClampNeg) = 11 from rfl, x_nb hr.1, bind_s]
  show some (x ^^^ (nbX q 11).1 57 4, nbX q 11) = _
  rw [nbX_o.1, ob.1]
theorem pf_6_6_0 {q : SS} {b : Int32} (ob : OKk q 6 b) (n : Nat) (x d : Int32) (d0 : 0 ≤ d.toInt) (d1 : d.toInt ≤ 39) (hr : okR (q.1 57 3) 2) : g_X3_perform (n + 2) q 6 0 x d = some (((x + b) * 2), (nbX (nbX q 70) 1)) := by
  have l40 : (40 : Int32).toInt = 40 := rfl
  have e1 := inc1 (a := d) (by omega) (by omega)
  show fb_X3_perform (g_X3_perform (n + 1)) q 6 0 x d = _
  unfold fb_X3_perform
  rw [own_q, own_6_0, bind_s, if_neg (by decide), if_pos (Int32.le_iff_toInt_le.mpr (by omega)), if_pos (by decide)]
  unfold nm
  dsimp only
  rw [ob.1, ob.2, bind_s, if_pos (by decide), show stV 2 (((6 : Int32) * 4 + 0).toNatClampNeg) = 70 from rfl, x_nb hr.1, bind_s]
  show (g_X3_perform (n + 1) (nbX q 70) 0 0 x (d + 1)).bind (fun r => some (r.1 * 2, r.2)) = _
  rw [show n + 1 = (n + 0) + 1 from by omega, pf_6_0_0 (q := (nbX q 70)) (OK_nb ob) (n + 0) x (d + 1) (by omega) (by omega) (nbX_ran (n := 1) hr (by decide)), bind_s]
theorem pf_6_6_1 {q : SS} {b : Int32} (ob : OKk q 6 b) (n : Nat) (x d : Int32) (d0 : 0 ≤ d.toInt) (d1 : d.toInt ≤ 38) (hr : okR (q.1 57 3) 3) : g_X3_perform (n + 3) q 6 1 x d = some ((((x + b) * 2) * 2), (nbX (nbX (nbX q 10) 70) 1)) := by
  have l40 : (40 : Int32).toInt = 40 := rfl
  have e1 := inc1 (a := d) (by omega) (by omega)
  show fb_X3_perform (g_X3_perform (n + 2)) q 6 1 x d = _
  unfold fb_X3_perform
  rw [own_q, own_6_1, bind_s, if_neg (by decide), if_pos (Int32.le_iff_toInt_le.mpr (by omega)), if_pos (by decide)]
  unfold nm
  dsimp only
  rw [ob.1, ob.2, bind_s, if_pos (by decide), show stV 2 (((0 : Int32) * 4 + 1).toNatClampNeg) = 10 from rfl, x_nb hr.1, bind_s]
  show (g_X3_perform (n + 2) (nbX q 10) 6 0 x (d + 1)).bind (fun r => some (r.1 * 2, r.2)) = _
  rw [show n + 2 = (n + 0) + 2 from by omega, pf_6_6_0 (q := (nbX q 10)) (OK_nb ob) (n + 0) x (d + 1) (by omega) (by omega) (nbX_ran (n := 2) hr (by decide)), bind_s]
theorem pf_6_6_3 {q : SS} {b : Int32} (ob : OKk q 6 b) (n : Nat) (x d : Int32) (d0 : 0 ≤ d.toInt) (d1 : d.toInt ≤ 37) (hr : okR (q.1 57 3) 5) : g_X3_perform (n + 4) q 6 3 x d = some (((((x + b) * 2) * 2) - (1 ^^^ b)), (nbX (nbX (nbX (nbX (nbX q 2) 10) 70) 1) 11)) := by
  have l40 : (40 : Int32).toInt = 40 := rfl
  have e1 := inc1 (a := d) (by omega) (by omega)
  show fb_X3_perform (g_X3_perform (n + 3)) q 6 3 x d = _
  unfold fb_X3_perform
  rw [own_q, own_6_3, bind_s, if_neg (by decide), if_pos (Int32.le_iff_toInt_le.mpr (by omega)), if_pos (by decide)]
  unfold nm
  dsimp only
  rw [ob.1, ob.2, bind_s, if_pos (by decide), show stV 2 (((0 : Int32) * 4 + 3).toNatClampNeg) = 2 from rfl, x_nb hr.1, bind_s]
  show (g_X3_perform (n + 3) (nbX q 2) 6 1 x (d + 1)).bind (fun r => (g_X3_perform (n + 3) r.2 6 2 1 (d + 1)).bind fun s => some (r.1 - s.1, s.2)) = _
  have hr1 : okR (((nbX q 2)).1 57 3) 4 := nbX_ran (n := 4) hr (by decide)
  have hs0 : okR ((nbX (nbX q 2) 10).1 57 3) 3 := nbX_ran (n := 3) hr1 (by decide)
  have hs1 : okR ((nbX (nbX (nbX q 2) 10) 70).1 57 3) 2 := nbX_ran (n := 2) hs0 (by decide)
  have hs2 : okR ((nbX (nbX (nbX (nbX q 2) 10) 70) 1).1 57 3) 1 := nbX_ran (n := 1) hs1 (by decide)
  have p1 := pf_6_6_1 (q := (nbX q 2)) (OK_nb ob) (n + 0) x (d + 1) (by omega) (by omega) ⟨hr1.1, by have := hr1.2; omega⟩
  have p2 := pf_6_6_2 (q := (nbX (nbX (nbX (nbX q 2) 10) 70) 1)) (OK_nb (OK_nb (OK_nb (OK_nb ob)))) (n + 2) 1 (d + 1) (by omega) (by omega) ⟨hs2.1, by have := hs2.2; omega⟩
  rw [show (n + 0) + 3 = n + 3 from by omega] at p1
  rw [show (n + 2) + 1 = n + 3 from by omega] at p2
  rw [p1, bind_s, p2, bind_s]
theorem pf_7_0_0 {q : SS} {b : Int32} (ob : OKk q 7 b) (n : Nat) (x d : Int32) (d0 : 0 ≤ d.toInt) (d1 : d.toInt ≤ 40) (hr : okR (q.1 57 3) 1) : g_X3_perform (n + 1) q 0 0 x d = some ((x + b), (nbX q 1)) := by
  have l40 : (40 : Int32).toInt = 40 := rfl
  have e1 := inc1 (a := d) (by omega) (by omega)
  show fb_X3_perform (g_X3_perform (n + 0)) q 0 0 x d = _
  unfold fb_X3_perform
  rw [own_q, own_0_0, bind_s, if_neg (by decide), if_pos (Int32.le_iff_toInt_le.mpr (by omega)), if_pos (by decide)]
  unfold nm
  dsimp only
  rw [ob.1, ob.2, bind_s, if_pos (by decide), show stV 2 (((0 : Int32) * 4 + 0).toNatClampNeg) = 1 from rfl, x_nb hr.1, bind_s]
  show some (x + (nbX q 1).1 57 4, nbX q 1) = _
  rw [nbX_o.1, ob.1]
theorem pf_7_7_2 {q : SS} {b : Int32} (ob : OKk q 7 b) (n : Nat) (x d : Int32) (d0 : 0 ≤ d.toInt) (d1 : d.toInt ≤ 40) (hr : okR (q.1 57 3) 1) : g_X3_perform (n + 1) q 7 2 x d = some ((x ^^^ b), (nbX q 11)) := by
  have l40 : (40 : Int32).toInt = 40 := rfl
  have e1 := inc1 (a := d) (by omega) (by omega)
  show fb_X3_perform (g_X3_perform (n + 0)) q 7 2 x d = _
  unfold fb_X3_perform
  rw [own_q, own_7_2, bind_s, if_neg (by decide), if_pos (Int32.le_iff_toInt_le.mpr (by omega)), if_pos (by decide)]
  unfold nm
  dsimp only
  rw [ob.1, ob.2, bind_s, if_pos (by decide), show stV 2 (((0 : Int32) * 4 + 2).toNatClampNeg) = 11 from rfl, x_nb hr.1, bind_s]
  show some (x ^^^ (nbX q 11).1 57 4, nbX q 11) = _
  rw [nbX_o.1, ob.1]
theorem pf_7_6_0 {q : SS} {b : Int32} (ob : OKk q 7 b) (n : Nat) (x d : Int32) (d0 : 0 ≤ d.toInt) (d1 : d.toInt ≤ 39) (hr : okR (q.1 57 3) 2) : g_X3_perform (n + 2) q 6 0 x d = some (((x + b) * 2), (nbX (nbX q 70) 1)) := by
  have l40 : (40 : Int32).toInt = 40 := rfl
  have e1 := inc1 (a := d) (by omega) (by omega)
  show fb_X3_perform (g_X3_perform (n + 1)) q 6 0 x d = _
  unfold fb_X3_perform
  rw [own_q, own_6_0, bind_s, if_neg (by decide), if_pos (Int32.le_iff_toInt_le.mpr (by omega)), if_pos (by decide)]
  unfold nm
  dsimp only
  rw [ob.1, ob.2, bind_s, if_pos (by decide), show stV 2 (((6 : Int32) * 4 + 0).toNatClampNeg) = 70 from rfl, x_nb hr.1, bind_s]
  show (g_X3_perform (n + 1) (nbX q 70) 0 0 x (d + 1)).bind (fun r => some (r.1 * 2, r.2)) = _
  rw [show n + 1 = (n + 0) + 1 from by omega, pf_7_0_0 (q := (nbX q 70)) (OK_nb ob) (n + 0) x (d + 1) (by omega) (by omega) (nbX_ran (n := 1) hr (by decide)), bind_s]
theorem pf_7_7_0 {q : SS} {b : Int32} (ob : OKk q 7 b) (n : Nat) (x d : Int32) (d0 : 0 ≤ d.toInt) (d1 : d.toInt ≤ 38) (hr : okR (q.1 57 3) 3) : g_X3_perform (n + 3) q 7 0 x d = some ((((x + b) * 2) - 1), (nbX (nbX (nbX q 81) 70) 1)) := by
  have l40 : (40 : Int32).toInt = 40 := rfl
  have e1 := inc1 (a := d) (by omega) (by omega)
  show fb_X3_perform (g_X3_perform (n + 2)) q 7 0 x d = _
  unfold fb_X3_perform
  rw [own_q, own_7_0, bind_s, if_neg (by decide), if_pos (Int32.le_iff_toInt_le.mpr (by omega)), if_pos (by decide)]
  unfold nm
  dsimp only
  rw [ob.1, ob.2, bind_s, if_pos (by decide), show stV 2 (((7 : Int32) * 4 + 0).toNatClampNeg) = 81 from rfl, x_nb hr.1, bind_s]
  show (g_X3_perform (n + 2) (nbX q 81) 6 0 x (d + 1)).bind (fun r => some (r.1 - 1, r.2)) = _
  rw [show n + 2 = (n + 0) + 2 from by omega, pf_7_6_0 (q := (nbX q 81)) (OK_nb ob) (n + 0) x (d + 1) (by omega) (by omega) (nbX_ran (n := 2) hr (by decide)), bind_s]
theorem pf_7_6_1 {q : SS} {b : Int32} (ob : OKk q 7 b) (n : Nat) (x d : Int32) (d0 : 0 ≤ d.toInt) (d1 : d.toInt ≤ 37) (hr : okR (q.1 57 3) 4) : g_X3_perform (n + 4) q 6 1 x d = some (((((x + b) * 2) - 1) * 2), (nbX (nbX (nbX (nbX q 10) 81) 70) 1)) := by
  have l40 : (40 : Int32).toInt = 40 := rfl
  have e1 := inc1 (a := d) (by omega) (by omega)
  show fb_X3_perform (g_X3_perform (n + 3)) q 6 1 x d = _
  unfold fb_X3_perform
  rw [own_q, own_6_1, bind_s, if_neg (by decide), if_pos (Int32.le_iff_toInt_le.mpr (by omega)), if_pos (by decide)]
  unfold nm
  dsimp only
  rw [ob.1, ob.2, bind_s, if_pos (by decide), show stV 2 (((0 : Int32) * 4 + 1).toNatClampNeg) = 10 from rfl, x_nb hr.1, bind_s]
  show (g_X3_perform (n + 3) (nbX q 10) 7 0 x (d + 1)).bind (fun r => some (r.1 * 2, r.2)) = _
  rw [show n + 3 = (n + 0) + 3 from by omega, pf_7_7_0 (q := (nbX q 10)) (OK_nb ob) (n + 0) x (d + 1) (by omega) (by omega) (nbX_ran (n := 3) hr (by decide)), bind_s]
theorem pf_7_7_1 {q : SS} {b : Int32} (ob : OKk q 7 b) (n : Nat) (x d : Int32) (d0 : 0 ≤ d.toInt) (d1 : d.toInt ≤ 36) (hr : okR (q.1 57 3) 6) : g_X3_perform (n + 5) q 7 1 x d = some ((((((x + b) * 2) - 1) * 2) + (2 ^^^ b)), (nbX (nbX (nbX (nbX (nbX (nbX q 80) 10) 81) 70) 1) 11)) := by
  have l40 : (40 : Int32).toInt = 40 := rfl
  have e1 := inc1 (a := d) (by omega) (by omega)
  show fb_X3_perform (g_X3_perform (n + 4)) q 7 1 x d = _
  unfold fb_X3_perform
  rw [own_q, own_7_1, bind_s, if_neg (by decide), if_pos (Int32.le_iff_toInt_le.mpr (by omega)), if_pos (by decide)]
  unfold nm
  dsimp only
  rw [ob.1, ob.2, bind_s, if_pos (by decide), show stV 2 (((7 : Int32) * 4 + 1).toNatClampNeg) = 80 from rfl, x_nb hr.1, bind_s]
  show (g_X3_perform (n + 4) (nbX q 80) 6 1 x (d + 1)).bind (fun r => (g_X3_perform (n + 4) r.2 7 2 2 (d + 1)).bind fun s => some (r.1 + s.1, s.2)) = _
  have hr1 : okR (((nbX q 80)).1 57 3) 5 := nbX_ran (n := 5) hr (by decide)
  have hs0 : okR ((nbX (nbX q 80) 10).1 57 3) 4 := nbX_ran (n := 4) hr1 (by decide)
  have hs1 : okR ((nbX (nbX (nbX q 80) 10) 81).1 57 3) 3 := nbX_ran (n := 3) hs0 (by decide)
  have hs2 : okR ((nbX (nbX (nbX (nbX q 80) 10) 81) 70).1 57 3) 2 := nbX_ran (n := 2) hs1 (by decide)
  have hs3 : okR ((nbX (nbX (nbX (nbX (nbX q 80) 10) 81) 70) 1).1 57 3) 1 := nbX_ran (n := 1) hs2 (by decide)
  have p1 := pf_7_6_1 (q := (nbX q 80)) (OK_nb ob) (n + 0) x (d + 1) (by omega) (by omega) ⟨hr1.1, by have := hr1.2; omega⟩
  have p2 := pf_7_7_2 (q := (nbX (nbX (nbX (nbX (nbX q 80) 10) 81) 70) 1)) (OK_nb (OK_nb (OK_nb (OK_nb (OK_nb ob))))) (n + 3) 2 (d + 1) (by omega) (by omega) ⟨hs3.1, by have := hs3.2; omega⟩
  rw [show (n + 0) + 4 = n + 4 from by omega] at p1
  rw [show (n + 3) + 1 = n + 4 from by omega] at p2
  rw [p1, bind_s, p2, bind_s]
theorem pf_7_7_3 {q : SS} {b : Int32} (ob : OKk q 7 b) (n : Nat) (x d : Int32) (d0 : 0 ≤ d.toInt) (d1 : d.toInt ≤ 35) (hr : okR (q.1 57 3) 8) : g_X3_perform (n + 6) q 7 3 x d = some (((((((x + b) * 2) - 1) * 2) + (2 ^^^ b)) - (1 ^^^ b)), (nbX (nbX (nbX (nbX (nbX (nbX (nbX (nbX q 2) 80) 10) 81) 70) 1) 11) 11)) := by
  have l40 : (40 : Int32).toInt = 40 := rfl
  have e1 := inc1 (a := d) (by omega) (by omega)
  show fb_X3_perform (g_X3_perform (n + 5)) q 7 3 x d = _
  unfold fb_X3_perform
  rw [own_q, own_7_3, bind_s, if_neg (by decide), if_pos (Int32.le_iff_toInt_le.mpr (by omega)), if_pos (by decide)]
  unfold nm
  dsimp only
  rw [ob.1, ob.2, bind_s, if_pos (by decide), show stV 2 (((0 : Int32) * 4 + 3).toNatClampNeg) = 2 from rfl, x_nb hr.1, bind_s]
  show (g_X3_perform (n + 5) (nbX q 2) 7 1 x (d + 1)).bind (fun r => (g_X3_perform (n + 5) r.2 7 2 1 (d + 1)).bind fun s => some (r.1 - s.1, s.2)) = _
  have hr1 : okR (((nbX q 2)).1 57 3) 7 := nbX_ran (n := 7) hr (by decide)
  have hs0 : okR ((nbX (nbX q 2) 80).1 57 3) 6 := nbX_ran (n := 6) hr1 (by decide)
  have hs1 : okR ((nbX (nbX (nbX q 2) 80) 10).1 57 3) 5 := nbX_ran (n := 5) hs0 (by decide)
  have hs2 : okR ((nbX (nbX (nbX (nbX q 2) 80) 10) 81).1 57 3) 4 := nbX_ran (n := 4) hs1 (by decide)
  have hs3 : okR ((nbX (nbX (nbX (nbX (nbX q 2) 80) 10) 81) 70).1 57 3) 3 := nbX_ran (n := 3) hs2 (by decide)
  have hs4 : okR ((nbX (nbX (nbX (nbX (nbX (nbX q 2) 80) 10) 81) 70) 1).1 57 3) 2 := nbX_ran (n := 2) hs3 (by decide)
  have hs5 : okR ((nbX (nbX (nbX (nbX (nbX (nbX (nbX q 2) 80) 10) 81) 70) 1) 11).1 57 3) 1 := nbX_ran (n := 1) hs4 (by decide)
  have p1 := pf_7_7_1 (q := (nbX q 2)) (OK_nb ob) (n + 0) x (d + 1) (by omega) (by omega) ⟨hr1.1, by have := hr1.2; omega⟩
  have p2 := pf_7_7_2 (q := (nbX (nbX (nbX (nbX (nbX (nbX (nbX q 2) 80) 10) 81) 70) 1) 11)) (OK_nb (OK_nb (OK_nb (OK_nb (OK_nb (OK_nb (OK_nb ob))))))) (n + 4) 1 (d + 1) (by omega) (by omega) ⟨hs5.1, by have := hs5.2; omega⟩
  rw [show (n + 0) + 5 = n + 5 from by omega] at p1
  rw [show (n + 4) + 1 = n + 5 from by omega] at p2
  rw [p1, bind_s, p2, bind_s]
theorem isU0 : ∀ k, k < 8 → f_X12_isUnder q00 (Int32.ofNat k) 1 = some (if k = 1 ∨ k = 4 then 1 else 0) ∧ f_X12_isUnder q00 (Int32.ofNat k) 3 = some (if k = 3 ∨ k = 5 then 1 else 0) := by decide +kernel

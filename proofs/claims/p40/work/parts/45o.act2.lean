/-! ===== acts: the model ===== -/
theorem m_plainSlips {q : SS} (hr : okR (q.1 60 54) 1) (b x : Int32) : f_X12_plainSlips q b x = some (x + b, nbM q 1) := by
  unfold f_X12_plainSlips
  rw [m_nb hr.1, bind_s]
theorem m_wiseSlips {q : SS} (hr : okR (q.1 60 54) 2) (b x : Int32) : f_X12_wiseSlips q b x = some ((x + b) * 2, nbM (nbM q 70) 1) := by
  unfold f_X12_wiseSlips
  rw [m_nb hr.1, bind_s, m_plainSlips (nbM_ran (n := 1) hr (by decide)), bind_s]
theorem m_plainProves {q : SS} (hr : okR (q.1 60 54) 1) (b x : Int32) : f_X12_plainProves q b x = some (x ^^^ b, nbM q 11) := by
  unfold f_X12_plainProves
  rw [m_nb hr.1, bind_s]
theorem m_childProves {q : SS} (hr : okR (q.1 60 54) 2) (b x : Int32) : f_X12_childProves q b x = some ((x ^^^ b) * 3, nbM (nbM q 40) 11) := by
  unfold f_X12_childProves
  rw [m_nb hr.1, bind_s, m_plainProves (nbM_ran (n := 1) hr (by decide)), bind_s]
theorem isU1_0 : f_X12_isUnder q00 0 1 = some 0 := by decide +kernel
theorem isU3_0 : f_X12_isUnder q00 0 3 = some 0 := by decide +kernel
theorem isU1_1 : f_X12_isUnder q00 1 1 = some 1 := by decide +kernel
theorem isU3_1 : f_X12_isUnder q00 1 3 = some 0 := by decide +kernel
theorem isU1_2 : f_X12_isUnder q00 2 1 = some 0 := by decide +kernel
theorem isU3_2 : f_X12_isUnder q00 2 3 = some 0 := by decide +kernel
theorem isU1_3 : f_X12_isUnder q00 3 1 = some 0 := by decide +kernel
theorem isU3_3 : f_X12_isUnder q00 3 3 = some 1 := by decide +kernel
theorem isU1_4 : f_X12_isUnder q00 4 1 = some 1 := by decide +kernel
theorem isU3_4 : f_X12_isUnder q00 4 3 = some 0 := by decide +kernel
theorem isU1_5 : f_X12_isUnder q00 5 1 = some 0 := by decide +kernel
theorem isU3_5 : f_X12_isUnder q00 5 3 = some 1 := by decide +kernel
theorem isU1_6 : f_X12_isUnder q00 6 1 = some 0 := by decide +kernel
theorem isU3_6 : f_X12_isUnder q00 6 3 = some 0 := by decide +kernel
theorem isU1_7 : f_X12_isUnder q00 7 1 = some 0 := by decide +kernel
theorem isU3_7 : f_X12_isUnder q00 7 3 = some 0 := by decide +kernel
theorem m_sl_0 {q : SS} {b : Int32} (v : vin b 50) (hk : q.1 87 b.toNatClampNeg = 0) (hr : okR (q.1 60 54) 1) (x : Int32) : f_X12_slipping q b x = some ((x + b), (nbM q 1)) := by
  unfold f_X12_slipping
  rw [if_pos v, hk, isU_m, isU1_0, bind_s, if_pos rfl, if_pos v, if_neg (by decide), if_pos v, if_neg (by decide), m_plainSlips hr, bind_s]
theorem m_pf_0 {q : SS} {b : Int32} (v : vin b 50) (hk : q.1 87 b.toNatClampNeg = 0) (hr : okR (q.1 60 54) 2) (x : Int32) : f_X12_plainFolds q b x = some (((x + b) * 2), (nbM (nbM q 10) 1)) := by
  unfold f_X12_plainFolds
  rw [m_nb hr.1, bind_s, m_sl_0 v (by rw [nbM_o]; exact hk) (nbM_ran (n := 1) hr (by decide)), bind_s]
theorem m_bf_0 {q : SS} {b : Int32} (v : vin b 50) (hk : q.1 87 b.toNatClampNeg = 0) (hr : okR (q.1 60 54) 3) (x : Int32) : f_X12_brideFolds q b x = some ((-((x + b) * 2)), (nbM (nbM (nbM q 30) 10) 1)) := by
  unfold f_X12_brideFolds
  rw [m_nb hr.1, bind_s, m_pf_0 v (by rw [nbM_o]; exact hk) (nbM_ran (n := 2) hr (by decide)), bind_s]
theorem m_pr_0 {q : SS} {b : Int32} (v : vin b 50) (hk : q.1 87 b.toNatClampNeg = 0) (hr : okR (q.1 60 54) 1) (x : Int32) : f_X12_proving q b x = some ((x ^^^ b), (nbM q 11)) := by
  unfold f_X12_proving
  rw [if_pos v, hk, if_neg (by decide), if_pos v, if_neg (by decide), m_plainProves hr, bind_s]
theorem m_fo_0 {q : SS} {b : Int32} (v : vin b 50) (hk : q.1 87 b.toNatClampNeg = 0) (hr : okR (q.1 60 54) 2) (x : Int32) : f_X12_folding q b x = some (((x + b) * 2), (nbM (nbM q 10) 1)) := by
  unfold f_X12_folding
  rw [if_pos v, hk, isU_m, isU3_0, bind_s, if_pos rfl, if_pos v, if_neg (by decide), if_pos v, if_neg (by decide), m_pf_0 v hk hr, bind_s]
theorem m_pt_0 {q : SS} {b : Int32} (v : vin b 50) (hk : q.1 87 b.toNatClampNeg = 0) (hr : okR (q.1 60 54) 4) (x : Int32) : f_X12_plainTells q b x = some ((((x + b) * 2) - (1 ^^^ b)), (nbM (nbM (nbM (nbM q 2) 10) 1) 11)) := by
  unfold f_X12_plainTells
  have h1 : okR ((nbM q 2).1 60 54) 3 := (nbM_ran (n := 3) hr (by decide))
  have g0 : okR ((nbM (nbM q 2) 10).1 60 54) 2 := nbM_ran (n := 2) h1 (by decide)
  have g1 : okR ((nbM (nbM (nbM q 2) 10) 1).1 60 54) 1 := nbM_ran (n := 1) g0 (by decide)
  rw [m_nb hr.1, bind_s, m_fo_0 v (by rw [nbM_o]; exact hk) ⟨h1.1, by have := h1.2; omega⟩, bind_s]
  dsimp only
  rw [m_pr_0 v (by rw [nbM_o, nbM_o, nbM_o]; exact hk) g1, bind_s]
theorem m_te_0 {q : SS} {b : Int32} (v : vin b 50) (hk : q.1 87 b.toNatClampNeg = 0) (hr : okR (q.1 60 54) 4) (x : Int32) : f_X12_telling q b x = some ((((x + b) * 2) - (1 ^^^ b)), (nbM (nbM (nbM (nbM q 2) 10) 1) 11)) := by
  unfold f_X12_telling
  rw [if_pos v, hk, if_neg (by decide), if_pos v, if_neg (by decide), m_pt_0 v hk hr, bind_s]
theorem m_sl_1 {q : SS} {b : Int32} (v : vin b 50) (hk : q.1 87 b.toNatClampNeg = 1) (hr : okR (q.1 60 54) 2) (x : Int32) : f_X12_slipping q b x = some (((x + b) + 3), (nbM (nbM q 20) 1)) := by
  unfold f_X12_slipping
  rw [if_pos v, hk, isU_m, isU1_1, bind_s, if_neg (by decide), m_nb hr.1, bind_s, m_plainSlips (nbM_ran (n := 1) hr (by decide)), bind_s]
theorem m_pf_1 {q : SS} {b : Int32} (v : vin b 50) (hk : q.1 87 b.toNatClampNeg = 1) (hr : okR (q.1 60 54) 3) (x : Int32) : f_X12_plainFolds q b x = some ((((x + b) + 3) * 2), (nbM (nbM (nbM q 10) 20) 1)) := by
  unfold f_X12_plainFolds
  rw [m_nb hr.1, bind_s, m_sl_1 v (by rw [nbM_o]; exact hk) (nbM_ran (n := 2) hr (by decide)), bind_s]
theorem m_bf_1 {q : SS} {b : Int32} (v : vin b 50) (hk : q.1 87 b.toNatClampNeg = 1) (hr : okR (q.1 60 54) 4) (x : Int32) : f_X12_brideFolds q b x = some ((-(((x + b) + 3) * 2)), (nbM (nbM (nbM (nbM q 30) 10) 20) 1)) := by
  unfold f_X12_brideFolds
  rw [m_nb hr.1, bind_s, m_pf_1 v (by rw [nbM_o]; exact hk) (nbM_ran (n := 3) hr (by decide)), bind_s]
theorem m_pr_1 {q : SS} {b : Int32} (v : vin b 50) (hk : q.1 87 b.toNatClampNeg = 1) (hr : okR (q.1 60 54) 1) (x : Int32) : f_X12_proving q b x = some ((x ^^^ b), (nbM q 11)) := by
  unfold f_X12_proving
  rw [if_pos v, hk, if_neg (by decide), if_pos v, if_neg (by decide), m_plainProves hr, bind_s]
theorem m_fo_1 {q : SS} {b : Int32} (v : vin b 50) (hk : q.1 87 b.toNatClampNeg = 1) (hr : okR (q.1 60 54) 3) (x : Int32) : f_X12_folding q b x = some ((((x + b) + 3) * 2), (nbM (nbM (nbM q 10) 20) 1)) := by
  unfold f_X12_folding
  rw [if_pos v, hk, isU_m, isU3_1, bind_s, if_pos rfl, if_pos v, if_neg (by decide), if_pos v, if_neg (by decide), m_pf_1 v hk hr, bind_s]
theorem m_pt_1 {q : SS} {b : Int32} (v : vin b 50) (hk : q.1 87 b.toNatClampNeg = 1) (hr : okR (q.1 60 54) 5) (x : Int32) : f_X12_plainTells q b x = some (((((x + b) + 3) * 2) - (1 ^^^ b)), (nbM (nbM (nbM (nbM (nbM q 2) 10) 20) 1) 11)) := by
  unfold f_X12_plainTells
  have h1 : okR ((nbM q 2).1 60 54) 4 := (nbM_ran (n := 4) hr (by decide))
  have g0 : okR ((nbM (nbM q 2) 10).1 60 54) 3 := nbM_ran (n := 3) h1 (by decide)
  have g1 : okR ((nbM (nbM (nbM q 2) 10) 20).1 60 54) 2 := nbM_ran (n := 2) g0 (by decide)
  have g2 : okR ((nbM (nbM (nbM (nbM q 2) 10) 20) 1).1 60 54) 1 := nbM_ran (n := 1) g1 (by decide)
  rw [m_nb hr.1, bind_s, m_fo_1 v (by rw [nbM_o]; exact hk) ⟨h1.1, by have := h1.2; omega⟩, bind_s]
  dsimp only
  rw [m_pr_1 v (by rw [nbM_o, nbM_o, nbM_o, nbM_o]; exact hk) g2, bind_s]
theorem m_te_1 {q : SS} {b : Int32} (v : vin b 50) (hk : q.1 87 b.toNatClampNeg = 1) (hr : okR (q.1 60 54) 5) (x : Int32) : f_X12_telling q b x = some (((((x + b) + 3) * 2) - (1 ^^^ b)), (nbM (nbM (nbM (nbM (nbM q 2) 10) 20) 1) 11)) := by
  unfold f_X12_telling
  rw [if_pos v, hk, if_neg (by decide), if_pos v, if_neg (by decide), m_pt_1 v hk hr, bind_s]
theorem m_sl_2 {q : SS} {b : Int32} (v : vin b 50) (hk : q.1 87 b.toNatClampNeg = 2) (hr : okR (q.1 60 54) 1) (x : Int32) : f_X12_slipping q b x = some ((x + b), (nbM q 1)) := by
  unfold f_X12_slipping
  rw [if_pos v, hk, isU_m, isU1_2, bind_s, if_pos rfl, if_pos v, if_neg (by decide), if_pos v, if_neg (by decide), m_plainSlips hr, bind_s]
theorem m_pf_2 {q : SS} {b : Int32} (v : vin b 50) (hk : q.1 87 b.toNatClampNeg = 2) (hr : okR (q.1 60 54) 2) (x : Int32) : f_X12_plainFolds q b x = some (((x + b) * 2), (nbM (nbM q 10) 1)) := by
  unfold f_X12_plainFolds
  rw [m_nb hr.1, bind_s, m_sl_2 v (by rw [nbM_o]; exact hk) (nbM_ran (n := 1) hr (by decide)), bind_s]
theorem m_bf_2 {q : SS} {b : Int32} (v : vin b 50) (hk : q.1 87 b.toNatClampNeg = 2) (hr : okR (q.1 60 54) 3) (x : Int32) : f_X12_brideFolds q b x = some ((-((x + b) * 2)), (nbM (nbM (nbM q 30) 10) 1)) := by
  unfold f_X12_brideFolds
  rw [m_nb hr.1, bind_s, m_pf_2 v (by rw [nbM_o]; exact hk) (nbM_ran (n := 2) hr (by decide)), bind_s]
theorem m_pr_2 {q : SS} {b : Int32} (v : vin b 50) (hk : q.1 87 b.toNatClampNeg = 2) (hr : okR (q.1 60 54) 1) (x : Int32) : f_X12_proving q b x = some ((x ^^^ b), (nbM q 11)) := by
  unfold f_X12_proving
  rw [if_pos v, hk, if_neg (by decide), if_pos v, if_neg (by decide), m_plainProves hr, bind_s]
theorem m_fo_2 {q : SS} {b : Int32} (v : vin b 50) (hk : q.1 87 b.toNatClampNeg = 2) (hr : okR (q.1 60 54) 3) (x : Int32) : f_X12_folding q b x = some ((-((x + b) * 2)), (nbM (nbM (nbM q 30) 10) 1)) := by
  unfold f_X12_folding
  rw [if_pos v, hk, isU_m, isU3_2, bind_s, if_pos rfl, if_pos v, if_neg (by decide), if_pos v, if_pos rfl, m_bf_2 v hk hr, bind_s]
theorem m_pt_2 {q : SS} {b : Int32} (v : vin b 50) (hk : q.1 87 b.toNatClampNeg = 2) (hr : okR (q.1 60 54) 5) (x : Int32) : f_X12_plainTells q b x = some (((-((x + b) * 2)) - (1 ^^^ b)), (nbM (nbM (nbM (nbM (nbM q 2) 30) 10) 1) 11)) := by
  unfold f_X12_plainTells
  have h1 : okR ((nbM q 2).1 60 54) 4 := (nbM_ran (n := 4) hr (by decide))
  have g0 : okR ((nbM (nbM q 2) 30).1 60 54) 3 := nbM_ran (n := 3) h1 (by decide)
  have g1 : okR ((nbM (nbM (nbM q 2) 30) 10).1 60 54) 2 := nbM_ran (n := 2) g0 (by decide)
  have g2 : okR ((nbM (nbM (nbM (nbM q 2) 30) 10) 1).1 60 54) 1 := nbM_ran (n := 1) g1 (by decide)
  rw [m_nb hr.1, bind_s, m_fo_2 v (by rw [nbM_o]; exact hk) ⟨h1.1, by have := h1.2; omega⟩, bind_s]
  dsimp only
  rw [m_pr_2 v (by rw [nbM_o, nbM_o, nbM_o, nbM_o]; exact hk) g2, bind_s]
theorem m_te_2 {q : SS} {b : Int32} (v : vin b 50) (hk : q.1 87 b.toNatClampNeg = 2) (hr : okR (q.1 60 54) 5) (x : Int32) : f_X12_telling q b x = some (((-((x + b) * 2)) - (1 ^^^ b)), (nbM (nbM (nbM (nbM (nbM q 2) 30) 10) 1) 11)) := by
  unfold f_X12_telling
  rw [if_pos v, hk, if_neg (by decide), if_pos v, if_neg (by decide), m_pt_2 v hk hr, bind_s]
theorem m_sl_3 {q : SS} {b : Int32} (v : vin b 50) (hk : q.1 87 b.toNatClampNeg = 3) (hr : okR (q.1 60 54) 1) (x : Int32) : f_X12_slipping q b x = some ((x + b), (nbM q 1)) := by
  unfold f_X12_slipping
  rw [if_pos v, hk, isU_m, isU1_3, bind_s, if_pos rfl, if_pos v, if_neg (by decide), if_pos v, if_neg (by decide), m_plainSlips hr, bind_s]
theorem m_pf_3 {q : SS} {b : Int32} (v : vin b 50) (hk : q.1 87 b.toNatClampNeg = 3) (hr : okR (q.1 60 54) 2) (x : Int32) : f_X12_plainFolds q b x = some (((x + b) * 2), (nbM (nbM q 10) 1)) := by
  unfold f_X12_plainFolds
  rw [m_nb hr.1, bind_s, m_sl_3 v (by rw [nbM_o]; exact hk) (nbM_ran (n := 1) hr (by decide)), bind_s]
theorem m_bf_3 {q : SS} {b : Int32} (v : vin b 50) (hk : q.1 87 b.toNatClampNeg = 3) (hr : okR (q.1 60 54) 3) (x : Int32) : f_X12_brideFolds q b x = some ((-((x + b) * 2)), (nbM (nbM (nbM q 30) 10) 1)) := by
  unfold f_X12_brideFolds
  rw [m_nb hr.1, bind_s, m_pf_3 v (by rw [nbM_o]; exact hk) (nbM_ran (n := 2) hr (by decide)), bind_s]
theorem m_pr_3 {q : SS} {b : Int32} (v : vin b 50) (hk : q.1 87 b.toNatClampNeg = 3) (hr : okR (q.1 60 54) 2) (x : Int32) : f_X12_proving q b x = some (((x ^^^ b) * 3), (nbM (nbM q 40) 11)) := by
  unfold f_X12_proving
  rw [if_pos v, hk, if_neg (by decide), if_pos v, if_pos rfl, m_childProves hr, bind_s]
theorem m_fo_3 {q : SS} {b : Int32} (v : vin b 50) (hk : q.1 87 b.toNatClampNeg = 3) (hr : okR (q.1 60 54) 4) (x : Int32) : f_X12_folding q b x = some ((-(((x + 1) + b) * 2)), (nbM (nbM (nbM (nbM q 41) 30) 10) 1)) := by
  unfold f_X12_folding
  rw [if_pos v, hk, isU_m, isU3_3, bind_s, if_neg (by decide), m_nb hr.1, bind_s, m_bf_3 v (by rw [nbM_o]; exact hk) (nbM_ran (n := 3) hr (by decide)), bind_s]
theorem m_pt_3 {q : SS} {b : Int32} (v : vin b 50) (hk : q.1 87 b.toNatClampNeg = 3) (hr : okR (q.1 60 54) 7) (x : Int32) : f_X12_plainTells q b x = some (((-(((x + 1) + b) * 2)) - ((1 ^^^ b) * 3)), (nbM (nbM (nbM (nbM (nbM (nbM (nbM q 2) 41) 30) 10) 1) 40) 11)) := by
  unfold f_X12_plainTells
  have h1 : okR ((nbM q 2).1 60 54) 6 := (nbM_ran (n := 6) hr (by decide))
  have g0 : okR ((nbM (nbM q 2) 41).1 60 54) 5 := nbM_ran (n := 5) h1 (by decide)
  have g1 : okR ((nbM (nbM (nbM q 2) 41) 30).1 60 54) 4 := nbM_ran (n := 4) g0 (by decide)
  have g2 : okR ((nbM (nbM (nbM (nbM q 2) 41) 30) 10).1 60 54) 3 := nbM_ran (n := 3) g1 (by decide)
  have g3 : okR ((nbM (nbM (nbM (nbM (nbM q 2) 41) 30) 10) 1).1 60 54) 2 := nbM_ran (n := 2) g2 (by decide)
  rw [m_nb hr.1, bind_s, m_fo_3 v (by rw [nbM_o]; exact hk) ⟨h1.1, by have := h1.2; omega⟩, bind_s]
  dsimp only
  rw [m_pr_3 v (by rw [nbM_o, nbM_o, nbM_o, nbM_o, nbM_o]; exact hk) g3, bind_s]
theorem m_te_3 {q : SS} {b : Int32} (v : vin b 50) (hk : q.1 87 b.toNatClampNeg = 3) (hr : okR (q.1 60 54) 7) (x : Int32) : f_X12_telling q b x = some (((-(((x + 1) + b) * 2)) - ((1 ^^^ b) * 3)), (nbM (nbM (nbM (nbM (nbM (nbM (nbM q 2) 41) 30) 10) 1) 40) 11)) := by
  unfold f_X12_telling
  rw [if_pos v, hk, if_neg (by decide), if_pos v, if_neg (by decide), m_pt_3 v hk hr, bind_s]
theorem m_sl_4 {q : SS} {b : Int32} (v : vin b 50) (hk : q.1 87 b.toNatClampNeg = 4) (hr : okR (q.1 60 54) 2) (x : Int32) : f_X12_slipping q b x = some (((x + b) + 3), (nbM (nbM q 20) 1)) := by
  unfold f_X12_slipping
  rw [if_pos v, hk, isU_m, isU1_4, bind_s, if_neg (by decide), m_nb hr.1, bind_s, m_plainSlips (nbM_ran (n := 1) hr (by decide)), bind_s]
theorem m_pf_4 {q : SS} {b : Int32} (v : vin b 50) (hk : q.1 87 b.toNatClampNeg = 4) (hr : okR (q.1 60 54) 3) (x : Int32) : f_X12_plainFolds q b x = some ((((x + b) + 3) * 2), (nbM (nbM (nbM q 10) 20) 1)) := by
  unfold f_X12_plainFolds
  rw [m_nb hr.1, bind_s, m_sl_4 v (by rw [nbM_o]; exact hk) (nbM_ran (n := 2) hr (by decide)), bind_s]
theorem m_bf_4 {q : SS} {b : Int32} (v : vin b 50) (hk : q.1 87 b.toNatClampNeg = 4) (hr : okR (q.1 60 54) 4) (x : Int32) : f_X12_brideFolds q b x = some ((-(((x + b) + 3) * 2)), (nbM (nbM (nbM (nbM q 30) 10) 20) 1)) := by
  unfold f_X12_brideFolds
  rw [m_nb hr.1, bind_s, m_pf_4 v (by rw [nbM_o]; exact hk) (nbM_ran (n := 3) hr (by decide)), bind_s]
theorem m_pr_4 {q : SS} {b : Int32} (v : vin b 50) (hk : q.1 87 b.toNatClampNeg = 4) (hr : okR (q.1 60 54) 1) (x : Int32) : f_X12_proving q b x = some ((x ^^^ b), (nbM q 11)) := by
  unfold f_X12_proving
  rw [if_pos v, hk, if_neg (by decide), if_pos v, if_neg (by decide), m_plainProves hr, bind_s]
theorem m_fo_4 {q : SS} {b : Int32} (v : vin b 50) (hk : q.1 87 b.toNatClampNeg = 4) (hr : okR (q.1 60 54) 3) (x : Int32) : f_X12_folding q b x = some ((((x + b) + 3) * 2), (nbM (nbM (nbM q 10) 20) 1)) := by
  unfold f_X12_folding
  rw [if_pos v, hk, isU_m, isU3_4, bind_s, if_pos rfl, if_pos v, if_neg (by decide), if_pos v, if_neg (by decide), m_pf_4 v hk hr, bind_s]
theorem m_pt_4 {q : SS} {b : Int32} (v : vin b 50) (hk : q.1 87 b.toNatClampNeg = 4) (hr : okR (q.1 60 54) 5) (x : Int32) : f_X12_plainTells q b x = some (((((x + b) + 3) * 2) - (1 ^^^ b)), (nbM (nbM (nbM (nbM (nbM q 2) 10) 20) 1) 11)) := by
  unfold f_X12_plainTells
  have h1 : okR ((nbM q 2).1 60 54) 4 := (nbM_ran (n := 4) hr (by decide))
  have g0 : okR ((nbM (nbM q 2) 10).1 60 54) 3 := nbM_ran (n := 3) h1 (by decide)
  have g1 : okR ((nbM (nbM (nbM q 2) 10) 20).1 60 54) 2 := nbM_ran (n := 2) g0 (by decide)
  have g2 : okR ((nbM (nbM (nbM (nbM q 2) 10) 20) 1).1 60 54) 1 := nbM_ran (n := 1) g1 (by decide)
  rw [m_nb hr.1, bind_s, m_fo_4 v (by rw [nbM_o]; exact hk) ⟨h1.1, by have := h1.2; omega⟩, bind_s]
  dsimp only
  rw [m_pr_4 v (by rw [nbM_o, nbM_o, nbM_o, nbM_o]; exact hk) g2, bind_s]
theorem m_te_4 {q : SS} {b : Int32} (v : vin b 50) (hk : q.1 87 b.toNatClampNeg = 4) (hr : okR (q.1 60 54) 6) (x : Int32) : f_X12_telling q b x = some ((((((x + b) + 3) * 2) - (1 ^^^ b)) ^^^ 5), (nbM (nbM (nbM (nbM (nbM (nbM q 50) 2) 10) 20) 1) 11)) := by
  unfold f_X12_telling
  rw [if_pos v, hk, if_pos rfl, m_nb hr.1, bind_s, m_pt_4 v (by rw [nbM_o]; exact hk) (nbM_ran (n := 5) hr (by decide)), bind_s]
theorem m_sl_5 {q : SS} {b : Int32} (v : vin b 50) (hk : q.1 87 b.toNatClampNeg = 5) (hr : okR (q.1 60 54) 1) (x : Int32) : f_X12_slipping q b x = some ((x + b), (nbM q 1)) := by
  unfold f_X12_slipping
  rw [if_pos v, hk, isU_m, isU1_5, bind_s, if_pos rfl, if_pos v, if_neg (by decide), if_pos v, if_neg (by decide), m_plainSlips hr, bind_s]
theorem m_pf_5 {q : SS} {b : Int32} (v : vin b 50) (hk : q.1 87 b.toNatClampNeg = 5) (hr : okR (q.1 60 54) 2) (x : Int32) : f_X12_plainFolds q b x = some (((x + b) * 2), (nbM (nbM q 10) 1)) := by
  unfold f_X12_plainFolds
  rw [m_nb hr.1, bind_s, m_sl_5 v (by rw [nbM_o]; exact hk) (nbM_ran (n := 1) hr (by decide)), bind_s]
theorem m_bf_5 {q : SS} {b : Int32} (v : vin b 50) (hk : q.1 87 b.toNatClampNeg = 5) (hr : okR (q.1 60 54) 3) (x : Int32) : f_X12_brideFolds q b x = some ((-((x + b) * 2)), (nbM (nbM (nbM q 30) 10) 1)) := by
  unfold f_X12_brideFolds
  rw [m_nb hr.1, bind_s, m_pf_5 v (by rw [nbM_o]; exact hk) (nbM_ran (n := 2) hr (by decide)), bind_s]
theorem m_pr_5 {q : SS} {b : Int32} (v : vin b 50) (hk : q.1 87 b.toNatClampNeg = 5) (hr : okR (q.1 60 54) 4) (x : Int32) : f_X12_proving q b x = some ((((x ^^^ b) * 3) - (2 + b)), (nbM (nbM (nbM (nbM q 60) 40) 11) 1)) := by
  unfold f_X12_proving
  rw [if_pos v, hk, if_pos rfl, m_nb hr.1, bind_s, m_childProves ⟨(nbM_ran (n := 3) hr (by decide)).1, by have := (nbM_ran (v := 60) (n := 3) hr (by decide)).2; omega⟩, bind_s, m_sl_5 (q := (nbM (nbM (nbM q 60) 40) 11)) v (by rw [nbM_o, nbM_o, nbM_o]; exact hk) (nbM_ran (n := 1) (nbM_ran (n := 2) (nbM_ran (n := 3) hr (by decide)) (by decide)) (by decide)), bind_s]
theorem m_fo_5 {q : SS} {b : Int32} (v : vin b 50) (hk : q.1 87 b.toNatClampNeg = 5) (hr : okR (q.1 60 54) 4) (x : Int32) : f_X12_folding q b x = some ((-(((x + 1) + b) * 2)), (nbM (nbM (nbM (nbM q 41) 30) 10) 1)) := by
  unfold f_X12_folding
  rw [if_pos v, hk, isU_m, isU3_5, bind_s, if_neg (by decide), m_nb hr.1, bind_s, m_bf_5 v (by rw [nbM_o]; exact hk) (nbM_ran (n := 3) hr (by decide)), bind_s]
theorem m_pt_5 {q : SS} {b : Int32} (v : vin b 50) (hk : q.1 87 b.toNatClampNeg = 5) (hr : okR (q.1 60 54) 9) (x : Int32) : f_X12_plainTells q b x = some (((-(((x + 1) + b) * 2)) - (((1 ^^^ b) * 3) - (2 + b))), (nbM (nbM (nbM (nbM (nbM (nbM (nbM (nbM (nbM q 2) 41) 30) 10) 1) 60) 40) 11) 1)) := by
  unfold f_X12_plainTells
  have h1 : okR ((nbM q 2).1 60 54) 8 := (nbM_ran (n := 8) hr (by decide))
  have g0 : okR ((nbM (nbM q 2) 41).1 60 54) 7 := nbM_ran (n := 7) h1 (by decide)
  have g1 : okR ((nbM (nbM (nbM q 2) 41) 30).1 60 54) 6 := nbM_ran (n := 6) g0 (by decide)
  have g2 : okR ((nbM (nbM (nbM (nbM q 2) 41) 30) 10).1 60 54) 5 := nbM_ran (n := 5) g1 (by decide)
  have g3 : okR ((nbM (nbM (nbM (nbM (nbM q 2) 41) 30) 10) 1).1 60 54) 4 := nbM_ran (n := 4) g2 (by decide)
  rw [m_nb hr.1, bind_s, m_fo_5 v (by rw [nbM_o]; exact hk) ⟨h1.1, by have := h1.2; omega⟩, bind_s]
  dsimp only
  rw [m_pr_5 v (by rw [nbM_o, nbM_o, nbM_o, nbM_o, nbM_o]; exact hk) g3, bind_s]
theorem m_te_5 {q : SS} {b : Int32} (v : vin b 50) (hk : q.1 87 b.toNatClampNeg = 5) (hr : okR (q.1 60 54) 10) (x : Int32) : f_X12_telling q b x = some ((((-(((x + 1) + b) * 2)) - (((1 ^^^ b) * 3) - (2 + b))) + 1), (nbM (nbM (nbM (nbM (nbM (nbM (nbM (nbM (nbM (nbM q 61) 2) 41) 30) 10) 1) 60) 40) 11) 1)) := by
  unfold f_X12_telling
  rw [if_pos v, hk, if_neg (by decide), if_pos v, if_pos rfl, m_nb hr.1, bind_s, m_pt_5 v (by rw [nbM_o]; exact hk) (nbM_ran (n := 9) hr (by decide)), bind_s]
theorem m_sl_6 {q : SS} {b : Int32} (v : vin b 50) (hk : q.1 87 b.toNatClampNeg = 6) (hr : okR (q.1 60 54) 2) (x : Int32) : f_X12_slipping q b x = some (((x + b) * 2), (nbM (nbM q 70) 1)) := by
  unfold f_X12_slipping
  rw [if_pos v, hk, isU_m, isU1_6, bind_s, if_pos rfl, if_pos v, if_neg (by decide), if_pos v, if_pos rfl, m_wiseSlips hr, bind_s]
theorem m_pf_6 {q : SS} {b : Int32} (v : vin b 50) (hk : q.1 87 b.toNatClampNeg = 6) (hr : okR (q.1 60 54) 3) (x : Int32) : f_X12_plainFolds q b x = some ((((x + b) * 2) * 2), (nbM (nbM (nbM q 10) 70) 1)) := by
  unfold f_X12_plainFolds
  rw [m_nb hr.1, bind_s, m_sl_6 v (by rw [nbM_o]; exact hk) (nbM_ran (n := 2) hr (by decide)), bind_s]
theorem m_bf_6 {q : SS} {b : Int32} (v : vin b 50) (hk : q.1 87 b.toNatClampNeg = 6) (hr : okR (q.1 60 54) 4) (x : Int32) : f_X12_brideFolds q b x = some ((-(((x + b) * 2) * 2)), (nbM (nbM (nbM (nbM q 30) 10) 70) 1)) := by
  unfold f_X12_brideFolds
  rw [m_nb hr.1, bind_s, m_pf_6 v (by rw [nbM_o]; exact hk) (nbM_ran (n := 3) hr (by decide)), bind_s]
theorem m_pr_6 {q : SS} {b : Int32} (v : vin b 50) (hk : q.1 87 b.toNatClampNeg = 6) (hr : okR (q.1 60 54) 1) (x : Int32) : f_X12_proving q b x = some ((x ^^^ b), (nbM q 11)) := by
  unfold f_X12_proving
  rw [if_pos v, hk, if_neg (by decide), if_pos v, if_neg (by decide), m_plainProves hr, bind_s]
theorem m_fo_6 {q : SS} {b : Int32} (v : vin b 50) (hk : q.1 87 b.toNatClampNeg = 6) (hr : okR (q.1 60 54) 3) (x : Int32) : f_X12_folding q b x = some ((((x + b) * 2) * 2), (nbM (nbM (nbM q 10) 70) 1)) := by
  unfold f_X12_folding
  rw [if_pos v, hk, isU_m, isU3_6, bind_s, if_pos rfl, if_pos v, if_neg (by decide), if_pos v, if_neg (by decide), m_pf_6 v hk hr, bind_s]
theorem m_pt_6 {q : SS} {b : Int32} (v : vin b 50) (hk : q.1 87 b.toNatClampNeg = 6) (hr : okR (q.1 60 54) 5) (x : Int32) : f_X12_plainTells q b x = some (((((x + b) * 2) * 2) - (1 ^^^ b)), (nbM (nbM (nbM (nbM (nbM q 2) 10) 70) 1) 11)) := by
  unfold f_X12_plainTells
  have h1 : okR ((nbM q 2).1 60 54) 4 := (nbM_ran (n := 4) hr (by decide))
  have g0 : okR ((nbM (nbM q 2) 10).1 60 54) 3 := nbM_ran (n := 3) h1 (by decide)
  have g1 : okR ((nbM (nbM (nbM q 2) 10) 70).1 60 54) 2 := nbM_ran (n := 2) g0 (by decide)
  have g2 : okR ((nbM (nbM (nbM (nbM q 2) 10) 70) 1).1 60 54) 1 := nbM_ran (n := 1) g1 (by decide)
  rw [m_nb hr.1, bind_s, m_fo_6 v (by rw [nbM_o]; exact hk) ⟨h1.1, by have := h1.2; omega⟩, bind_s]
  dsimp only
  rw [m_pr_6 v (by rw [nbM_o, nbM_o, nbM_o, nbM_o]; exact hk) g2, bind_s]
theorem m_te_6 {q : SS} {b : Int32} (v : vin b 50) (hk : q.1 87 b.toNatClampNeg = 6) (hr : okR (q.1 60 54) 5) (x : Int32) : f_X12_telling q b x = some (((((x + b) * 2) * 2) - (1 ^^^ b)), (nbM (nbM (nbM (nbM (nbM q 2) 10) 70) 1) 11)) := by
  unfold f_X12_telling
  rw [if_pos v, hk, if_neg (by decide), if_pos v, if_neg (by decide), m_pt_6 v hk hr, bind_s]
theorem m_sl_7 {q : SS} {b : Int32} (v : vin b 50) (hk : q.1 87 b.toNatClampNeg = 7) (hr : okR (q.1 60 54) 3) (x : Int32) : f_X12_slipping q b x = some ((((x + b) * 2) - 1), (nbM (nbM (nbM q 81) 70) 1)) := by
  unfold f_X12_slipping
  rw [if_pos v, hk, isU_m, isU1_7, bind_s, if_pos rfl, if_pos v, if_pos rfl, m_nb hr.1, bind_s, m_wiseSlips (nbM_ran (n := 2) hr (by decide)), bind_s]
theorem m_pf_7 {q : SS} {b : Int32} (v : vin b 50) (hk : q.1 87 b.toNatClampNeg = 7) (hr : okR (q.1 60 54) 4) (x : Int32) : f_X12_plainFolds q b x = some (((((x + b) * 2) - 1) * 2), (nbM (nbM (nbM (nbM q 10) 81) 70) 1)) := by
  unfold f_X12_plainFolds
  rw [m_nb hr.1, bind_s, m_sl_7 v (by rw [nbM_o]; exact hk) (nbM_ran (n := 3) hr (by decide)), bind_s]
theorem m_bf_7 {q : SS} {b : Int32} (v : vin b 50) (hk : q.1 87 b.toNatClampNeg = 7) (hr : okR (q.1 60 54) 5) (x : Int32) : f_X12_brideFolds q b x = some ((-((((x + b) * 2) - 1) * 2)), (nbM (nbM (nbM (nbM (nbM q 30) 10) 81) 70) 1)) := by
  unfold f_X12_brideFolds
  rw [m_nb hr.1, bind_s, m_pf_7 v (by rw [nbM_o]; exact hk) (nbM_ran (n := 4) hr (by decide)), bind_s]
theorem m_pr_7 {q : SS} {b : Int32} (v : vin b 50) (hk : q.1 87 b.toNatClampNeg = 7) (hr : okR (q.1 60 54) 1) (x : Int32) : f_X12_proving q b x = some ((x ^^^ b), (nbM q 11)) := by
  unfold f_X12_proving
  rw [if_pos v, hk, if_neg (by decide), if_pos v, if_neg (by decide), m_plainProves hr, bind_s]
theorem m_fo_7 {q : SS} {b : Int32} (v : vin b 50) (hk : q.1 87 b.toNatClampNeg = 7) (hr : okR (q.1 60 54) 6) (x : Int32) : f_X12_folding q b x = some ((((((x + b) * 2) - 1) * 2) + (2 ^^^ b)), (nbM (nbM (nbM (nbM (nbM (nbM q 80) 10) 81) 70) 1) 11)) := by
  unfold f_X12_folding
  rw [if_pos v, hk, isU_m, isU3_7, bind_s, if_pos rfl, if_pos v, if_pos rfl, m_nb hr.1, bind_s, m_pf_7 v (by rw [nbM_o]; exact hk) ⟨(nbM_ran (n := 5) hr (by decide)).1, by have := (nbM_ran (v := 80) (n := 5) hr (by decide)).2; omega⟩, bind_s]
  dsimp only
  rw [m_pr_7 v (by rw [nbM_o, nbM_o, nbM_o, nbM_o, nbM_o]; exact hk) (nbM_ran (n := 1) (nbM_ran (n := 2) (nbM_ran (n := 3) (nbM_ran (n := 4) (nbM_ran (n := 5) hr (by decide)) (by decide)) (by decide)) (by decide)) (by decide)), bind_s]
theorem m_pt_7 {q : SS} {b : Int32} (v : vin b 50) (hk : q.1 87 b.toNatClampNeg = 7) (hr : okR (q.1 60 54) 8) (x : Int32) : f_X12_plainTells q b x = some (((((((x + b) * 2) - 1) * 2) + (2 ^^^ b)) - (1 ^^^ b)), (nbM (nbM (nbM (nbM (nbM (nbM (nbM (nbM q 2) 80) 10) 81) 70) 1) 11) 11)) := by
  unfold f_X12_plainTells
  have h1 : okR ((nbM q 2).1 60 54) 7 := (nbM_ran (n := 7) hr (by decide))
  have g0 : okR ((nbM (nbM q 2) 80).1 60 54) 6 := nbM_ran (n := 6) h1 (by decide)
  have g1 : okR ((nbM (nbM (nbM q 2) 80) 10).1 60 54) 5 := nbM_ran (n := 5) g0 (by decide)
  have g2 : okR ((nbM (nbM (nbM (nbM q 2) 80) 10) 81).1 60 54) 4 := nbM_ran (n := 4) g1 (by decide)
  have g3 : okR ((nbM (nbM (nbM (nbM (nbM q 2) 80) 10) 81) 70).1 60 54) 3 := nbM_ran (n := 3) g2 (by decide)
  have g4 : okR ((nbM (nbM (nbM (nbM (nbM (nbM q 2) 80) 10) 81) 70) 1).1 60 54) 2 := nbM_ran (n := 2) g3 (by decide)
  have g5 : okR ((nbM (nbM (nbM (nbM (nbM (nbM (nbM q 2) 80) 10) 81) 70) 1) 11).1 60 54) 1 := nbM_ran (n := 1) g4 (by decide)
  rw [m_nb hr.1, bind_s, m_fo_7 v (by rw [nbM_o]; exact hk) ⟨h1.1, by have := h1.2; omega⟩, bind_s]
  dsimp only
  rw [m_pr_7 v (by rw [nbM_o, nbM_o, nbM_o, nbM_o, nbM_o, nbM_o, nbM_o]; exact hk) g5, bind_s]
theorem m_te_7 {q : SS} {b : Int32} (v : vin b 50) (hk : q.1 87 b.toNatClampNeg = 7) (hr : okR (q.1 60 54) 8) (x : Int32) : f_X12_telling q b x = some (((((((x + b) * 2) - 1) * 2) + (2 ^^^ b)) - (1 ^^^ b)), (nbM (nbM (nbM (nbM (nbM (nbM (nbM (nbM q 2) 80) 10) 81) 70) 1) 11) 11)) := by
  unfold f_X12_telling
  rw [if_pos v, hk, if_neg (by decide), if_pos v, if_neg (by decide), m_pt_7 v hk hr, bind_s]

theorem gv {q : SS} (h : RY q) {w n : Int32} (hn : okN (q.1 60 1).toInt (q.1 60 6).toInt w.toInt n.toInt) : ∃ v : Int32, f_X10_get q w n = some v ∧ f_X12_valueAt q w n = some v ∧ okV (q.1 60 1).toInt w.toInt v.toInt := by
  have h0 : 0 ≤ w.toInt := by omega
  have h8 : w.toInt ≤ 8 := by omega
  have p6 := RY_p6 h
  have k12 := RY_k12 h
  have ep := RY_p h
  have ek := RY_k h
  rcases w08 h0 h8 with rfl | rfl | rfl | rfl | rfl | rfl | rfl | rfl | rfl
  · have z : (0 : Int32).toInt = 0 := rfl
    have b0 : 0 ≤ n.toInt := by omega
    have b1 : n.toInt < (q.1 60 1).toInt := by omega
    have v1 : vin n 6 := ⟨b0, by show n.toInt < 6; omega⟩
    have r := RY_rwary h n.toNatClampNeg (by rw [cnI b0]; exact b1)
    have e : q.1 3 n.toNatClampNeg = q.1 61 n.toNatClampNeg := congrFun (RY_wary h) _
    refine ⟨q.1 61 n.toNatClampNeg, ?_, ?_, ?_⟩
    · rw [x_get0 (by rw [ep]; exact p6), if_pos (by rw [ep]; exact ⟨b0, b1⟩), e]
    · exact if_pos v1
    · unfold okV
      simp only [Int32.reduceToInt]
      omega
  · have z : (1 : Int32).toInt = 1 := rfl
    have b0 : 0 ≤ n.toInt := by omega
    have b1 : n.toInt < (q.1 60 1).toInt := by omega
    have v1 : vin n 6 := ⟨b0, by show n.toInt < 6; omega⟩
    have r := RY_rchild h n.toNatClampNeg (by rw [cnI b0]; exact b1)
    have e : q.1 4 n.toNatClampNeg = q.1 62 n.toNatClampNeg := congrFun (RY_child h) _
    refine ⟨q.1 62 n.toNatClampNeg, ?_, ?_, ?_⟩
    · rw [x_get1 (by rw [ep]; exact p6), if_pos (by rw [ep]; exact ⟨b0, b1⟩), e]
    · exact if_pos v1
    · unfold okV
      simp only [Int32.reduceToInt]
      omega
  · have z : (2 : Int32).toInt = 2 := rfl
    have b0 : 0 ≤ n.toInt := by omega
    have b1 : n.toInt < (q.1 60 1).toInt := by omega
    have v1 : vin n 6 := ⟨b0, by show n.toInt < 6; omega⟩
    have r := RY_rprice h n.toNatClampNeg (by rw [cnI b0]; exact b1)
    have e : q.1 5 n.toNatClampNeg = q.1 63 n.toNatClampNeg := RY_price h _ (by rw [cnI b0]; exact b1)
    refine ⟨q.1 63 n.toNatClampNeg, ?_, ?_, ?_⟩
    · rw [x_get2 (by rw [ep]; exact p6), if_pos (by rw [ep]; exact ⟨b0, b1⟩), e]
    · exact if_pos v1
    · unfold okV
      simp only [Int32.reduceToInt]
      omega
  · have z : (3 : Int32).toInt = 3 := rfl
    have b0 : 0 ≤ n.toInt := by omega
    have b1 : n.toInt < (q.1 60 1).toInt := by omega
    have v1 : vin n 6 := ⟨b0, by show n.toInt < 6; omega⟩
    have r := RY_rtakes h n.toNatClampNeg (by rw [cnI b0]; exact b1)
    have e : q.1 6 n.toNatClampNeg = q.1 64 n.toNatClampNeg := congrFun (RY_takes h) _
    refine ⟨q.1 64 n.toNatClampNeg, ?_, ?_, ?_⟩
    · rw [x_get3 (by rw [ep]; exact p6), if_pos (by rw [ep]; exact ⟨b0, b1⟩), e]
    · exact if_pos v1
    · unfold okV
      simp only [Int32.reduceToInt]
      omega
  · have z : (4 : Int32).toInt = 4 := rfl
    have b0 : 0 ≤ n.toInt := by omega
    have b1 : n.toInt < (q.1 60 6).toInt := by omega
    have v1 : vin n 12 := ⟨b0, by show n.toInt < 12; omega⟩
    have r := RY_rholder h n.toNatClampNeg (by rw [cnI b0]; exact b1)
    have e : q.1 7 n.toNatClampNeg = q.1 65 n.toNatClampNeg := congrFun (RY_holder h) _
    refine ⟨q.1 65 n.toNatClampNeg, ?_, ?_, ?_⟩
    · rw [x_get4 (by rw [ek]; exact k12), if_pos (by rw [ek]; exact ⟨b0, b1⟩), e]
    · exact if_pos v1
    · unfold okV
      simp only [Int32.reduceToInt]
      omega
  · have z : (5 : Int32).toInt = 5 := rfl
    have b0 : 0 ≤ n.toInt := by omega
    have b1 : n.toInt < (q.1 60 6).toInt := by omega
    have v1 : vin n 12 := ⟨b0, by show n.toInt < 12; omega⟩
    have r := RY_rforged h n.toNatClampNeg (by rw [cnI b0]; exact b1)
    have e : q.1 8 n.toNatClampNeg = q.1 66 n.toNatClampNeg := congrFun (RY_forged h) _
    refine ⟨q.1 66 n.toNatClampNeg, ?_, ?_, ?_⟩
    · rw [x_get5 (by rw [ek]; exact k12), if_pos (by rw [ek]; exact ⟨b0, b1⟩), e]
    · exact if_pos v1
    · unfold okV
      simp only [Int32.reduceToInt]
      omega
  · have z : (6 : Int32).toInt = 6 := rfl
    have b0 : 0 ≤ n.toInt := by omega
    have b1 : n.toInt < (q.1 60 6).toInt := by omega
    have v1 : vin n 12 := ⟨b0, by show n.toInt < 12; omega⟩
    have r := RY_rfolds h n.toNatClampNeg (by rw [cnI b0]; exact b1)
    have e : q.1 9 n.toNatClampNeg = q.1 67 n.toNatClampNeg := congrFun (RY_folds h) _
    refine ⟨q.1 67 n.toNatClampNeg, ?_, ?_, ?_⟩
    · rw [x_get6 (by rw [ek]; exact k12), if_pos (by rw [ek]; exact ⟨b0, b1⟩), e]
    · exact if_pos v1
    · unfold okV
      simp only [Int32.reduceToInt]
      omega
  · have z : (7 : Int32).toInt = 7 := rfl
    have e : n = 0 := eq0.mpr (by omega)
    subst e
    have r0 := RY_h0 h
    have r1 := RY_h11 h
    refine ⟨q.1 68 0, ?_, rfl, ?_⟩
    · rw [x_get70, RY_hour h]
    · unfold okV
      simp only [Int32.reduceToInt]
      omega
  · have z : (8 : Int32).toInt = 8 := rfl
    have e : n = 0 := eq0.mpr (by omega)
    subst e
    have r0 := RY_s0 h
    have r1 := RY_s9 h
    refine ⟨q.1 68 1, ?_, rfl, ?_⟩
    · rw [x_get80, RY_seen h]
    · unfold okV
      simp only [Int32.reduceToInt]
      omega

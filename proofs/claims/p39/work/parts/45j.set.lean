/-! ===== one number becomes another, on both sides ===== -/
theorem RY_set0 {q : SS} (h : RY q) {n : Nat} {v : Int32} (hn : (n : Int) < (q.1 60 1).toInt) (h0 : 0 ≤ v.toInt) (h1 : (v.toInt ≤ 12)) : RY (sI (sI q 3 n v) 61 n v) := by
  have p6 := RY_p6 h
  unfold RY
  refine ⟨?_, ?_, ?_, ?_, ?_, ?_, ?_, ?_, ?_, ?_, ?_, ?_, ?_, ?_, ?_, ?_, ?_, ?_, ?_, ?_, ?_, ?_, ?_, ?_, ?_, ?_, ?_, ?_, ?_⟩
  · have a := RY_p0 h; exact a
  · have a := RY_p6 h; exact a
  · have a := RY_k0 h; exact a
  · have a := RY_k12 h; exact a
  · have a := RY_p h; exact a
  · have a := RY_k h; exact a
  · have a := RY_wary h; funext j; have a := congrFun a j; simp [sI_rd] <;> grind
  · have a := RY_child h; exact a
  · have a := RY_takes h; exact a
  · have a := RY_holder h; exact a
  · have a := RY_forged h; exact a
  · have a := RY_folds h; exact a
  · have a := RY_hour h; exact a
  · have a := RY_seen h; exact a
  · have a := RY_price h; exact a
  · have a := RY_price10 h; exact a
  · have a := RY_child0 h; exact a
  · have a := RY_takes0 h; exact a
  · have a := RY_rwary h; intro i hi; simp [sI_rd] at hi ⊢ <;> (try split) <;> grind
  · have a := RY_rchild h; exact a
  · have a := RY_rprice h; exact a
  · have a := RY_rtakes h; exact a
  · have a := RY_rholder h; exact a
  · have a := RY_rforged h; exact a
  · have a := RY_rfolds h; exact a
  · have a := RY_h0 h; exact a
  · have a := RY_h11 h; exact a
  · have a := RY_s0 h; exact a
  · have a := RY_s9 h; exact a
theorem RY_set1 {q : SS} (h : RY q) {n : Nat} {v : Int32} (hn : (n : Int) < (q.1 60 1).toInt) (h0 : 0 ≤ v.toInt) (h1 : (v.toInt ≤ 1)) : RY (sI (sI q 4 n v) 62 n v) := by
  have p6 := RY_p6 h
  unfold RY
  refine ⟨?_, ?_, ?_, ?_, ?_, ?_, ?_, ?_, ?_, ?_, ?_, ?_, ?_, ?_, ?_, ?_, ?_, ?_, ?_, ?_, ?_, ?_, ?_, ?_, ?_, ?_, ?_, ?_, ?_⟩
  · have a := RY_p0 h; exact a
  · have a := RY_p6 h; exact a
  · have a := RY_k0 h; exact a
  · have a := RY_k12 h; exact a
  · have a := RY_p h; exact a
  · have a := RY_k h; exact a
  · have a := RY_wary h; exact a
  · have a := RY_child h; funext j; have a := congrFun a j; simp [sI_rd] <;> grind
  · have a := RY_takes h; exact a
  · have a := RY_holder h; exact a
  · have a := RY_forged h; exact a
  · have a := RY_folds h; exact a
  · have a := RY_hour h; exact a
  · have a := RY_seen h; exact a
  · have a := RY_price h; exact a
  · have a := RY_price10 h; exact a
  · have a := RY_child0 h; intro i hi; simp [sI_rd] at hi ⊢ <;> (try split) <;> grind
  · have a := RY_takes0 h; exact a
  · have a := RY_rwary h; exact a
  · have a := RY_rchild h; intro i hi; simp [sI_rd] at hi ⊢ <;> (try split) <;> grind
  · have a := RY_rprice h; exact a
  · have a := RY_rtakes h; exact a
  · have a := RY_rholder h; exact a
  · have a := RY_rforged h; exact a
  · have a := RY_rfolds h; exact a
  · have a := RY_h0 h; exact a
  · have a := RY_h11 h; exact a
  · have a := RY_s0 h; exact a
  · have a := RY_s9 h; exact a
theorem RY_set2 {q : SS} (h : RY q) {n : Nat} {v : Int32} (hn : (n : Int) < (q.1 60 1).toInt) (h0 : 0 ≤ v.toInt) (h1 : (v.toInt ≤ 99)) : RY (sI (sI q 5 n v) 63 n v) := by
  have p6 := RY_p6 h
  unfold RY
  refine ⟨?_, ?_, ?_, ?_, ?_, ?_, ?_, ?_, ?_, ?_, ?_, ?_, ?_, ?_, ?_, ?_, ?_, ?_, ?_, ?_, ?_, ?_, ?_, ?_, ?_, ?_, ?_, ?_, ?_⟩
  · have a := RY_p0 h; exact a
  · have a := RY_p6 h; exact a
  · have a := RY_k0 h; exact a
  · have a := RY_k12 h; exact a
  · have a := RY_p h; exact a
  · have a := RY_k h; exact a
  · have a := RY_wary h; exact a
  · have a := RY_child h; exact a
  · have a := RY_takes h; exact a
  · have a := RY_holder h; exact a
  · have a := RY_forged h; exact a
  · have a := RY_folds h; exact a
  · have a := RY_hour h; exact a
  · have a := RY_seen h; exact a
  · have a := RY_price h; intro i hi; simp [sI_rd] at hi ⊢ <;> (try split) <;> grind
  · have a := RY_price10 h; intro i hi hj; simp [sI_rd] at hi ⊢ <;> (try split) <;> grind
  · have a := RY_child0 h; exact a
  · have a := RY_takes0 h; exact a
  · have a := RY_rwary h; exact a
  · have a := RY_rchild h; exact a
  · have a := RY_rprice h; intro i hi; simp [sI_rd] at hi ⊢ <;> (try split) <;> grind
  · have a := RY_rtakes h; exact a
  · have a := RY_rholder h; exact a
  · have a := RY_rforged h; exact a
  · have a := RY_rfolds h; exact a
  · have a := RY_h0 h; exact a
  · have a := RY_h11 h; exact a
  · have a := RY_s0 h; exact a
  · have a := RY_s9 h; exact a
theorem RY_set3 {q : SS} (h : RY q) {n : Nat} {v : Int32} (hn : (n : Int) < (q.1 60 1).toInt) (h0 : 0 ≤ v.toInt) (h1 : (v.toInt ≤ 9)) : RY (sI (sI q 6 n v) 64 n v) := by
  have p6 := RY_p6 h
  unfold RY
  refine ⟨?_, ?_, ?_, ?_, ?_, ?_, ?_, ?_, ?_, ?_, ?_, ?_, ?_, ?_, ?_, ?_, ?_, ?_, ?_, ?_, ?_, ?_, ?_, ?_, ?_, ?_, ?_, ?_, ?_⟩
  · have a := RY_p0 h; exact a
  · have a := RY_p6 h; exact a
  · have a := RY_k0 h; exact a
  · have a := RY_k12 h; exact a
  · have a := RY_p h; exact a
  · have a := RY_k h; exact a
  · have a := RY_wary h; exact a
  · have a := RY_child h; exact a
  · have a := RY_takes h; funext j; have a := congrFun a j; simp [sI_rd] <;> grind
  · have a := RY_holder h; exact a
  · have a := RY_forged h; exact a
  · have a := RY_folds h; exact a
  · have a := RY_hour h; exact a
  · have a := RY_seen h; exact a
  · have a := RY_price h; exact a
  · have a := RY_price10 h; exact a
  · have a := RY_child0 h; exact a
  · have a := RY_takes0 h; intro i hi; simp [sI_rd] at hi ⊢ <;> (try split) <;> grind
  · have a := RY_rwary h; exact a
  · have a := RY_rchild h; exact a
  · have a := RY_rprice h; exact a
  · have a := RY_rtakes h; intro i hi; simp [sI_rd] at hi ⊢ <;> (try split) <;> grind
  · have a := RY_rholder h; exact a
  · have a := RY_rforged h; exact a
  · have a := RY_rfolds h; exact a
  · have a := RY_h0 h; exact a
  · have a := RY_h11 h; exact a
  · have a := RY_s0 h; exact a
  · have a := RY_s9 h; exact a
theorem RY_set4 {q : SS} (h : RY q) {n : Nat} {v : Int32} (hn : (n : Int) < (q.1 60 6).toInt) (h0 : 0 ≤ v.toInt) (h1 : (v.toInt < (q.1 60 1).toInt)) : RY (sI (sI q 7 n v) 65 n v) := by
  have p6 := RY_p6 h
  unfold RY
  refine ⟨?_, ?_, ?_, ?_, ?_, ?_, ?_, ?_, ?_, ?_, ?_, ?_, ?_, ?_, ?_, ?_, ?_, ?_, ?_, ?_, ?_, ?_, ?_, ?_, ?_, ?_, ?_, ?_, ?_⟩
  · have a := RY_p0 h; exact a
  · have a := RY_p6 h; exact a
  · have a := RY_k0 h; exact a
  · have a := RY_k12 h; exact a
  · have a := RY_p h; exact a
  · have a := RY_k h; exact a
  · have a := RY_wary h; exact a
  · have a := RY_child h; exact a
  · have a := RY_takes h; exact a
  · have a := RY_holder h; funext j; have a := congrFun a j; simp [sI_rd] <;> grind
  · have a := RY_forged h; exact a
  · have a := RY_folds h; exact a
  · have a := RY_hour h; exact a
  · have a := RY_seen h; exact a
  · have a := RY_price h; exact a
  · have a := RY_price10 h; exact a
  · have a := RY_child0 h; exact a
  · have a := RY_takes0 h; exact a
  · have a := RY_rwary h; exact a
  · have a := RY_rchild h; exact a
  · have a := RY_rprice h; exact a
  · have a := RY_rtakes h; exact a
  · have a := RY_rholder h; intro i hi; simp [sI_rd] at hi ⊢ <;> (try split) <;> grind
  · have a := RY_rforged h; exact a
  · have a := RY_rfolds h; exact a
  · have a := RY_h0 h; exact a
  · have a := RY_h11 h; exact a
  · have a := RY_s0 h; exact a
  · have a := RY_s9 h; exact a
theorem RY_set5 {q : SS} (h : RY q) {n : Nat} {v : Int32} (hn : (n : Int) < (q.1 60 6).toInt) (h0 : 0 ≤ v.toInt) (h1 : (v.toInt ≤ 1)) : RY (sI (sI q 8 n v) 66 n v) := by
  have p6 := RY_p6 h
  unfold RY
  refine ⟨?_, ?_, ?_, ?_, ?_, ?_, ?_, ?_, ?_, ?_, ?_, ?_, ?_, ?_, ?_, ?_, ?_, ?_, ?_, ?_, ?_, ?_, ?_, ?_, ?_, ?_, ?_, ?_, ?_⟩
  · have a := RY_p0 h; exact a
  · have a := RY_p6 h; exact a
  · have a := RY_k0 h; exact a
  · have a := RY_k12 h; exact a
  · have a := RY_p h; exact a
  · have a := RY_k h; exact a
  · have a := RY_wary h; exact a
  · have a := RY_child h; exact a
  · have a := RY_takes h; exact a
  · have a := RY_holder h; exact a
  · have a := RY_forged h; funext j; have a := congrFun a j; simp [sI_rd] <;> grind
  · have a := RY_folds h; exact a
  · have a := RY_hour h; exact a
  · have a := RY_seen h; exact a
  · have a := RY_price h; exact a
  · have a := RY_price10 h; exact a
  · have a := RY_child0 h; exact a
  · have a := RY_takes0 h; exact a
  · have a := RY_rwary h; exact a
  · have a := RY_rchild h; exact a
  · have a := RY_rprice h; exact a
  · have a := RY_rtakes h; exact a
  · have a := RY_rholder h; exact a
  · have a := RY_rforged h; intro i hi; simp [sI_rd] at hi ⊢ <;> (try split) <;> grind
  · have a := RY_rfolds h; exact a
  · have a := RY_h0 h; exact a
  · have a := RY_h11 h; exact a
  · have a := RY_s0 h; exact a
  · have a := RY_s9 h; exact a
theorem RY_set6 {q : SS} (h : RY q) {n : Nat} {v : Int32} (hn : (n : Int) < (q.1 60 6).toInt) (h0 : 0 ≤ v.toInt) (h1 : (v.toInt ≤ 4)) : RY (sI (sI q 9 n v) 67 n v) := by
  have p6 := RY_p6 h
  unfold RY
  refine ⟨?_, ?_, ?_, ?_, ?_, ?_, ?_, ?_, ?_, ?_, ?_, ?_, ?_, ?_, ?_, ?_, ?_, ?_, ?_, ?_, ?_, ?_, ?_, ?_, ?_, ?_, ?_, ?_, ?_⟩
  · have a := RY_p0 h; exact a
  · have a := RY_p6 h; exact a
  · have a := RY_k0 h; exact a
  · have a := RY_k12 h; exact a
  · have a := RY_p h; exact a
  · have a := RY_k h; exact a
  · have a := RY_wary h; exact a
  · have a := RY_child h; exact a
  · have a := RY_takes h; exact a
  · have a := RY_holder h; exact a
  · have a := RY_forged h; exact a
  · have a := RY_folds h; funext j; have a := congrFun a j; simp [sI_rd] <;> grind
  · have a := RY_hour h; exact a
  · have a := RY_seen h; exact a
  · have a := RY_price h; exact a
  · have a := RY_price10 h; exact a
  · have a := RY_child0 h; exact a
  · have a := RY_takes0 h; exact a
  · have a := RY_rwary h; exact a
  · have a := RY_rchild h; exact a
  · have a := RY_rprice h; exact a
  · have a := RY_rtakes h; exact a
  · have a := RY_rholder h; exact a
  · have a := RY_rforged h; exact a
  · have a := RY_rfolds h; intro i hi; simp [sI_rd] at hi ⊢ <;> (try split) <;> grind
  · have a := RY_h0 h; exact a
  · have a := RY_h11 h; exact a
  · have a := RY_s0 h; exact a
  · have a := RY_s9 h; exact a
theorem RY_set7 {q : SS} (h : RY q) {v : Int32} (h0 : 0 ≤ v.toInt) (h1 : v.toInt ≤ 11) : RY (sI (sI q 10 0 v) 68 0 v) := by
  unfold RY
  refine ⟨?_, ?_, ?_, ?_, ?_, ?_, ?_, ?_, ?_, ?_, ?_, ?_, ?_, ?_, ?_, ?_, ?_, ?_, ?_, ?_, ?_, ?_, ?_, ?_, ?_, ?_, ?_, ?_, ?_⟩
  · have a := RY_p0 h; exact a
  · have a := RY_p6 h; exact a
  · have a := RY_k0 h; exact a
  · have a := RY_k12 h; exact a
  · have a := RY_p h; exact a
  · have a := RY_k h; exact a
  · have a := RY_wary h; exact a
  · have a := RY_child h; exact a
  · have a := RY_takes h; exact a
  · have a := RY_holder h; exact a
  · have a := RY_forged h; exact a
  · have a := RY_folds h; exact a
  · have a := RY_hour h; simp [sI_rd] <;> first | omega | grind
  · have a := RY_seen h; exact a
  · have a := RY_price h; exact a
  · have a := RY_price10 h; exact a
  · have a := RY_child0 h; exact a
  · have a := RY_takes0 h; exact a
  · have a := RY_rwary h; exact a
  · have a := RY_rchild h; exact a
  · have a := RY_rprice h; exact a
  · have a := RY_rtakes h; exact a
  · have a := RY_rholder h; exact a
  · have a := RY_rforged h; exact a
  · have a := RY_rfolds h; exact a
  · have a := RY_h0 h; simp [sI_rd] <;> first | omega | grind
  · have a := RY_h11 h; simp [sI_rd] <;> first | omega | grind
  · have a := RY_s0 h; exact a
  · have a := RY_s9 h; exact a
theorem RY_set8 {q : SS} (h : RY q) {v : Int32} (h0 : 0 ≤ v.toInt) (h1 : v.toInt ≤ 9) : RY (sI (sI q 11 0 v) 68 1 v) := by
  unfold RY
  refine ⟨?_, ?_, ?_, ?_, ?_, ?_, ?_, ?_, ?_, ?_, ?_, ?_, ?_, ?_, ?_, ?_, ?_, ?_, ?_, ?_, ?_, ?_, ?_, ?_, ?_, ?_, ?_, ?_, ?_⟩
  · have a := RY_p0 h; exact a
  · have a := RY_p6 h; exact a
  · have a := RY_k0 h; exact a
  · have a := RY_k12 h; exact a
  · have a := RY_p h; exact a
  · have a := RY_k h; exact a
  · have a := RY_wary h; exact a
  · have a := RY_child h; exact a
  · have a := RY_takes h; exact a
  · have a := RY_holder h; exact a
  · have a := RY_forged h; exact a
  · have a := RY_folds h; exact a
  · have a := RY_hour h; exact a
  · have a := RY_seen h; simp [sI_rd] <;> first | omega | grind
  · have a := RY_price h; exact a
  · have a := RY_price10 h; exact a
  · have a := RY_child0 h; exact a
  · have a := RY_takes0 h; exact a
  · have a := RY_rwary h; exact a
  · have a := RY_rchild h; exact a
  · have a := RY_rprice h; exact a
  · have a := RY_rtakes h; exact a
  · have a := RY_rholder h; exact a
  · have a := RY_rforged h; exact a
  · have a := RY_rfolds h; exact a
  · have a := RY_h0 h; exact a
  · have a := RY_h11 h; exact a
  · have a := RY_s0 h; simp [sI_rd] <;> first | omega | grind
  · have a := RY_s9 h; simp [sI_rd] <;> first | omega | grind
def LAY (q : SS) (w n v : Int32) : SS := if w.toInt = 7 then sI q 68 0 v else if w.toInt = 8 then sI q 68 1 v else sI q (61 + w.toNatClampNeg) n.toNatClampNeg v
theorem m_lays {q : SS} {P K : Int} (hP : P ≤ 6) (hK : K ≤ 12) {w n : Int32} (v : Int32) (hn : okN P K w.toInt n.toInt) : f_X12_lays q w n v = some (LAY q w n v) := by
  have h0 : 0 ≤ w.toInt := by omega
  have h8 : w.toInt ≤ 8 := by omega
  unfold f_X12_lays LAY
  rcases w08 h0 h8 with rfl | rfl | rfl | rfl | rfl | rfl | rfl | rfl | rfl
  · have z : (0 : Int32).toInt = 0 := rfl
    have v1 : vin n 6 := ⟨by omega, by show n.toInt < 6; omega⟩
    simp only [sw, Int32.reduceToInt]
    exact if_pos v1
  · have z : (1 : Int32).toInt = 1 := rfl
    have v1 : vin n 6 := ⟨by omega, by show n.toInt < 6; omega⟩
    simp only [sw, Int32.reduceToInt]
    exact if_pos v1
  · have z : (2 : Int32).toInt = 2 := rfl
    have v1 : vin n 6 := ⟨by omega, by show n.toInt < 6; omega⟩
    simp only [sw, Int32.reduceToInt]
    exact if_pos v1
  · have z : (3 : Int32).toInt = 3 := rfl
    have v1 : vin n 6 := ⟨by omega, by show n.toInt < 6; omega⟩
    simp only [sw, Int32.reduceToInt]
    exact if_pos v1
  · have z : (4 : Int32).toInt = 4 := rfl
    have v1 : vin n 12 := ⟨by omega, by show n.toInt < 12; omega⟩
    simp only [sw, Int32.reduceToInt]
    exact if_pos v1
  · have z : (5 : Int32).toInt = 5 := rfl
    have v1 : vin n 12 := ⟨by omega, by show n.toInt < 12; omega⟩
    simp only [sw, Int32.reduceToInt]
    exact if_pos v1
  · have z : (6 : Int32).toInt = 6 := rfl
    have v1 : vin n 12 := ⟨by omega, by show n.toInt < 12; omega⟩
    simp only [sw, Int32.reduceToInt]
    exact if_pos v1
  · rfl
  · rfl
theorem gv {q : SS} (h : RY q) {w n : Int32} (hn : okN (q.1 60 1).toInt (q.1 60 6).toInt w.toInt n.toInt) : ∃ v : Int32, f_X10_get q w n = some v ∧ f_X12_valueAt q w n = some v ∧ okV (q.1 60 1).toInt w.toInt v.toInt := by
  have h0 : 0 ≤ w.toInt := by omega
  have h8 : w.toInt ≤ 8 := by omega
  have p6 := RY_p6 h
  have k12 := RY_k12 h
  have ep := RY_p h
  have ek := RY_k h
  rcases w08 h0 h8 with rfl | rfl | rfl | rfl | rfl | rfl | rfl | rfl | rfl
  · have z : (0 : Int32).toInt = 0 := rfl
    have b0 : 0 ≤ n.toInt := by omega
    have b1 : n.toInt < (q.1 60 1).toInt := by omega
    have v1 : vin n 6 := ⟨b0, by show n.toInt < 6; omega⟩
    have r := RY_rwary h n.toNatClampNeg (by rw [cnI b0]; exact b1)
    have e : q.1 3 n.toNatClampNeg = q.1 61 n.toNatClampNeg := congrFun (RY_wary h) _
    refine ⟨q.1 61 n.toNatClampNeg, ?_, ?_, ?_⟩
    · rw [x_get0 (by rw [ep]; exact p6), if_pos (by rw [ep]; exact ⟨b0, b1⟩), e]
    · exact if_pos v1
    · unfold okV
      simp only [Int32.reduceToInt]
      omega
  · have z : (1 : Int32).toInt = 1 := rfl
    have b0 : 0 ≤ n.toInt := by omega
    have b1 : n.toInt < (q.1 60 1).toInt := by omega
    have v1 : vin n 6 := ⟨b0, by show n.toInt < 6; omega⟩
    have r := RY_rchild h n.toNatClampNeg (by rw [cnI b0]; exact b1)
    have e : q.1 4 n.toNatClampNeg = q.1 62 n.toNatClampNeg := congrFun (RY_child h) _
    refine ⟨q.1 62 n.toNatClampNeg, ?_, ?_, ?_⟩
    · rw [x_get1 (by rw [ep]; exact p6), if_pos (by rw [ep]; exact ⟨b0, b1⟩), e]
    · exact if_pos v1
    · unfold okV
      simp only [Int32.reduceToInt]
      omega
  · have z : (2 : Int32).toInt = 2 := rfl
    have b0 : 0 ≤ n.toInt := by omega
    have b1 : n.toInt < (q.1 60 1).toInt := by omega
    have v1 : vin n 6 := ⟨b0, by show n.toInt < 6; omega⟩
    have r := RY_rprice h n.toNatClampNeg (by rw [cnI b0]; exact b1)
    have e : q.1 5 n.toNatClampNeg = q.1 63 n.toNatClampNeg := RY_price h _ (by rw [cnI b0]; exact b1)
    refine ⟨q.1 63 n.toNatClampNeg, ?_, ?_, ?_⟩
    · rw [x_get2 (by rw [ep]; exact p6), if_pos (by rw [ep]; exact ⟨b0, b1⟩), e]
    · exact if_pos v1
    · unfold okV
      simp only [Int32.reduceToInt]
      omega
  · have z : (3 : Int32).toInt = 3 := rfl
    have b0 : 0 ≤ n.toInt := by omega
    have b1 : n.toInt < (q.1 60 1).toInt := by omega
    have v1 : vin n 6 := ⟨b0, by show n.toInt < 6; omega⟩
    have r := RY_rtakes h n.toNatClampNeg (by rw [cnI b0]; exact b1)
    have e : q.1 6 n.toNatClampNeg = q.1 64 n.toNatClampNeg := congrFun (RY_takes h) _
    refine ⟨q.1 64 n.toNatClampNeg, ?_, ?_, ?_⟩
    · rw [x_get3 (by rw [ep]; exact p6), if_pos (by rw [ep]; exact ⟨b0, b1⟩), e]
    · exact if_pos v1
    · unfold okV
      simp only [Int32.reduceToInt]
      omega
  · have z : (4 : Int32).toInt = 4 := rfl
    have b0 : 0 ≤ n.toInt := by omega
    have b1 : n.toInt < (q.1 60 6).toInt := by omega
    have v1 : vin n 12 := ⟨b0, by show n.toInt < 12; omega⟩
    have r := RY_rholder h n.toNatClampNeg (by rw [cnI b0]; exact b1)
    have e : q.1 7 n.toNatClampNeg = q.1 65 n.toNatClampNeg := congrFun (RY_holder h) _
    refine ⟨q.1 65 n.toNatClampNeg, ?_, ?_, ?_⟩
    · rw [x_get4 (by rw [ek]; exact k12), if_pos (by rw [ek]; exact ⟨b0, b1⟩), e]
    · exact if_pos v1
    · unfold okV
      simp only [Int32.reduceToInt]
      omega
  · have z : (5 : Int32).toInt = 5 := rfl
    have b0 : 0 ≤ n.toInt := by omega
    have b1 : n.toInt < (q.1 60 6).toInt := by omega
    have v1 : vin n 12 := ⟨b0, by show n.toInt < 12; omega⟩
    have r := RY_rforged h n.toNatClampNeg (by rw [cnI b0]; exact b1)
    have e : q.1 8 n.toNatClampNeg = q.1 66 n.toNatClampNeg := congrFun (RY_forged h) _
    refine ⟨q.1 66 n.toNatClampNeg, ?_, ?_, ?_⟩
    · rw [x_get5 (by rw [ek]; exact k12), if_pos (by rw [ek]; exact ⟨b0, b1⟩), e]
    · exact if_pos v1
    · unfold okV
      simp only [Int32.reduceToInt]
      omega
  · have z : (6 : Int32).toInt = 6 := rfl
    have b0 : 0 ≤ n.toInt := by omega
    have b1 : n.toInt < (q.1 60 6).toInt := by omega
    have v1 : vin n 12 := ⟨b0, by show n.toInt < 12; omega⟩
    have r := RY_rfolds h n.toNatClampNeg (by rw [cnI b0]; exact b1)
    have e : q.1 9 n.toNatClampNeg = q.1 67 n.toNatClampNeg := congrFun (RY_folds h) _
    refine ⟨q.1 67 n.toNatClampNeg, ?_, ?_, ?_⟩
    · rw [x_get6 (by rw [ek]; exact k12), if_pos (by rw [ek]; exact ⟨b0, b1⟩), e]
    · exact if_pos v1
    · unfold okV
      simp only [Int32.reduceToInt]
      omega
  · have z : (7 : Int32).toInt = 7 := rfl
    have e : n = 0 := eq0.mpr (by omega)
    subst e
    have r0 := RY_h0 h
    have r1 := RY_h11 h
    refine ⟨q.1 68 0, ?_, rfl, ?_⟩
    · rw [x_get70, RY_hour h]
    · unfold okV
      simp only [Int32.reduceToInt]
      omega
  · have z : (8 : Int32).toInt = 8 := rfl
    have e : n = 0 := eq0.mpr (by omega)
    subst e
    have r0 := RY_s0 h
    have r1 := RY_s9 h
    refine ⟨q.1 68 1, ?_, rfl, ?_⟩
    · rw [x_get80, RY_seen h]
    · unfold okV
      simp only [Int32.reduceToInt]
      omega
theorem RY_set {q : SS} (h : RY q) {w n v : Int32} (hn : okN (q.1 60 1).toInt (q.1 60 6).toInt w.toInt n.toInt) (hv : okV (q.1 60 1).toInt w.toInt v.toInt) : RY (LAY (sI q (3 + w.toNatClampNeg) n.toNatClampNeg v) w n v) := by
  have h0 : 0 ≤ w.toInt := by omega
  have h8 : w.toInt ≤ 8 := by omega
  have v0 := hv.1
  rcases w08 h0 h8 with rfl | rfl | rfl | rfl | rfl | rfl | rfl | rfl | rfl
  · have z : (0 : Int32).toInt = 0 := rfl
    exact RY_set0 h (by rw [cnI (by omega)]; omega) v0 (hv.2.1 (by decide))
  · have z : (1 : Int32).toInt = 1 := rfl
    exact RY_set1 h (by rw [cnI (by omega)]; omega) v0 (hv.2.2.1 (by decide))
  · have z : (2 : Int32).toInt = 2 := rfl
    exact RY_set2 h (by rw [cnI (by omega)]; omega) v0 (hv.2.2.2.1 (by decide))
  · have z : (3 : Int32).toInt = 3 := rfl
    exact RY_set3 h (by rw [cnI (by omega)]; omega) v0 (hv.2.2.2.2.1 (by decide))
  · have z : (4 : Int32).toInt = 4 := rfl
    exact RY_set4 h (by rw [cnI (by omega)]; omega) v0 (hv.2.2.2.2.2.1 (by decide))
  · have z : (5 : Int32).toInt = 5 := rfl
    exact RY_set5 h (by rw [cnI (by omega)]; omega) v0 (hv.2.2.2.2.2.2.1 (by decide))
  · have z : (6 : Int32).toInt = 6 := rfl
    exact RY_set6 h (by rw [cnI (by omega)]; omega) v0 (hv.2.2.2.2.2.2.2.1 (by decide))
  · have z : (7 : Int32).toInt = 7 := rfl
    have e : n = 0 := eq0.mpr (by omega)
    subst e
    exact RY_set7 h v0 (hv.2.2.2.2.2.2.2.2.1 (by decide))
  · have z : (8 : Int32).toInt = 8 := rfl
    have e : n = 0 := eq0.mpr (by omega)
    subst e
    exact RY_set8 h v0 (hv.2.2.2.2.2.2.2.2.2 (by decide))

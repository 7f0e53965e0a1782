/-! ===== one number becomes another, on both sides ===== -/
theorem RY_set0 {q : SS} (h : RY q) {n : Nat} {v : Int32} (hn : (n : Int) < (q.1 60 1).toInt) (h0 : 0 ≤ v.toInt) (h1 : (v.toInt ≤ 12)) : RY (sI (sI q 3 n v) 61 n v) := by
  have p6 := RY_p6 h
  unfold RY
  refine ⟨?_, ?_, ?_, ?_, ?_, ?_, ?_, ?_, ?_, ?_, ?_, ?_, ?_, ?_, ?_, ?_, ?_, ?_, ?_, ?_, ?_, ?_, ?_, ?_, ?_, ?_, ?_, ?_, ?_⟩
  · have a := RY_p0 h; exact a
  · have a := RY_p6 h; exact a
  · have a := RY_k0 h; exact a
  · have a := RY_k12 h; exact a
  · have a := RY_p h; exact a
  · have a := RY_k h; exact a
  · have a := RY_wary h; funext j; have a := congrFun a j; simp [sI_rd] <;> grind
  · have a := RY_child h; exact a
  · have a := RY_takes h; exact a
  · have a := RY_holder h; exact a
  · have a := RY_forged h; exact a
  · have a := RY_folds h; exact a
  · have a := RY_hour h; exact a
  · have a := RY_seen h; exact a
  · have a := RY_price h; exact a
  · have a := RY_price10 h; exact a
  · have a := RY_child0 h; exact a
  · have a := RY_takes0 h; exact a
  · have a := RY_rwary h; intro i hi; simp [sI_rd] at hi ⊢ <;> (try split) <;> grind
  · have a := RY_rchild h; exact a
  · have a := RY_rprice h; exact a
  · have a := RY_rtakes h; exact a
  · have a := RY_rholder h; exact a
  · have a := RY_rforged h; exact a
  · have a := RY_rfolds h; exact a
  · have a := RY_h0 h; exact a
  · have a := RY_h11 h; exact a
  · have a := RY_s0 h; exact a
  · have a := RY_s9 h; exact a
theorem RY_set1 {q : SS} (h : RY q) {n : Nat} {v : Int32} (hn : (n : Int) < (q.1 60 1).toInt) (h0 : 0 ≤ v.toInt) (h1 : (v.toInt ≤ 1)) : RY (sI (sI q 4 n v) 62 n v) := by
  have p6 := RY_p6 h
  unfold RY
  refine ⟨?_, ?_, ?_, ?_, ?_, ?_, ?_, ?_, ?_, ?_, ?_, ?_, ?_, ?_, ?_, ?_, ?_, ?_, ?_, ?_, ?_, ?_, ?_, ?_, ?_, ?_, ?_, ?_, ?_⟩
  · have a := RY_p0 h; exact a
  · have a := RY_p6 h; exact a
  · have a := RY_k0 h; exact a
  · have a := RY_k12 h; exact a
  · have a := RY_p h; exact a
  · have a := RY_k h; exact a
  · have a := RY_wary h; exact a
  · have a := RY_child h; funext j; have a := congrFun a j; simp [sI_rd] <;> grind
  · have a := RY_takes h; exact a
  · have a := RY_holder h; exact a
  · have a := RY_forged h; exact a
  · have a := RY_folds h; exact a
  · have a := RY_hour h; exact a
  · have a := RY_seen h; exact a
  · have a := RY_price h; exact a
  · have a := RY_price10 h; exact a
  · have a := RY_child0 h; intro i hi; simp [sI_rd] at hi ⊢ <;> (try split) <;> grind
  · have a := RY_takes0 h; exact a
  · have a := RY_rwary h; exact a
  · have a := RY_rchild h; intro i hi; simp [sI_rd] at hi ⊢ <;> (try split) <;> grind
  · have a := RY_rprice h; exact a
  · have a := RY_rtakes h; exact a
  · have a := RY_rholder h; exact a
  · have a := RY_rforged h; exact a
  · have a := RY_rfolds h; exact a
  · have a := RY_h0 h; exact a
  · have a := RY_h11 h; exact a
  · have a := RY_s0 h; exact a
  · have a := RY_s9 h; exact a
theorem RY_set2 {q : SS} (h : RY q) {n : Nat} {v : Int32} (hn : (n : Int) < (q.1 60 1).toInt) (h0 : 0 ≤ v.toInt) (h1 : (v.toInt ≤ 99)) : RY (sI (sI q 5 n v) 63 n v) := by
  have p6 := RY_p6 h
  unfold RY
  refine ⟨?_, ?_, ?_, ?_, ?_, ?_, ?_, ?_, ?_, ?_, ?_, ?_, ?_, ?_, ?_, ?_, ?_, ?_, ?_, ?_, ?_, ?_, ?_, ?_, ?_, ?_, ?_, ?_, ?_⟩
  · have a := RY_p0 h; exact a
  · have a := RY_p6 h; exact a
  · have a := RY_k0 h; exact a
  · have a := RY_k12 h; exact a
  · have a := RY_p h; exact a
  · have a := RY_k h; exact a
  · have a := RY_wary h; exact a
  · have a := RY_child h; exact a
  · have a := RY_takes h; exact a
  · have a := RY_holder h; exact a
  · have a := RY_forged h; exact a
  · have a := RY_folds h; exact a
  · have a := RY_hour h; exact a
  · have a := RY_seen h; exact a
  · have a := RY_price h; intro i hi; simp [sI_rd] at hi ⊢ <;> (try split) <;> grind
  · have a := RY_price10 h; intro i hi hj; simp [sI_rd] at hi ⊢ <;> (try split) <;> grind
  · have a := RY_child0 h; exact a
  · have a := RY_takes0 h; exact a
  · have a := RY_rwary h; exact a
  · have a := RY_rchild h; exact a
  · have a := RY_rprice h; intro i hi; simp [sI_rd] at hi ⊢ <;> (try split) <;> grind
  · have a := RY_rtakes h; exact a
  · have a := RY_rholder h; exact a
  · have a := RY_rforged h; exact a
  · have a := RY_rfolds h; exact a
  · have a := RY_h0 h; exact a
  · have a := RY_h11 h; exact a
  · have a := RY_s0 h; exact a
  · have a := RY_s9 h; exact a
theorem RY_set3 {q : SS} (h : RY q) {n : Nat} {v : Int32} (hn : (n : Int) < (q.1 60 1).toInt) (h0 : 0 ≤ v.toInt) (h1 : (v.toInt ≤ 9)) : RY (sI (sI q 6 n v) 64 n v) := by
  have p6 := RY_p6 h
  unfold RY
  refine ⟨?_, ?_, ?_, ?_, ?_, ?_, ?_, ?_, ?_, ?_, ?_, ?_, ?_, ?_, ?_, ?_, ?_, ?_, ?_, ?_, ?_, ?_, ?_, ?_, ?_, ?_, ?_, ?_, ?_⟩
  · have a := RY_p0 h; exact a
  · have a := RY_p6 h; exact a
  · have a := RY_k0 h; exact a
  · have a := RY_k12 h; exact a
  · have a := RY_p h; exact a
  · have a := RY_k h; exact a
  · have a := RY_wary h; exact a
  · have a := RY_child h; exact a
  · have a := RY_takes h; funext j; have a := congrFun a j; simp [sI_rd] <;> grind
  · have a := RY_holder h; exact a
  · have a := RY_forged h; exact a
  · have a := RY_folds h; exact a
  · have a := RY_hour h; exact a
  · have a := RY_seen h; exact a
  · have a := RY_price h; exact a
  · have a := RY_price10 h; exact a
  · have a := RY_child0 h; exact a
  · have a := RY_takes0 h; intro i hi; simp [sI_rd] at hi ⊢ <;> (try split) <;> grind
  · have a := RY_rwary h; exact a
  · have a := RY_rchild h; exact a
  · have a := RY_rprice h; exact a
  · have a := RY_rtakes h; intro i hi; simp [sI_rd] at hi ⊢ <;> (try split) <;> grind
  · have a := RY_rholder h; exact a
  · have a := RY_rforged h; exact a
  · have a := RY_rfolds h; exact a
  · have a := RY_h0 h; exact a
  · have a := RY_h11 h; exact a
  · have a := RY_s0 h; exact a
  · have a := RY_s9 h; exact a
theorem RY_set4 {q : SS} (h : RY q) {n : Nat} {v : Int32} (hn : (n : Int) < (q.1 60 6).toInt) (h0 : 0 ≤ v.toInt) (h1 : (v.toInt < (q.1 60 1).toInt)) : RY (sI (sI q 7 n v) 65 n v) := by
  have p6 := RY_p6 h
  unfold RY
  refine ⟨?_, ?_, ?_, ?_, ?_, ?_, ?_, ?_, ?_, ?_, ?_, ?_, ?_, ?_, ?_, ?_, ?_, ?_, ?_, ?_, ?_, ?_, ?_, ?_, ?_, ?_, ?_, ?_, ?_⟩
  · have a := RY_p0 h; exact a
  · have a := RY_p6 h; exact a
  · have a := RY_k0 h; exact a
  · have a := RY_k12 h; exact a
  · have a := RY_p h; exact a
  · have a := RY_k h; exact a
  · have a := RY_wary h; exact a
  · have a := RY_child h; exact a
  · have a := RY_takes h; exact a
  · have a := RY_holder h; funext j; have a := congrFun a j; simp [sI_rd] <;> grind
  · have a := RY_forged h; exact a
  · have a := RY_folds h; exact a
  · have a := RY_hour h; exact a
  · have a := RY_seen h; exact a
  · have a := RY_price h; exact a
  · have a := RY_price10 h; exact a
  · have a := RY_child0 h; exact a
  · have a := RY_takes0 h; exact a
  · have a := RY_rwary h; exact a
  · have a := RY_rchild h; exact a
  · have a := RY_rprice h; exact a
  · have a := RY_rtakes h; exact a
  · have a := RY_rholder h; intro i hi; simp [sI_rd] at hi ⊢ <;> (try split) <;> grind
  · have a := RY_rforged h; exact a
  · have a := RY_rfolds h; exact a
  · have a := RY_h0 h; exact a
  · have a := RY_h11 h; exact a
  · have a := RY_s0 h; exact a
  · have a := RY_s9 h; exact a
theorem RY_set5 {q : SS} (h : RY q) {n : Nat} {v : Int32} (hn : (n : Int) < (q.1 60 6).toInt) (h0 : 0 ≤ v.toInt) (h1 : (v.toInt ≤ 1)) : RY (sI (sI q 8 n v) 66 n v) := by
  have p6 := RY_p6 h
  unfold RY
  refine ⟨?_, ?_, ?_, ?_, ?_, ?_, ?_, ?_, ?_, ?_, ?_, ?_, ?_, ?_, ?_, ?_, ?_, ?_, ?_, ?_, ?_, ?_, ?_, ?_, ?_, ?_, ?_, ?_, ?_⟩
  · have a := RY_p0 h; exact a
  · have a := RY_p6 h; exact a
  · have a := RY_k0 h; exact a
  · have a := RY_k12 h; exact a
  · have a := RY_p h; exact a
  · have a := RY_k h; exact a
  · have a := RY_wary h; exact a
  · have a := RY_child h; exact a
  · have a := RY_takes h; exact a
  · have a := RY_holder h; exact a
  · have a := RY_forged h; funext j; have a := congrFun a j; simp [sI_rd] <;> grind
  · have a := RY_folds h; exact a
  · have a := RY_hour h; exact a
  · have a := RY_seen h; exact a
  · have a := RY_price h; exact a
  · have a := RY_price10 h; exact a
  · have a := RY_child0 h; exact a
  · have a := RY_takes0 h; exact a
  · have a := RY_rwary h; exact a
  · have a := RY_rchild h; exact a
  · have a := RY_rprice h; exact a
  · have a := RY_rtakes h; exact a
  · have a := RY_rholder h; exact a
  · have a := RY_rforged h; intro i hi; simp [sI_rd] at hi ⊢ <;> (try split) <;> grind
  · have a := RY_rfolds h; exact a
  · have a := RY_h0 h; exact a
  · have a := RY_h11 h; exact a
  · have a := RY_s0 h; exact a
  · have a := RY_s9 h; exact a
theorem RY_set6 {q : SS} (h : RY q) {n : Nat} {v : Int32} (hn : (n : Int) < (q.1 60 6).toInt) (h0 : 0 ≤ v.toInt) (h1 : (v.toInt ≤ 4)) : RY (sI (sI q 9 n v) 67 n v) := by
  have p6 := RY_p6 h
  unfold RY
  refine ⟨?_, ?_, ?_, ?_, ?_, ?_, ?_, ?_, ?_, ?_, ?_, ?_, ?_, ?_, ?_, ?_, ?_, ?_, ?_, ?_, ?_, ?_, ?_, ?_, ?_, ?_, ?_, ?_, ?_⟩
  · have a := RY_p0 h; exact a
  · have a := RY_p6 h; exact a
  · have a := RY_k0 h; exact a
  · have a := RY_k12 h; exact a
  · have a := RY_p h; exact a
  · have a := RY_k h; exact a
  · have a := RY_wary h; exact a
  · have a := RY_child h; exact a
  · have a := RY_takes h; exact a
  · have a := RY_holder h; exact a
  · have a := RY_forged h; exact a
  · have a := RY_folds h; funext j; have a := congrFun a j; simp [sI_rd] <;> grind
  · have a := RY_hour h; exact a
  · have a := RY_seen h; exact a
  · have a := RY_price h; exact a
  · have a := RY_price10 h; exact a
  · have a := RY_child0 h; exact a
  · have a := RY_takes0 h; exact a
  · have a := RY_rwary h; exact a
  · have a := RY_rchild h; exact a
  · have a := RY_rprice h; exact a
  · have a := RY_rtakes h; exact a
  · have a := RY_rholder h; exact a
  · have a := RY_rforged h; exact a
  · have a := RY_rfolds h; intro i hi; simp [sI_rd] at hi ⊢ <;> (try split) <;> grind
  · have a := RY_h0 h; exact a
  · have a := RY_h11 h; exact a
  · have a := RY_s0 h; exact a
  · have a := RY_s9 h; exact a
theorem RY_set7 {q : SS} (h : RY q) {v : Int32} (h0 : 0 ≤ v.toInt) (h1 : v.toInt ≤ 11) : RY (sI (sI q 10 0 v) 68 0 v) := by
  unfold RY
  refine ⟨?_, ?_, ?_, ?_, ?_, ?_, ?_, ?_, ?_, ?_, ?_, ?_, ?_, ?_, ?_, ?_, ?_, ?_, ?_, ?_, ?_, ?_, ?_, ?_, ?_, ?_, ?_, ?_, ?_⟩
  · have a := RY_p0 h; exact a
  · have a := RY_p6 h; exact a
  · have a := RY_k0 h; exact a
  · have a := RY_k12 h; exact a
  · have a := RY_p h; exact a
  · have a := RY_k h; exact a
  · have a := RY_wary h; exact a
  · have a := RY_child h; exact a
  · have a := RY_takes h; exact a
  · have a := RY_holder h; exact a
  · have a := RY_forged h; exact a
  · have a := RY_folds h; exact a
  · have a := RY_hour h; simp [sI_rd] <;> first | omega | grind
  · have a := RY_seen h; exact a
  · have a := RY_price h; exact a
  · have a := RY_price10 h; exact a
  · have a := RY_child0 h; exact a
  · have a := RY_takes0 h; exact a
  · have a := RY_rwary h; exact a
  · have a := RY_rchild h; exact a
  · have a := RY_rprice h; exact a
  · have a := RY_rtakes h; exact a
  · have a := RY_rholder h; exact a
  · have a := RY_rforged h; exact a
  · have a := RY_rfolds h; exact a
  · have a := RY_h0 h; simp [sI_rd] <;> first | omega | grind
  · have a := RY_h11 h; simp [sI_rd] <;> first | omega | grind
  · have a := RY_s0 h; exact a
  · have a := RY_s9 h; exact a
theorem RY_set8 {q : SS} (h : RY q) {v : Int32} (h0 : 0 ≤ v.toInt) (h1 : v.toInt ≤ 9) : RY (sI (sI q 11 0 v) 68 1 v) := by
  unfold RY
  refine ⟨?_, ?_, ?_, ?_, ?_, ?_, ?_, ?_, ?_, ?_, ?_, ?_, ?_, ?_, ?_, ?_, ?_, ?_, ?_, ?_, ?_, ?_, ?_, ?_, ?_, ?_, ?_, ?_, ?_⟩
  · have a := RY_p0 h; exact a
  · have a := RY_p6 h; exact a
  · have a := RY_k0 h; exact a
  · have a := RY_k12 h; exact a
  · have a := RY_p h; exact a
  · have a := RY_k h; exact a
  · have a := RY_wary h; exact a
  · have a := RY_child h; exact a
  · have a := RY_takes h; exact a
  · have a := RY_holder h; exact a
  · have a := RY_forged h; exact a
  · have a := RY_folds h; exact a
  · have a := RY_hour h; exact a
  · have a := RY_seen h; simp [sI_rd] <;> first | omega | grind
  · have a := RY_price h; exact a
  · have a := RY_price10 h; exact a
  · have a := RY_child0 h; exact a
  · have a := RY_takes0 h; exact a
  · have a := RY_rwary h; exact a
  · have a := RY_rchild h; exact a
  · have a := RY_rprice h; exact a
  · have a := RY_rtakes h; exact a
  · have a := RY_rholder h; exact a
  · have a := RY_rforged h; exact a
  · have a := RY_rfolds h; exact a
  · have a := RY_h0 h; exact a
  · have a := RY_h11 h; exact a
  · have a := RY_s0 h; simp [sI_rd] <;> first | omega | grind
  · have a := RY_s9 h; simp [sI_rd] <;> first | omega | grind
def LAY (q : SS) (w n v : Int32) : SS := if w.toInt = 7 then sI q 68 0 v else if w.toInt = 8 then sI q 68 1 v else sI q (61 + w.toNatClampNeg) n.toNatClampNeg v
theorem m_lays {q : SS} {P K : Int} (hP : P ≤ 6) (hK : K ≤ 12) {w n : Int32} (v : Int32) (hn : okN P K w.toInt n.toInt) : f_X12_lays q w n v = some (LAY q w n v) := by
  have h0 : 0 ≤ w.toInt := by omega
  have h8 : w.toInt ≤ 8 := by omega
  unfold f_X12_lays LAY
  rcases w08 h0 h8 with rfl | rfl | rfl | rfl | rfl | rfl | rfl | rfl | rfl
  · have z : (0 : Int32).toInt = 0 := rfl
    have v1 : vin n 6 := ⟨by omega, by show n.toInt < 6; omega⟩
    simp only [sw, Int32.reduceToInt]
    exact if_pos v1
  · have z : (1 : Int32).toInt = 1 := rfl
    have v1 : vin n 6 := ⟨by omega, by show n.toInt < 6; omega⟩
    simp only [sw, Int32.reduceToInt]
    exact if_pos v1
  · have z : (2 : Int32).toInt = 2 := rfl
    have v1 : vin n 6 := ⟨by omega, by show n.toInt < 6; omega⟩
    simp only [sw, Int32.reduceToInt]
    exact if_pos v1
  · have z : (3 : Int32).toInt = 3 := rfl
    have v1 : vin n 6 := ⟨by omega, by show n.toInt < 6; omega⟩
    simp only [sw, Int32.reduceToInt]
    exact if_pos v1
  · have z : (4 : Int32).toInt = 4 := rfl
    have v1 : vin n 12 := ⟨by omega, by show n.toInt < 12; omega⟩
    simp only [sw, Int32.reduceToInt]
    exact if_pos v1
  · have z : (5 : Int32).toInt = 5 := rfl
    have v1 : vin n 12 := ⟨by omega, by show n.toInt < 12; omega⟩
    simp only [sw, Int32.reduceToInt]
    exact if_pos v1
  · have z : (6 : Int32).toInt = 6 := rfl
    have v1 : vin n 12 := ⟨by omega, by show n.toInt < 12; omega⟩
    simp only [sw, Int32.reduceToInt]
    exact if_pos v1
  · rfl
  · rfl
theorem gv {q : SS} (h : RY q) {w n : Int32} (hn : okN (q.1 60 1).toInt (q.1 60 6).toInt w.toInt n.toInt) : ∃ v : Int32, f_X10_get q w n = some v ∧ f_X12_valueAt q w n = some v ∧ okV (q.1 60 1).toInt w.toInt v.toInt := by
  have h0 : 0 ≤ w.toInt := by omega
  have h8 : w.toInt ≤ 8 := by omega
  have p6 := RY_p6 h
  have k12 := RY_k12 h
  have ep := RY_p h
  have ek := RY_k h
  rcases w08 h0 h8 with rfl | rfl | rfl | rfl | rfl | rfl | rfl | rfl | rfl
  · have z : (0 : Int32).toInt = 0 := rfl
    have b0 : 0 ≤ n.toInt := by omega
    have b1 : n.toInt < (q.1 60 1).toInt := by omega
    have v1 : vin n 6 := ⟨b0, by show n.toInt < 6; omega⟩
    have r := RY_rwary h n.toNatClampNeg (by rw [cnI b0]; exact b1)
    have e : q.1 3 n.toNatClampNeg = q.1 61 n.toNatClampNeg := congrFun (RY_wary h) _
    refine ⟨q.1 61 n.toNatClampNeg, ?_, ?_, ?_⟩
    · rw [x_get0 (by rw [ep]; exact p6), if_pos (by rw [ep]; exact ⟨b0, b1⟩), e]
    · exact if_pos v1
    · unfold okV
      simp only [Int32.reduceToInt]
      omega
  · have z : (1 : Int32).toInt = 1 := rfl
    have b0 : 0 ≤ n.toInt := by omega
    have b1 : n.toInt < (q.1 60 1).toInt := by omega
    have v1 : vin n 6 := ⟨b0, by show n.toInt < 6; omega⟩
    have r := RY_rchild h n.toNatClampNeg (by rw [cnI b0]; exact b1)
    have e : q.1 4 n.toNatClampNeg = q.1 62 n.toNatClampNeg := congrFun (RY_child h) _
    refine ⟨q.1 62 n.toNatClampNeg, ?_, ?_, ?_⟩
    · rw [x_get1 (by rw [ep]; exact p6), if_pos (by rw [ep]; exact ⟨b0, b1⟩), e]
    · exact if_pos v1
    · unfold okV
      simp only [Int32.reduceToInt]
      omega
  · have z : (2 : Int32).toInt = 2 := rfl
    have b0 : 0 ≤ n.toInt := by omega
    have b1 : n.toInt < (q.1 60 1).toInt := by omega
    have v1 : vin n 6 := ⟨b0, by show n.toInt < 6; omega⟩
    have r := RY_rprice h n.toNatClampNeg (by rw [cnI b0]; exact b1)
    have e : q.1 5 n.toNatClampNeg = q.1 63 n.toNatClampNeg := RY_price h _ (by rw [cnI b0]; exact b1)
    refine ⟨q.1 63 n.toNatClampNeg, ?_, ?_, ?_⟩
    · rw [x_get2 (by rw [ep]; exact p6), if_pos (by rw [ep]; exact ⟨b0, b1⟩), e]
    · exact if_pos v1
    · unfold okV
      simp only [Int32.reduceToInt]
      omega
  · have z : (3 : Int32).toInt = 3 := rfl
    have b0 : 0 ≤ n.toInt := by omega
    have b1 : n.toInt < (q.1 60 1).toInt := by omega
    have v1 : vin n 6 := ⟨b0, by show n.toInt < 6; omega⟩
    have r := RY_rtakes h n.toNatClampNeg (by rw [cnI b0]; exact b1)
    have e : q.1 6 n.toNatClampNeg = q.1 64 n.toNatClampNeg := congrFun (RY_takes h) _
    refine ⟨q.1 64 n.toNatClampNeg, ?_, ?_, ?_⟩
    · rw [x_get3 (by rw [ep]; exact p6), if_pos (by rw [ep]; exact ⟨b0, b1⟩), e]
    · exact if_pos v1
    · unfold okV
      simp only [Int32.reduceToInt]
      omega
  · have z : (4 : Int32).toInt = 4 := rfl
    have b0 : 0 ≤ n.toInt := by omega
    have b1 : n.toInt < (q.1 60 6).toInt := by omega
    have v1 : vin n 12 := ⟨b0, by show n.toInt < 12; omega⟩
    have r := RY_rholder h n.toNatClampNeg (by rw [cnI b0]; exact b1)
    have e : q.1 7 n.toNatClampNeg = q.1 65 n.toNatClampNeg := congrFun (RY_holder h) _
    refine ⟨q.1 65 n.toNatClampNeg, ?_, ?_, ?_⟩
    · rw [x_get4 (by rw [ek]; exact k12), if_pos (by rw [ek]; exact ⟨b0, b1⟩), e]
    · exact if_pos v1
    · unfold okV
      simp only [Int32.reduceToInt]
      omega
  · have z : (5 : Int32).toInt = 5 := rfl
    have b0 : 0 ≤ n.toInt := by omega
    have b1 : n.toInt < (q.1 60 6).toInt := by omega
    have v1 : vin n 12 := ⟨b0, by show n.toInt < 12; omega⟩
    have r := RY_rforged h n.toNatClampNeg (by rw [cnI b0]; exact b1)
    have e : q.1 8 n.toNatClampNeg = q.1 66 n.toNatClampNeg := congrFun (RY_forged h) _
    refine ⟨q.1 66 n.toNatClampNeg, ?_, ?_, ?_⟩
    · rw [x_get5 (by rw [ek]; exact k12), if_pos (by rw [ek]; exact ⟨b0, b1⟩), e]
    · exact if_pos v1
    · unfold okV
      simp only [Int32.reduceToInt]
      omega
  · have z : (6 : Int32).toInt = 6 := rfl
    have b0 : 0 ≤ n.toInt := by omega
    have b1 : n.toInt < (q.1 60 6).toInt := by omega
    have v1 : vin n 12 := ⟨b0, by show n.toInt < 12; omega⟩
    have r := RY_rfolds h n.toNatClampNeg (by rw [cnI b0]; exact b1)
    have e : q.1 9 n.toNatClampNeg = q.1 67 n.toNatClampNeg := congrFun (RY_folds h) _
    refine ⟨q.1 67 n.toNatClampNeg, ?_, ?_, ?_⟩
    · rw [x_get6 (by rw [ek]; exact k12), if_pos (by rw [ek]; exact ⟨b0, b1⟩), e]
    · exact if_pos v1
    · unfold okV
      simp only [Int32.reduceToInt]
      omega
  · have z : (7 : Int32).toInt = 7 := rfl
    have e : n = 0 := eq0.mpr (by omega)
    subst e
    have r0 := RY_h0 h
    have r1 := RY_h11 h
    refine ⟨q.1 68 0, ?_, rfl, ?_⟩
    · rw [x_get70, RY_hour h]
    · unfold okV
      simp only [Int32.reduceToInt]
      omega
  · have z : (8 : Int32).toInt = 8 := rfl
    have e : n = 0 := eq0.mpr (by omega)
    subst e
    have r0 := RY_s0 h
    have r1 := RY_s9 h
    refine ⟨q.1 68 1, ?_, rfl, ?_⟩
    · rw [x_get80, RY_seen h]
    · unfold okV
      simp only [Int32.reduceToInt]
      omega
theorem RY_set {q : SS} (h : RY q) {w n v : Int32} (hn : okN (q.1 60 1).toInt (q.1 60 6).toInt w.toInt n.toInt) (hv : okV (q.1 60 1).toInt w.toInt v.toInt) : RY (LAY (sI q (3 + w.toNatClampNeg) n.toNatClampNeg v) w n v) := by
  have h0 : 0 ≤ w.toInt := by clear hv; omega
  have h8 : w.toInt ≤ 8 := by clear hv; omega
  have v0 := hv.1
  rcases w08 h0 h8 with rfl | rfl | rfl | rfl | rfl | rfl | rfl | rfl | rfl
  · have z : (0 : Int32).toInt = 0 := rfl
    have b0 := hv.2.1 (by decide)
    clear hv
    have n0 : 0 ≤ n.toInt := by omega
    exact RY_set0 h (by rw [cnI n0]; omega) v0 b0
  · have z : (1 : Int32).toInt = 1 := rfl
    have b0 := hv.2.2.1 (by decide)
    clear hv
    have n0 : 0 ≤ n.toInt := by omega
    exact RY_set1 h (by rw [cnI n0]; omega) v0 b0
  · have z : (2 : Int32).toInt = 2 := rfl
    have b0 := hv.2.2.2.1 (by decide)
    clear hv
    have n0 : 0 ≤ n.toInt := by omega
    exact RY_set2 h (by rw [cnI n0]; omega) v0 b0
  · have z : (3 : Int32).toInt = 3 := rfl
    have b0 := hv.2.2.2.2.1 (by decide)
    clear hv
    have n0 : 0 ≤ n.toInt := by omega
    exact RY_set3 h (by rw [cnI n0]; omega) v0 b0
  · have z : (4 : Int32).toInt = 4 := rfl
    have b0 := hv.2.2.2.2.2.1 (by decide)
    clear hv
    have n0 : 0 ≤ n.toInt := by omega
    exact RY_set4 h (by rw [cnI n0]; omega) v0 b0
  · have z : (5 : Int32).toInt = 5 := rfl
    have b0 := hv.2.2.2.2.2.2.1 (by decide)
    clear hv
    have n0 : 0 ≤ n.toInt := by omega
    exact RY_set5 h (by rw [cnI n0]; omega) v0 b0
  · have z : (6 : Int32).toInt = 6 := rfl
    have b0 := hv.2.2.2.2.2.2.2.1 (by decide)
    clear hv
    have n0 : 0 ≤ n.toInt := by omega
    exact RY_set6 h (by rw [cnI n0]; omega) v0 b0
  · have z : (7 : Int32).toInt = 7 := rfl
    have e : n = 0 := eq0.mpr (by clear hv; omega)
    subst e
    exact RY_set7 h v0 (hv.2.2.2.2.2.2.2.2.1 (by decide))
  · have z : (8 : Int32).toInt = 8 := rfl
    have e : n = 0 := eq0.mpr (by clear hv; omega)
    subst e
    exact RY_set8 h v0 (hv.2.2.2.2.2.2.2.2.2 (by decide))
/-! ===== what stands now, in thought; fold, hour, slip ===== -/
theorem Fr_sI2 {w : Nat → Nat → Bool} {v : Nat → Bool} {a b : SS} {k i : Nat} {x : Int32} (h : Fr w v a b) : Fr w v (sI a k i x) (sI b k i x) := by
  refine ⟨fun k2 i2 e => ?_, h.2⟩
  rw [sI_rd, sI_rd, h.1 k2 i2 e]
theorem x_begin {q : SS} (h : RY q) : T (f_X8_begin q) (fun r => r.2 = q.2 ∧ (∀ k, k ≠ 25 → r.1 k = q.1 k) ∧ ∀ t : Nat, (t : Int) < (q.1 60 6).toInt → r.1 25 t = q.1 65 t) := by
  have k0 := RY_k0 h
  have k12 := RY_k12 h
  have ek := RY_k h
  have l12 : (12 : Int32).toInt = 12 := rfl
  unfold f_X8_begin b_X8_begin_2
  refine T_fx2 (fun q' l1 => 0 ≤ l1.toInt ∧ l1.toInt ≤ 12 ∧ q'.2 = q.2 ∧ (∀ k, k ≠ 25 → q'.1 k = q.1 k) ∧ ∀ t : Nat, (t : Int) < l1.toInt → (t : Int) < (q.1 60 6).toInt → q'.1 25 t = q.1 65 t) (fun _ l1 => (12 - l1.toInt).toNat) ?_ _ _ _ ⟨by decide, by decide, rfl, fun _ _ => rfl, fun t ht => absurd ht (by simp only [Int32.reduceToInt]; omega)⟩ (by unfold FU; decide)
  rintro rec q' l1 ⟨g0, g1, g2, g3, g4⟩ hr
  refine T_le (fun g => T_some.mpr ⟨g2, g3, fun t ht => g4 t (by omega) ht⟩) (fun g => ?_)
  have e1 := inc1 (a := l1) (by omega) (by omega)
  have c1 := cnI g0
  refine T_rw (x_get4 (q := q') (by rw [g3 1 (by decide), ek]; exact k12) l1) (T_vp g0 (by show l1.toInt < 12; omega) (T_nm (hr _ _ ⟨by omega, by omega, g2, fun k hk => (sI_ro hk).trans (g3 k hk), fun t ht hk => ?_⟩ (by omega))))
  rw [sI_rd]
  by_cases e : t = l1.toNatClampNeg
  · rw [if_pos ⟨rfl, e⟩, g3 1 (by decide), g3 7 (by decide), ek, if_pos ⟨g0, by omega⟩, e, RY_holder h]
  · rw [if_neg (fun x => e x.2)]
    exact g4 t (by omega) hk
theorem m_layNow {q : SS} (k0 : 0 ≤ (q.1 60 6).toInt) (k12 : (q.1 60 6).toInt ≤ 12) : T (f_X12_layNow q) (fun r => r.2 = q.2 ∧ (∀ k, k ≠ 81 → k ≠ 60 → r.1 k = q.1 k) ∧ (∀ i, i ≠ 32 → r.1 60 i = q.1 60 i) ∧ r.1 60 32 = q.1 68 0 ∧ ∀ t : Nat, r.1 81 t = if (t : Int) < (q.1 60 6).toInt then q.1 65 t else q.1 81 t) := by
  unfold f_X12_layNow b_X12_layNow_2
  refine T_fx2 (fun q' l1 => 0 ≤ l1.toInt ∧ l1.toInt ≤ (q.1 60 6).toInt ∧ q'.2 = q.2 ∧ (∀ k, k ≠ 81 → q'.1 k = q.1 k) ∧ ∀ t : Nat, q'.1 81 t = if (t : Int) < l1.toInt then q.1 65 t else q.1 81 t) (fun _ l1 => (12 - l1.toInt).toNat) ?_ _ _ _ ⟨by decide, by simp only [Int32.reduceToInt]; omega, rfl, fun _ _ => rfl, fun t => by rw [if_neg]; simp only [Int32.reduceToInt]; omega⟩ (by unfold FU; decide)
  rintro rec q' l1 ⟨g0, g1, g2, g3, g4⟩ hr
  rw [g3 60 (by decide)]
  refine T_le (fun g => T_vp (by decide) (by decide) (T_nm (T_some.mpr ⟨g2, fun k hk h6 => (sI_ro h6).trans (g3 k hk), fun i hi => ?_, ?_, fun t => ?_⟩))) (fun g => ?_)
  · rw [sI_rd, if_neg (fun x => hi x.2), g3 60 (by decide)]
  · rw [sI_rd, if_pos ⟨rfl, rfl⟩, g3 68 (by decide)]
    rfl
  · rw [sI_rd, if_neg (fun x => absurd x.1 (by decide)), g4 t]
    have : l1.toInt = (q.1 60 6).toInt := by omega
    rw [this]
  · have e1 := inc1 (a := l1) (by omega) (by omega)
    have c1 := cnI g0
    refine T_vp g0 (by show l1.toInt < 12; omega) (T_vp g0 (by show l1.toInt < 12; omega) (T_nm (hr _ _ ⟨by omega, by omega, g2, fun k hk => (sI_ro hk).trans (g3 k hk), fun t => ?_⟩ (by omega))))
    rw [sI_rd]
    by_cases e : t = l1.toNatClampNeg
    · rw [if_pos ⟨rfl, e⟩, g3 65 (by decide), if_pos (by omega), e]
    · rw [if_neg (fun x => e x.2), g4 t]
      have : ((t : Int) < l1.toInt) ↔ ((t : Int) < (l1 + 1).toInt) := by omega
      simp only [this]
/-- behind the class's begin -/
theorem INV_begin {q r : SS} (h : INV q) (h2 : r.2 = q.2) (h1 : ∀ k, k ≠ 25 → r.1 k = q.1 k) : INV r := by
  have f : Fr wX vX q r := ⟨fun k i e => by
    have : k ≠ 25 := by
      rintro rfl
      exact absurd e (by unfold wX wE; simp)
    rw [h1 k this], fun k _ => by rw [h2]⟩
  exact INV_wX f (RJ_fr (q := q) (h1 81 (by decide)) (congrFun (h1 37 (by decide)) 3) (INV_RJ h)) h
/-- behind the model's layNow -/
theorem INV_lay {q r : SS} (h : INV q) (h2 : r.2 = q.2) (h1 : ∀ k, k ≠ 81 → k ≠ 60 → r.1 k = q.1 k) (h60 : ∀ i, i ≠ 32 → r.1 60 i = q.1 60 i) (h81 : ∀ t : Nat, r.1 81 t = if (t : Int) < (q.1 60 6).toInt then q.1 65 t else q.1 81 t) : INV r := by
  have f : Fr wM vM q r := ⟨fun k i e => by
    by_cases e81 : k = 81
    · subst e81
      exact absurd e (by unfold wM wF; simp)
    by_cases e60 : k = 60
    · subst e60
      by_cases e32 : i = 32
      · subst e32
        exact absurd e (by decide)
      · exact h60 i e32
    · rw [h1 k e81 e60], fun k _ => by rw [h2]⟩
  have p6 := RY_p6 (INV_RY h)
  have j := INV_RJ h
  refine INV_wM f ⟨?_, ?_, fun t ht => ?_⟩ h
  · rw [h1 37 (by decide) (by decide)]; exact RJ_e0 j
  · rw [h1 37 (by decide) (by decide)]; exact RJ_e12 j
  · rw [h81 t]
    by_cases e : (t : Int) < (q.1 60 6).toInt
    · rw [if_pos e]
      have := RY_rholder (INV_RY h) t e
      omega
    · rw [if_neg e]
      exact RJ_h1 j t ht
theorem op_fold {q : SS} (h : INV q) (a : Int32) : T (f_X11_fold q a) (fun r => T (f_X12_fold r.2 a) (fun s => INV s.2 ∧ r.1 = s.1)) := by
  have hY := INV_RY h
  have hD := INV_RD h
  have k0 := RY_k0 hY
  have k12 := RY_k12 hY
  have p6 := RY_p6 hY
  have ek := RY_k hY
  have ep := RY_p hY
  have l4 : (4 : Int32).toInt = 4 := rfl
  unfold f_X11_fold
  refine T_rw (x_isTicket q a) ?_
  rw [ek]
  by_cases c : 0 ≤ a.toInt ∧ a.toInt < (q.1 60 6).toInt
  · refine T_bp c (T_rw (x_get6 (q := q) (by rw [ek]; exact k12) a) ?_)
    rw [ek, if_pos c, RY_folds hY]
    have r := RY_rfolds hY a.toNatClampNeg (by rw [cnI c.1]; exact c.2)
    refine T_lt (fun g => T_rw (x_note 2 (by decide) (by decide)) ?_) (fun g => T_some.mpr ?_)
    · have e1 := inc1 (a := q.1 67 a.toNatClampNeg) (by omega) (by omega)
      refine T_rw (x_set (q := sI q 48 2 (q.1 48 2 + 1)) (by show (q.1 1 1).toInt ≤ 6; rw [ep]; exact p6) (by show (q.1 1 2).toInt ≤ 12; rw [ek]; exact k12) 6 a (q.1 67 a.toNatClampNeg + 1)) ?_
      have o : okN ((sI q 48 2 (q.1 48 2 + 1)).1 1 1).toInt ((sI q 48 2 (q.1 48 2 + 1)).1 1 2).toInt (6 : Int32).toInt a.toInt := Or.inr (Or.inl ⟨by decide, by decide, c.1, by show a.toInt < (q.1 1 2).toInt; rw [ek]; exact c.2⟩)
      rw [if_pos o]
      refine T_some.mpr ?_
      unfold f_X12_fold
      have v0 : ∀ {n : Nat}, 12 ≤ n → a.toInt < (n : Int) := fun hn => by omega
      refine T_rw (m_isTicket (q := sI (sI q 48 2 (q.1 48 2 + 1)) 9 a.toNatClampNeg (q.1 67 a.toNatClampNeg + 1)) k0 a) (T_bp c (T_vp c.1 (v0 (by decide)) (T_q (by show ¬ q.1 67 a.toNatClampNeg = 4; intro k; rw [k] at g; exact absurd g (by decide)) (T_vp c.1 (v0 (by decide)) (T_vp c.1 (v0 (by decide)) (T_nm (T_vp (by decide) (by decide) (T_vp (by decide) (by decide) (T_nm (T_vp c.1 (v0 (by decide)) (T_some.mpr ⟨?_, ?_⟩)))))))))))
      · show INV (sI (sI (sI (sI q 48 2 (q.1 48 2 + 1)) 9 a.toNatClampNeg (q.1 67 a.toNatClampNeg + 1)) 67 a.toNatClampNeg (q.1 67 a.toNatClampNeg + 1)) 83 2 (q.1 83 2 + 1))
        refine ⟨RY_fr (q := sI (sI q 9 a.toNatClampNeg (q.1 67 a.toNatClampNeg + 1)) 67 a.toNatClampNeg (q.1 67 a.toNatClampNeg + 1)) rfl rfl rfl rfl rfl rfl rfl rfl rfl rfl rfl rfl rfl rfl rfl rfl rfl rfl rfl rfl rfl rfl (RY_set6 hY (by rw [cnI c.1]; exact c.2) (by omega) (by omega)), RC_fr (q := q) rfl rfl rfl rfl rfl rfl rfl rfl rfl rfl rfl rfl rfl rfl (INV_RC h), RD_note (k := 2) hD (fun j => ?_) (fun j => ?_) (fun z hz => ?_) (fun i hi => rfl), RT_fr (q := q) rfl rfl rfl rfl (INV_RT h), RH_fr (q := q) rfl rfl rfl rfl rfl rfl rfl rfl (INV_RH h), RS_fr (q := q) rfl rfl rfl rfl rfl rfl rfl (fun _ _ => rfl) (INV_RS h), RW_fr (q := q) rfl rfl rfl rfl rfl rfl (INV_RW h), RJ_fr (q := q) rfl rfl (INV_RJ h)⟩
        · simp [sI_rd]
        · simp [sI_rd]
        · simp at hz
          rcases hz with rfl | rfl | rfl | rfl | rfl | rfl | rfl <;> rfl
      · exact (if_pos ⟨rfl, rfl⟩ : (if 67 = 67 ∧ a.toNatClampNeg = a.toNatClampNeg then q.1 67 a.toNatClampNeg + 1 else q.1 67 a.toNatClampNeg) = _).symm
    · have e4 : q.1 67 a.toNatClampNeg = 4 := Int32.toInt_inj.mp (by omega)
      unfold f_X12_fold
      exact T_rw (m_isTicket k0 a) (T_bp c (T_vp c.1 (by show a.toInt < 12; omega) (T_p e4 (T_some.mpr ⟨h, rfl⟩))))
  · refine T_bn c (T_some.mpr ?_)
    unfold f_X12_fold
    exact T_rw (m_isTicket k0 a) (T_bn c (T_some.mpr ⟨h, rfl⟩))
theorem op_hour {q : SS} (h : INV q) : T (f_X11_hour q) (fun r => T (f_X12_hour r.2) (fun s => INV s.2 ∧ r.1 = s.1)) := by
  have hY := INV_RY h
  have hD := INV_RD h
  have h0 := RY_h0 hY
  have h11 := RY_h11 hY
  have eh := RY_hour hY
  have l11 : (11 : Int32).toInt = 11 := rfl
  have fin : ∀ v : Int32, 0 ≤ v.toInt → v.toInt ≤ 11 → v = (if q.1 68 0 = 11 then 0 else q.1 68 0 + 1) → T (b_X11_hour_25 q v) (fun r => T (f_X12_hour r.2) (fun s => INV s.2 ∧ r.1 = s.1)) := by
    intro v v0 v1 ev
    unfold b_X11_hour_25
    refine T_rw (x_note 3 (by decide) (by decide)) (T_rw (x_set (q := sI q 48 3 (q.1 48 3 + 1)) (by show (q.1 1 1).toInt ≤ 6; rw [RY_p hY]; exact RY_p6 hY) (by show (q.1 1 2).toInt ≤ 12; rw [RY_k hY]; exact RY_k12 hY) 7 0 v) ?_)
    rw [if_pos (Or.inr (Or.inr ⟨by decide, by decide, rfl⟩))]
    refine T_some.mpr ?_
    unfold f_X12_hour
    have inv : INV (sI (sI (sI (sI q 48 3 (q.1 48 3 + 1)) 10 0 v) 68 0 v) 83 3 (q.1 83 3 + 1)) := by
      refine ⟨RY_fr (q := sI (sI q 10 0 v) 68 0 v) rfl rfl rfl rfl rfl rfl rfl rfl rfl rfl rfl rfl rfl rfl rfl rfl rfl rfl rfl rfl rfl rfl (RY_set7 hY v0 v1), RC_fr (q := q) rfl rfl rfl rfl rfl rfl rfl rfl rfl rfl rfl rfl rfl rfl (INV_RC h), RD_note (k := 3) hD (fun j => ?_) (fun j => ?_) (fun z hz => ?_) (fun i hi => rfl), RT_fr (q := q) rfl rfl rfl rfl (INV_RT h), RH_fr (q := q) rfl rfl rfl rfl rfl rfl rfl rfl (INV_RH h), RS_fr (q := q) rfl rfl rfl rfl rfl rfl rfl (fun _ _ => rfl) (INV_RS h), RW_fr (q := q) rfl rfl rfl rfl rfl rfl (INV_RW h), RJ_fr (q := q) rfl rfl (INV_RJ h)⟩
      · simp [sI_rd]
      · simp [sI_rd]
      · simp at hz
        rcases hz with rfl | rfl | rfl | rfl | rfl | rfl | rfl <;> rfl
    have fin2 : T (b_X12_hour_28 (sI (sI q 48 3 (q.1 48 3 + 1)) 10 0 v) v 0) (fun s => INV s.2 ∧ v = s.1) := by
      unfold b_X12_hour_28
      exact T_vp (by decide) (by decide) (T_nm (T_vp (by decide) (by decide) (T_vp (by decide) (by decide) (T_nm (T_vp (by decide) (by decide) (T_some.mpr ⟨inv, rfl⟩))))))
    refine T_vp (by decide) (by decide) ?_
    by_cases g : q.1 68 0 = 11
    · rw [if_pos g] at ev
      subst ev
      exact T_p g fin2
    · rw [if_neg g] at ev
      subst ev
      exact T_q g (T_vp (by decide) (by decide) fin2)
  unfold f_X11_hour
  refine T_rw (x_hourNow q) ?_
  rw [eh]
  refine T_lt (fun g => T_rw (x_hourNow q) ?_) (fun g => ?_)
  · rw [eh]
    have e1 := inc1 (a := q.1 68 0) (by omega) (by omega)
    exact fin _ (by omega) (by omega) (by rw [if_neg]; intro k; rw [k] at g; exact absurd g (by decide))
  · exact fin 0 (by decide) (by decide) (by rw [if_pos]; exact Int32.toInt_inj.mp (by omega))
theorem areS {P K : Int} {a : Int32} (c : 0 ≤ a.toInt ∧ a.toInt / 8 < K ∧ a.toInt % 8 < P) : jshr a 3 = a / 8 ∧ a &&& 7 = jrem a 8 ∧ 0 ≤ (a / 8).toInt ∧ (a / 8).toInt < K ∧ 0 ≤ (jrem a 8).toInt ∧ (jrem a 8).toInt < P := by
  have d := div8 c.1
  have r := rem8 c.1
  exact ⟨shr_div c.1, and_rem c.1, by omega, by omega, by omega, by omega⟩
theorem op_slip {q : SS} (h : INV q) (a b : Int32) : T (f_X11_slip q a b) (fun r => T (f_X12_slip r.2 a b) (fun s => INV s.2 ∧ r.1 = s.1)) := by
  have hY := INV_RY h
  have p0 := RY_p0 hY
  have p6 := RY_p6 hY
  have k0 := RY_k0 hY
  have k12 := RY_k12 hY
  have ek := RY_k hY
  have ep := RY_p hY
  have l1 : (1 : Int32).toInt = 1 := rfl
  have l0 : (0 : Int32).toInt = 0 := rfl
  have m1 : ∀ r, f_X12_in r b 0 1 = some (bI (0 ≤ b.toInt ∧ b.toInt ≤ 1)) := fun r => m_in r b 0 1
  unfold f_X11_slip
  refine T_rw (x_isSlipping q a) ?_
  rw [ek, ep]
  by_cases c : 0 ≤ a.toInt ∧ a.toInt / 8 < (q.1 60 6).toInt ∧ a.toInt % 8 < (q.1 60 1).toInt
  · obtain ⟨es, er, d0, d1, r0, r1⟩ := areS c
    refine T_bp c ?_
    by_cases w : 0 ≤ b.toInt ∧ b.toInt ≤ 1
    · refine T_ltn w.1 (T_lep w.2 (T_nm (T_nm ?_)))
      rw [es, er]
      generalize ha : a / 8 = t at *
      generalize hb : jrem a 8 = p at *
      unfold f_X11_now
      refine T_b (T_b (x_begin hY) (fun r hr => T_some.mpr hr)) (fun r hr => ?_)
      obtain ⟨hr2, hr1, hr25⟩ := hr
      have hI := INV_begin h hr2 hr1
      have hYr := INV_RY hI
      have i60 : r.1 60 = q.1 60 := hr1 60 (by decide)
      have i1 : r.1 1 = q.1 1 := hr1 1 (by decide)
      have ek' : r.1 1 2 = q.1 60 6 := by rw [i1, ek]
      have ep' : r.1 1 1 = q.1 60 1 := by rw [i1, ep]
      have k12' : (r.1 1 2).toInt ≤ 12 := by rw [ek']; exact k12
      have p6' : (r.1 1 1).toInt ≤ 6 := by rw [ep']; exact p6
      have ct := cnI d0
      refine T_rw (x_canSlip (q := r) p6' k12' t p) ?_
      have e25 : r.1 25 t.toNatClampNeg = q.1 65 t.toNatClampNeg := hr25 _ (by omega)
      have e9 : r.1 9 t.toNatClampNeg = q.1 67 t.toNatClampNeg := by rw [hr1 9 (by decide), RY_folds hY]
      have e4 : r.1 4 p.toNatClampNeg = q.1 62 p.toNatClampNeg := by rw [hr1 4 (by decide), RY_child hY]
      rw [ek', ep', e25, e9, e4]
      have rf := RY_rfolds hY t.toNatClampNeg (by omega)
      have l4 : (4 : Int32).toInt = 4 := rfl
      have f4 : (q.1 67 t.toNatClampNeg).toInt < 4 ↔ q.1 67 t.toNatClampNeg ≠ 4 := ⟨fun g k => by rw [k] at g; exact absurd g (by decide), fun g => by have : (q.1 67 t.toNatClampNeg).toInt ≠ 4 := fun k => g (Int32.toInt_inj.mp k); omega⟩
      -- the model behind any writes of the class's cells
      have mod : ∀ {P : Int32 × SS → Prop} (z : SS), (∀ k, 60 ≤ k → z.1 k = r.1 k) → (∀ z3 : SS, z3.2 = z.2 → (∀ k, k ≠ 81 → k ≠ 60 → z3.1 k = z.1 k) → (∀ i, i ≠ 32 → z3.1 60 i = z.1 60 i) → (∀ t : Nat, z3.1 81 t = if (t : Int) < (q.1 60 6).toInt then q.1 65 t else q.1 81 t) → T (if bI (q.1 67 t.toNatClampNeg ≠ 4 ∧ q.1 65 t.toNatClampNeg ≠ p ∧ q.1 62 p.toNatClampNeg = 0) = 0 then (some ((-5 : Int32), z3)) else (if b = (1 : Int32) then (if vin t 12 then nm (sI z3 65 t.toNatClampNeg p) fun q5 => b_X12_slip_59 q5 a b else none) else (b_X12_slip_59 z3 a b))) P) → T (f_X12_slip z a b) P := by
        intro P z hz k
        have z60 : z.1 60 = q.1 60 := (hz 60 (by decide)).trans i60
        unfold f_X12_slip
        refine T_rw (m_areSlip (by rw [z60]; exact p0) (by rw [z60]; exact k0) a) ?_
        rw [z60]
        refine T_bp c (T_rw (m1 _) (T_bp w (T_b (m_layNow (by rw [z60]; exact k0) (by rw [z60]; exact k12)) (fun z3 hz3 => ?_))))
        obtain ⟨a1, a2, a3, a4, a5⟩ := hz3
        rw [ha, hb]
        have a5' : ∀ t : Nat, z3.1 81 t = if (t : Int) < (q.1 60 6).toInt then q.1 65 t else q.1 81 t := fun t => by
          rw [a5 t, z60, hz 65 (by decide), hz 81 (by decide), hr1 65 (by decide), hr1 81 (by decide)]
        refine T_rw (m_maySlip (q := z3) ⟨d0, by omega⟩ ⟨r0, by omega⟩) ?_
        rw [a5' t.toNatClampNeg, if_pos (show (t.toNatClampNeg : Int) < (q.1 60 6).toInt by omega), a2 67 (by decide) (by decide), a2 62 (by decide) (by decide), hz 67 (by decide), hz 62 (by decide), hr1 67 (by decide), hr1 62 (by decide)]
        exact k z3 a1 a2 a3 a5'
      refine T_bi (fun g => T_some.mpr (mod r (fun _ _ => rfl) (fun z3 a1 a2 a3 a5 => T_bn ?_ (T_some.mpr ⟨?_, rfl⟩)))) (fun g => ?_)
      · intro k
        exact g ⟨d0, d1, f4.mpr k.1, k.2.1, r0, r1, k.2.2⟩
      · exact INV_lay hI a1 a2 a3 (fun t => by rw [a5 t, i60, hr1 65 (by decide), hr1 81 (by decide)])
      · have g' : q.1 67 t.toNatClampNeg ≠ 4 ∧ q.1 65 t.toNatClampNeg ≠ p ∧ q.1 62 p.toNatClampNeg = 0 := ⟨f4.mp g.2.2.1, g.2.2.2.1, g.2.2.2.2.2.2⟩
        refine T_rw (x_note 0 (by decide) (by decide)) ?_
        by_cases e : b = 1
        · subst e
          refine T_p rfl (T_rw (x_note 1 (by decide) (by decide)) ?_)
          have o : okN (r.1 1 1).toInt (r.1 1 2).toInt (4 : Int32).toInt t.toInt := Or.inr (Or.inl ⟨by decide, by decide, d0, by rw [ek']; exact d1⟩)
          refine T_rw (x_set (q := sI (sI r 48 0 (r.1 48 0 + 1)) 48 1 ((sI r 48 0 (r.1 48 0 + 1)).1 48 1 + 1)) p6' k12' 4 t p) ?_
          rw [if_pos (show okN ((sI (sI r 48 0 (r.1 48 0 + 1)) 48 1 ((sI r 48 0 (r.1 48 0 + 1)).1 48 1 + 1)).1 1 1).toInt ((sI (sI r 48 0 (r.1 48 0 + 1)) 48 1 ((sI r 48 0 (r.1 48 0 + 1)).1 48 1 + 1)).1 1 2).toInt (4 : Int32).toInt t.toInt from o)]
          unfold b_X11_slip_80
          refine T_rw (x_get4 (q := sI (sI (sI r 48 0 (r.1 48 0 + 1)) 48 1 ((sI r 48 0 (r.1 48 0 + 1)).1 48 1 + 1)) 7 t.toNatClampNeg p) k12' t) ?_
          have ev : (if 0 ≤ t.toInt ∧ t.toInt < ((sI (sI (sI r 48 0 (r.1 48 0 + 1)) 48 1 ((sI r 48 0 (r.1 48 0 + 1)).1 48 1 + 1)) 7 t.toNatClampNeg p).1 1 2).toInt then (sI (sI (sI r 48 0 (r.1 48 0 + 1)) 48 1 ((sI r 48 0 (r.1 48 0 + 1)).1 48 1 + 1)) 7 t.toNatClampNeg p).1 7 t.toNatClampNeg else 0) = p := by
            rw [if_pos ⟨d0, by show t.toInt < (r.1 1 2).toInt; rw [ek']; exact d1⟩, rds]
          rw [ev]
          refine T_some.mpr (mod _ (fun k hk => by show (sI _ 7 _ _).1 k = _; rw [sI_ro (by omega), sI_ro (by omega), sI_ro (by omega)]) (fun z3 a1 a2 a3 a5 => T_bp g' (T_p rfl (T_vp d0 (by show t.toInt < 12; omega) (T_nm ?_)))))
          have B : INV (sI (sI (sI (sI (sI (sI r 48 0 (r.1 48 0 + 1)) 48 1 (r.1 48 1 + 1)) 7 t.toNatClampNeg p) 65 t.toNatClampNeg p) 83 0 (r.1 83 0 + 1)) 83 1 (r.1 83 1 + 1)) := by
            have hD1 : RD (sI (sI r 48 0 (r.1 48 0 + 1)) 83 0 (r.1 83 0 + 1)) := RD_note (k := 0) (INV_RD hI) (fun j => by simp [sI_rd]) (fun j => by simp [sI_rd]) (fun z hz => by simp at hz; rcases hz with rfl | rfl | rfl | rfl | rfl | rfl | rfl <;> rfl) (fun i hi => rfl)
            refine ⟨RY_fr (q := sI (sI r 7 t.toNatClampNeg p) 65 t.toNatClampNeg p) rfl rfl rfl rfl rfl rfl rfl rfl rfl rfl rfl rfl rfl rfl rfl rfl rfl rfl rfl rfl rfl rfl (RY_set4 hYr (by rw [i60]; omega) r0 (by rw [i60]; exact r1)), RC_fr (q := r) rfl rfl rfl rfl rfl rfl rfl rfl rfl rfl rfl rfl rfl rfl (INV_RC hI), RD_note (k := 1) hD1 (fun j => ?_) (fun j => ?_) (fun z hz => ?_) (fun i hi => rfl), RT_fr (q := r) rfl rfl rfl rfl (INV_RT hI), RH_fr (q := r) rfl rfl rfl rfl rfl rfl rfl rfl (INV_RH hI), RS_fr (q := r) rfl rfl rfl rfl rfl rfl rfl (fun _ _ => rfl) (INV_RS hI), RW_fr (q := r) rfl rfl rfl rfl rfl rfl (INV_RW hI), RJ_fr (q := r) rfl rfl (INV_RJ hI)⟩
            · simp [sI_rd]
            · simp [sI_rd]
            · simp at hz
              rcases hz with rfl | rfl | rfl | rfl | rfl | rfl | rfl <;> rfl
          unfold b_X12_slip_59
          refine T_vp (by decide) (by decide) (T_vp (by decide) (by decide) (T_nm (T_vp (by decide) (by decide) (T_vp (by decide) (by decide) (T_nm ?_)))))
          rw [ha]
          refine T_vp d0 (by show t.toInt < 12; omega) (T_some.mpr ⟨?_, ?_⟩)
          · have z83 : z3.1 83 = r.1 83 := by rw [a2 83 (by decide) (by decide), sI_ro (by decide), sI_ro (by decide), sI_ro (by decide)]
            show INV (sI (sI (sI z3 65 t.toNatClampNeg p) 83 0 (z3.1 83 0 + 1)) 83 1 (z3.1 83 1 + 1))
            rw [z83]
            have f : Fr wM vM (sI (sI (sI r 48 0 (r.1 48 0 + 1)) 48 1 (r.1 48 1 + 1)) 7 t.toNatClampNeg p) z3 := ⟨fun k i e => by
              by_cases e81 : k = 81
              · subst e81
                exact absurd e (by unfold wM wF; simp)
              by_cases e60 : k = 60
              · subst e60
                by_cases e32 : i = 32
                · subst e32
                  exact absurd e (by decide)
                · exact a3 i e32
              · rw [a2 k e81 e60]; rfl, fun k _ => by rw [a1]; rfl⟩
            refine INV_wM (Fr_sI2 (Fr_sI2 (Fr_sI2 f))) ?_ B
            refine ⟨?_, ?_, fun t ht => ?_⟩
            · have j := RJ_e0 (INV_RJ hI)
              have e : z3.1 37 3 = r.1 37 3 := by rw [a2 37 (by decide) (by decide)]; rfl
              show 0 ≤ (z3.1 37 3).toInt
              rw [e]; exact j
            · have j := RJ_e12 (INV_RJ hI)
              have e : z3.1 37 3 = r.1 37 3 := by rw [a2 37 (by decide) (by decide)]; rfl
              show (z3.1 37 3).toInt ≤ 12
              rw [e]; exact j
            · show 0 ≤ (z3.1 81 t).toInt ∧ (z3.1 81 t).toInt ≤ 5
              rw [a5 t]
              by_cases e : (t : Int) < (q.1 60 6).toInt
              · rw [if_pos e]
                have := RY_rholder hY t e
                omega
              · rw [if_neg e]
                exact RJ_h1 (INV_RJ h) t ht
          · exact (if_pos ⟨rfl, rfl⟩ : (if 65 = 65 ∧ t.toNatClampNeg = t.toNatClampNeg then p else z3.1 65 t.toNatClampNeg) = p).symm
        · have b0 : b = 0 := by
            have : b.toInt ≠ 1 := fun k => e (Int32.toInt_inj.mp k)
            exact Int32.toInt_inj.mp (by omega)
          subst b0
          refine T_q e ?_
          unfold b_X11_slip_80
          refine T_rw (x_get4 (q := sI r 48 0 (r.1 48 0 + 1)) k12' t) ?_
          have ev : (if 0 ≤ t.toInt ∧ t.toInt < ((sI r 48 0 (r.1 48 0 + 1)).1 1 2).toInt then (sI r 48 0 (r.1 48 0 + 1)).1 7 t.toNatClampNeg else 0) = q.1 65 t.toNatClampNeg := by
            rw [if_pos ⟨d0, by show t.toInt < (r.1 1 2).toInt; rw [ek']; exact d1⟩]
            show r.1 7 t.toNatClampNeg = _
            rw [hr1 7 (by decide), RY_holder hY]
          rw [ev]
          refine T_some.mpr (mod _ (fun k hk => by rw [sI_ro (by omega)]) (fun z3 a1 a2 a3 a5 => T_bp g' (T_q e ?_)))
          have B : INV (sI (sI (sI r 48 0 (r.1 48 0 + 1)) 83 0 (r.1 83 0 + 1)) 83 1 (r.1 83 1 + 0)) := by
            have hD1 : RD (sI (sI r 48 0 (r.1 48 0 + 1)) 83 0 (r.1 83 0 + 1)) := RD_note (k := 0) (INV_RD hI) (fun j => by simp [sI_rd]) (fun j => by simp [sI_rd]) (fun z hz => by simp at hz; rcases hz with rfl | rfl | rfl | rfl | rfl | rfl | rfl <;> rfl) (fun i hi => rfl)
            have e83 : (sI (sI (sI r 48 0 (r.1 48 0 + 1)) 83 0 (r.1 83 0 + 1)) 83 1 (r.1 83 1 + 0)).1 83 = (sI (sI r 48 0 (r.1 48 0 + 1)) 83 0 (r.1 83 0 + 1)).1 83 := by
              funext j
              by_cases ej : j = 1
              · subst ej
                simp [sI_rd]
              · simp [sI_rd, ej]
            exact ⟨RY_fr (q := r) rfl rfl rfl rfl rfl rfl rfl rfl rfl rfl rfl rfl rfl rfl rfl rfl rfl rfl rfl rfl rfl rfl hYr, RC_fr (q := r) rfl rfl rfl rfl rfl rfl rfl rfl rfl rfl rfl rfl rfl rfl (INV_RC hI), RD_fr (q := sI (sI r 48 0 (r.1 48 0 + 1)) 83 0 (r.1 83 0 + 1)) rfl rfl rfl rfl e83 rfl rfl rfl rfl rfl rfl rfl rfl rfl rfl rfl hD1, RT_fr (q := r) rfl rfl rfl rfl (INV_RT hI), RH_fr (q := r) rfl rfl rfl rfl rfl rfl rfl rfl (INV_RH hI), RS_fr (q := r) rfl rfl rfl rfl rfl rfl rfl (fun _ _ => rfl) (INV_RS hI), RW_fr (q := r) rfl rfl rfl rfl rfl rfl (INV_RW hI), RJ_fr (q := r) rfl rfl (INV_RJ hI)⟩
          unfold b_X12_slip_59
          refine T_vp (by decide) (by decide) (T_vp (by decide) (by decide) (T_nm (T_vp (by decide) (by decide) (T_vp (by decide) (by decide) (T_nm ?_)))))
          rw [ha]
          refine T_vp d0 (by show t.toInt < 12; omega) (T_some.mpr ⟨?_, ?_⟩)
          · have z83 : z3.1 83 = r.1 83 := by rw [a2 83 (by decide) (by decide), sI_ro (by decide)]
            show INV (sI (sI z3 83 0 (z3.1 83 0 + 1)) 83 1 (z3.1 83 1 + 0))
            rw [z83]
            have f : Fr wM vM (sI r 48 0 (r.1 48 0 + 1)) z3 := ⟨fun k i e => by
              by_cases e81 : k = 81
              · subst e81
                exact absurd e (by unfold wM wF; simp)
              by_cases e60 : k = 60
              · subst e60
                by_cases e32 : i = 32
                · subst e32
                  exact absurd e (by decide)
                · exact a3 i e32
              · rw [a2 k e81 e60]; rfl, fun k _ => by rw [a1]; rfl⟩
            refine INV_wM (Fr_sI2 (Fr_sI2 f)) ?_ B
            refine ⟨?_, ?_, fun t ht => ?_⟩
            · have j := RJ_e0 (INV_RJ hI)
              have e : z3.1 37 3 = r.1 37 3 := by rw [a2 37 (by decide) (by decide)]; rfl
              show 0 ≤ (z3.1 37 3).toInt
              rw [e]; exact j
            · have j := RJ_e12 (INV_RJ hI)
              have e : z3.1 37 3 = r.1 37 3 := by rw [a2 37 (by decide) (by decide)]; rfl
              show (z3.1 37 3).toInt ≤ 12
              rw [e]; exact j
            · show 0 ≤ (z3.1 81 t).toInt ∧ (z3.1 81 t).toInt ≤ 5
              rw [a5 t]
              by_cases e : (t : Int) < (q.1 60 6).toInt
              · rw [if_pos e]
                have := RY_rholder hY t e
                omega
              · rw [if_neg e]
                exact RJ_h1 (INV_RJ h) t ht
          · show q.1 65 t.toNatClampNeg = z3.1 65 t.toNatClampNeg
            rw [a2 65 (by decide) (by decide), sI_ro (by decide), hr1 65 (by decide)]
    · have key : T (f_X12_slip q a b) (fun s => INV s.2 ∧ -1 = s.1) := by
        unfold f_X12_slip
        exact T_rw (m_areSlip p0 k0 a) (T_bp c (T_rw (m1 _) (T_bn w (T_some.mpr ⟨h, rfl⟩))))
      refine T_lt (fun _ => T_some.mpr key) (fun g => T_le (fun g2 => absurd ⟨g, g2⟩ w) (fun _ => T_some.mpr key))
  · refine T_bn c (T_some.mpr ?_)
    unfold f_X12_slip
    exact T_rw (m_areSlip p0 k0 a) (T_bn c (T_some.mpr ⟨h, rfl⟩))
/-! ===== mend, undo, redo ===== -/
def wC (k i : Nat) : Bool := (Nat.ble 52 k && Nat.ble k 56) || (Nat.ble 69 k && Nat.ble k 72) || (k == 60 && (i == 11 || i == 12))
def wY (k _ : Nat) : Bool := (Nat.ble 3 k && Nat.ble k 11) || (Nat.ble 61 k && Nat.ble k 68)
def wD (k i : Nat) : Bool := (Nat.ble 47 k && Nat.ble k 51) || (Nat.ble 83 k && Nat.ble k 86) || (k == 60 && (i == 46 || i == 47 || i == 48))
theorem RY_wC {q q' : SS} (f : Fr wC v0 q q') (h : RY q) : RY q' := RY_fr (Fr_r f fun _ => rfl) (Fr_r f fun _ => rfl) (Fr_r f fun _ => rfl) (Fr_r f fun _ => rfl) (Fr_r f fun _ => rfl) (Fr_r f fun _ => rfl) (Fr_r f fun _ => rfl) (Fr_r f fun _ => rfl) (Fr_r f fun _ => rfl) (Fr_r f fun _ => rfl) (Fr_r f fun _ => rfl) (Fr_r f fun _ => rfl) (Fr_r f fun _ => rfl) (Fr_r f fun _ => rfl) (f.1 _ _ rfl) (f.1 _ _ rfl) (f.1 _ _ rfl) (f.1 _ _ rfl) (f.1 _ _ rfl) (f.1 _ _ rfl) (f.1 _ _ rfl) (f.1 _ _ rfl) h
theorem RD_wC {q q' : SS} (f : Fr wC v0 q q') (h : RD q) : RD q' := RD_fr (Fr_r f fun _ => rfl) (Fr_r f fun _ => rfl) (Fr_r f fun _ => rfl) (Fr_r f fun _ => rfl) (Fr_r f fun _ => rfl) (Fr_r f fun _ => rfl) (Fr_r f fun _ => rfl) (Fr_r f fun _ => rfl) (f.1 _ _ rfl) (f.1 _ _ rfl) (f.1 _ _ rfl) (f.1 _ _ rfl) (f.1 _ _ rfl) (f.1 _ _ rfl) (f.1 _ _ rfl) (f.1 _ _ rfl) h
theorem RT_wC {q q' : SS} (f : Fr wC v0 q q') (h : RT q) : RT q' := RT_fr (Fr_r f fun _ => rfl) (Fr_r f fun _ => rfl) (f.1 _ _ rfl) (f.1 _ _ rfl) h
theorem RH_wC {q q' : SS} (f : Fr wC v0 q q') (h : RH q) : RH q' := RH_fr (Fr_r f fun _ => rfl) (Fr_r f fun _ => rfl) (Fr_r f fun _ => rfl) (Fr_r f fun _ => rfl) (f.1 _ _ rfl) (f.1 _ _ rfl) (f.1 _ _ rfl) (f.1 _ _ rfl) h
theorem RS_wC {q q' : SS} (f : Fr wC v0 q q') (h : RS q) : RS q' := RS_fr (Fr_r f fun _ => rfl) (Fr_r f fun _ => rfl) (Fr_r f fun _ => rfl) (Fr_r f fun _ => rfl) (Fr_r f fun _ => rfl) (f.1 _ _ rfl) (f.2 _ rfl) (fun s _ => f.2 _ rfl) h
theorem RW_wC {q q' : SS} (f : Fr wC v0 q q') (h : RW q) : RW q' := RW_fr (Fr_r f fun _ => rfl) (Fr_r f fun _ => rfl) (Fr_r f fun _ => rfl) (Fr_r f fun _ => rfl) (f.1 _ _ rfl) (f.1 _ _ rfl) h
theorem RJ_wC {q q' : SS} (f : Fr wC v0 q q') (h : RJ q) : RJ q' := RJ_fr (Fr_r f fun _ => rfl) (f.1 _ _ rfl) h
theorem RC_wY {q q' : SS} (f : Fr wY v0 q q') (h : RC q) : RC q' := RC_fr (Fr_r f fun _ => rfl) (Fr_r f fun _ => rfl) (Fr_r f fun _ => rfl) (Fr_r f fun _ => rfl) (Fr_r f fun _ => rfl) (Fr_r f fun _ => rfl) (Fr_r f fun _ => rfl) (Fr_r f fun _ => rfl) (f.1 _ _ rfl) (f.1 _ _ rfl) (f.1 _ _ rfl) (f.1 _ _ rfl) (f.1 _ _ rfl) (f.1 _ _ rfl) h
theorem RD_wY {q q' : SS} (f : Fr wY v0 q q') (h : RD q) : RD q' := RD_fr (Fr_r f fun _ => rfl) (Fr_r f fun _ => rfl) (Fr_r f fun _ => rfl) (Fr_r f fun _ => rfl) (Fr_r f fun _ => rfl) (Fr_r f fun _ => rfl) (Fr_r f fun _ => rfl) (Fr_r f fun _ => rfl) (f.1 _ _ rfl) (f.1 _ _ rfl) (f.1 _ _ rfl) (f.1 _ _ rfl) (f.1 _ _ rfl) (f.1 _ _ rfl) (f.1 _ _ rfl) (f.1 _ _ rfl) h
theorem RT_wY {q q' : SS} (f : Fr wY v0 q q') (h : RT q) : RT q' := RT_fr (Fr_r f fun _ => rfl) (Fr_r f fun _ => rfl) (f.1 _ _ rfl) (f.1 _ _ rfl) h
theorem RH_wY {q q' : SS} (f : Fr wY v0 q q') (h : RH q) : RH q' := RH_fr (Fr_r f fun _ => rfl) (Fr_r f fun _ => rfl) (Fr_r f fun _ => rfl) (Fr_r f fun _ => rfl) (f.1 _ _ rfl) (f.1 _ _ rfl) (f.1 _ _ rfl) (f.1 _ _ rfl) h
theorem RS_wY {q q' : SS} (f : Fr wY v0 q q') (h : RS q) : RS q' := RS_fr (Fr_r f fun _ => rfl) (Fr_r f fun _ => rfl) (Fr_r f fun _ => rfl) (Fr_r f fun _ => rfl) (Fr_r f fun _ => rfl) (f.1 _ _ rfl) (f.2 _ rfl) (fun s _ => f.2 _ rfl) h
theorem RW_wY {q q' : SS} (f : Fr wY v0 q q') (h : RW q) : RW q' := RW_fr (Fr_r f fun _ => rfl) (Fr_r f fun _ => rfl) (Fr_r f fun _ => rfl) (Fr_r f fun _ => rfl) (f.1 _ _ rfl) (f.1 _ _ rfl) h
theorem RJ_wY {q q' : SS} (f : Fr wY v0 q q') (h : RJ q) : RJ q' := RJ_fr (Fr_r f fun _ => rfl) (f.1 _ _ rfl) h
theorem RY_wD {q q' : SS} (f : Fr wD v0 q q') (h : RY q) : RY q' := RY_fr (Fr_r f fun _ => rfl) (Fr_r f fun _ => rfl) (Fr_r f fun _ => rfl) (Fr_r f fun _ => rfl) (Fr_r f fun _ => rfl) (Fr_r f fun _ => rfl) (Fr_r f fun _ => rfl) (Fr_r f fun _ => rfl) (Fr_r f fun _ => rfl) (Fr_r f fun _ => rfl) (Fr_r f fun _ => rfl) (Fr_r f fun _ => rfl) (Fr_r f fun _ => rfl) (Fr_r f fun _ => rfl) (f.1 _ _ rfl) (f.1 _ _ rfl) (f.1 _ _ rfl) (f.1 _ _ rfl) (f.1 _ _ rfl) (f.1 _ _ rfl) (f.1 _ _ rfl) (f.1 _ _ rfl) h
theorem RC_wD {q q' : SS} (f : Fr wD v0 q q') (h : RC q) : RC q' := RC_fr (Fr_r f fun _ => rfl) (Fr_r f fun _ => rfl) (Fr_r f fun _ => rfl) (Fr_r f fun _ => rfl) (Fr_r f fun _ => rfl) (Fr_r f fun _ => rfl) (Fr_r f fun _ => rfl) (Fr_r f fun _ => rfl) (f.1 _ _ rfl) (f.1 _ _ rfl) (f.1 _ _ rfl) (f.1 _ _ rfl) (f.1 _ _ rfl) (f.1 _ _ rfl) h
theorem RT_wD {q q' : SS} (f : Fr wD v0 q q') (h : RT q) : RT q' := RT_fr (Fr_r f fun _ => rfl) (Fr_r f fun _ => rfl) (f.1 _ _ rfl) (f.1 _ _ rfl) h
theorem RH_wD {q q' : SS} (f : Fr wD v0 q q') (h : RH q) : RH q' := RH_fr (Fr_r f fun _ => rfl) (Fr_r f fun _ => rfl) (Fr_r f fun _ => rfl) (Fr_r f fun _ => rfl) (f.1 _ _ rfl) (f.1 _ _ rfl) (f.1 _ _ rfl) (f.1 _ _ rfl) h
theorem RS_wD {q q' : SS} (f : Fr wD v0 q q') (h : RS q) : RS q' := RS_fr (Fr_r f fun _ => rfl) (Fr_r f fun _ => rfl) (Fr_r f fun _ => rfl) (Fr_r f fun _ => rfl) (Fr_r f fun _ => rfl) (f.1 _ _ rfl) (f.2 _ rfl) (fun s _ => f.2 _ rfl) h
theorem RW_wD {q q' : SS} (f : Fr wD v0 q q') (h : RW q) : RW q' := RW_fr (Fr_r f fun _ => rfl) (Fr_r f fun _ => rfl) (Fr_r f fun _ => rfl) (Fr_r f fun _ => rfl) (f.1 _ _ rfl) (f.1 _ _ rfl) h
theorem RJ_wD {q q' : SS} (f : Fr wD v0 q q') (h : RJ q) : RJ q' := RJ_fr (Fr_r f fun _ => rfl) (f.1 _ _ rfl) h
theorem wC_r {k i : Nat} (h : (52 ≤ k ∧ k ≤ 56) ∨ (69 ≤ k ∧ k ≤ 72)) : wC k i = true := by
  unfold wC
  rcases h with ⟨h1, h2⟩ | ⟨h1, h2⟩
  · rw [Nat.ble_eq_true_of_le h1, Nat.ble_eq_true_of_le h2]; rfl
  · rw [Nat.ble_eq_true_of_le h1, Nat.ble_eq_true_of_le h2]; simp
theorem wY_r {k i : Nat} (h : (3 ≤ k ∧ k ≤ 11) ∨ (61 ≤ k ∧ k ≤ 68)) : wY k i = true := by
  unfold wY
  rcases h with ⟨h1, h2⟩ | ⟨h1, h2⟩
  · rw [Nat.ble_eq_true_of_le h1, Nat.ble_eq_true_of_le h2]; rfl
  · rw [Nat.ble_eq_true_of_le h1, Nat.ble_eq_true_of_le h2]; simp
theorem Fr_sR {w : Nat → Nat → Bool} {v : Nat → Bool} {a b : SS} {k : Nat} {g : Nat → Int32} (h : Fr w v a b) (hw : ∀ i, w k i = true) : Fr w v a (sR b k g) := by
  refine ⟨fun k2 i2 e => ?_, h.2⟩
  rw [sR_rd, if_neg]
  · exact h.1 k2 i2 e
  · rintro rfl
    rw [hw] at e
    cases e
theorem Fr_LAY2 {w : Nat → Nat → Bool} {v : Nat → Bool} {a b : SS} {u n x : Int32} (h : Fr w v a b) : Fr w v (LAY a u n x) (LAY b u n x) := by
  unfold LAY
  split
  · exact Fr_sI2 h
  · split
    · exact Fr_sI2 h
    · exact Fr_sI2 h
theorem Fr_base {q : SS} {w n v : Int32} (h0 : 0 ≤ w.toInt) (h8 : w.toInt ≤ 8) : Fr wY v0 q (LAY (sI q (3 + w.toNatClampNeg) n.toNatClampNeg v) w n v) := by
  have c := cnI h0
  have f1 : Fr wY v0 q (sI q (3 + w.toNatClampNeg) n.toNatClampNeg v) := Fr_sI (Fr_refl q) (wY_r (by omega))
  unfold LAY
  split
  · exact Fr_sI f1 (wY_r (by omega))
  · split
    · exact Fr_sI f1 (wY_r (by omega))
    · exact Fr_sI f1 (wY_r (by omega))
/-- all but the changes' own group -/
theorem INV_set {q s : SS} (h : INV q) {w n v : Int32} (hn : okN (q.1 60 1).toInt (q.1 60 6).toInt w.toInt n.toInt) (hv : okV (q.1 60 1).toInt w.toInt v.toInt) (f : Fr wC v0 (LAY (sI q (3 + w.toNatClampNeg) n.toNatClampNeg v) w n v) s) (hC : RC s) : INV s := by
  have b := Fr_base (q := q) (w := w) (n := n) (v := v) (by omega) (by omega)
  exact ⟨RY_wC f (RY_set (INV_RY h) hn hv), hC, RD_wC f (RD_wY b (INV_RD h)), RT_wC f (RT_wY b (INV_RT h)), RH_wC f (RH_wY b (INV_RH h)), RS_wC f (RS_wY b (INV_RS h)), RW_wC f (RW_wY b (INV_RW h)), RJ_wC f (RJ_wY b (INV_RJ h))⟩
/-- the changes' group behind undo and redo: told rows stay -/
theorem RC_ud {q s : SS} (h : RC q) (r : ∀ k, (53 ≤ k ∧ k ≤ 56) ∨ (69 ≤ k ∧ k ≤ 72) → s.1 k = q.1 k) (p1 : s.1 60 1 = q.1 60 1) (p6 : s.1 60 6 = q.1 60 6) (e1 : s.1 52 5 = s.1 60 11) (e2 : s.1 52 6 = s.1 60 12) (d0 : 0 ≤ (s.1 60 11).toInt) (u0 : 0 ≤ (s.1 60 12).toInt) (du : (s.1 60 11).toInt + (s.1 60 12).toInt = (q.1 60 11).toInt + (q.1 60 12).toInt) : RC s := by
  obtain ⟨h1, h2, h3, h4, h5, h6, h7, h8, h9, h10⟩ := h
  unfold RC
  rw [r 53 (by decide), r 54 (by decide), r 55 (by decide), r 56 (by decide), r 69 (by decide), r 70 (by decide), r 71 (by decide), r 72 (by decide), p1, p6, du]
  exact ⟨e1, e2, d0, u0, by omega, h6, h7, h8, h9, h10⟩
theorem LAY_r {a : SS} {u n x : Int32} {k : Nat} (h0 : 0 ≤ u.toInt) (h8 : u.toInt ≤ 8) (hk : k < 61 ∨ 68 < k) : (LAY a u n x).1 k = a.1 k := by
  have c := cnI h0
  unfold LAY
  split
  · exact sI_ro (by omega)
  · split
    · exact sI_ro (by omega)
    · exact sI_ro (by omega)
theorem op_undo {q : SS} (h : INV q) : T (f_X11_undo q) (fun r => T (f_X12_undo r.2) (fun s => INV s.2 ∧ r.1 = s.1)) := by
  have hC := INV_RC h
  have hY := INV_RY h
  have ed := RC_done hC
  have eu := RC_undone hC
  have d0 := RC_d0 hC
  have u0 := RC_u0 hC
  have du := RC_du hC
  unfold f_X11_undo f_X0_done f_X0_undoLatest
  refine T_rw rfl ?_
  rw [ed]
  refine T_eq (fun g => T_some.mpr ?_) (fun g => ?_)
  · unfold f_X12_undo
    exact T_p g (T_some.mpr ⟨h, rfl⟩)
  · have l0 : (0 : Int32).toInt = 0 := rfl
    have g1 : 0 < (q.1 60 11).toInt := by omega
    have e1 : (q.1 60 11 - 1).toInt = (q.1 60 11).toInt - 1 := dec1 d0
    have e2 : (q.1 60 12 + 1).toInt = (q.1 60 12).toInt + 1 := inc1 (by omega) (by omega)
    have ok := RC_ok hC (q.1 60 11 - 1).toNatClampNeg (by rw [cnI (by omega)]; omega)
    generalize hD : q.1 60 11 - 1 = D at *
    have w1 : q.1 53 D.toNatClampNeg = q.1 69 D.toNatClampNeg := congrFun (RC_what hC) _
    have w2 : q.1 54 D.toNatClampNeg = q.1 70 D.toNatClampNeg := congrFun (RC_num hC) _
    have w3 : q.1 55 D.toNatClampNeg = q.1 71 D.toNatClampNeg := congrFun (RC_bef hC) _
    generalize hw : q.1 69 D.toNatClampNeg = w at *
    generalize hn : q.1 70 D.toNatClampNeg = n at *
    generalize hv : q.1 71 D.toNatClampNeg = v at *
    have vD : ∀ {m : Nat}, 40 ≤ m → D.toInt < (m : Int) := fun hm => by omega
    have st : f_X10_set (sI (sI q 52 5 D) 52 6 (q.1 60 12 + 1)) w n v = some (sI (sI (sI q 52 5 D) 52 6 (q.1 60 12 + 1)) (3 + w.toNatClampNeg) n.toNatClampNeg v) := by
      rw [x_set (q := sI (sI q 52 5 D) 52 6 (q.1 60 12 + 1)) (by show (q.1 1 1).toInt ≤ 6; rw [RY_p hY]; exact RY_p6 hY) (by show (q.1 1 2).toInt ≤ 12; rw [RY_k hY]; exact RY_k12 hY) w n v]
      rw [if_pos]
      show okN (q.1 1 1).toInt (q.1 1 2).toInt w.toInt n.toInt
      rw [RY_p hY, RY_k hY]
      exact ok.1
    have c0 : 0 ≤ w.toInt ∧ w.toInt ≤ 8 := by have := ok.1; omega
    have cw := cnI c0.1
    refine T_b (P := _) (T_len g1 (T_nm (T_nm ?_))) (Q := fun r => r = sI (sI (sI q 52 5 D) 52 6 (q.1 60 12 + 1)) (3 + w.toNatClampNeg) n.toNatClampNeg v) (fun r hr => ?_)
    · show T (if vin D 40 then if vin D 40 then if vin D 40 then (f_X10_set (sI (sI q 52 5 D) 52 6 (q.1 52 6 + 1)) (q.1 53 D.toNatClampNeg) (q.1 54 D.toNatClampNeg) (q.1 55 D.toNatClampNeg)).bind fun r3 => some r3 else none else none else none) _
      rw [w1, w2, w3, eu]
      exact T_vp (by omega) (vD (by decide)) (T_vp (by omega) (vD (by decide)) (T_vp (by omega) (vD (by decide)) (T_rw st (T_some.mpr rfl))))
    · subst hr
      refine T_rw rfl (T_some.mpr ?_)
      have q60 : (sI (sI (sI q 52 5 D) 52 6 (q.1 60 12 + 1)) (3 + w.toNatClampNeg) n.toNatClampNeg v).1 60 = q.1 60 := by rw [sI_ro (by omega), sI_ro (by decide), sI_ro (by decide)]
      have qk : ∀ k, 60 < k → (sI (sI (sI q 52 5 D) 52 6 (q.1 60 12 + 1)) (3 + w.toNatClampNeg) n.toNatClampNeg v).1 k = q.1 k := fun k hk => by rw [sI_ro (by omega), sI_ro (by omega), sI_ro (by omega)]
      have q5 : (sI (sI (sI q 52 5 D) 52 6 (q.1 60 12 + 1)) (3 + w.toNatClampNeg) n.toNatClampNeg v).1 52 5 = D := by rw [sI_ro (by omega)]; rfl
      have q6 : (sI (sI (sI q 52 5 D) 52 6 (q.1 60 12 + 1)) (3 + w.toNatClampNeg) n.toNatClampNeg v).1 52 6 = q.1 60 12 + 1 := by rw [sI_ro (by omega)]; rfl
      rw [q5]
      have fB : Fr wC v0 (sI q (3 + w.toNatClampNeg) n.toNatClampNeg v) (sI (sI (sI q 52 5 D) 52 6 (q.1 60 12 + 1)) (3 + w.toNatClampNeg) n.toNatClampNeg v) := Fr_sI2 (Fr_sI (Fr_sI (Fr_refl q) rfl) rfl)
      generalize hz : sI (sI (sI q 52 5 D) 52 6 (q.1 60 12 + 1)) (3 + w.toNatClampNeg) n.toNatClampNeg v = z at *
      unfold f_X12_undo
      rw [q60]
      refine T_q (by intro k; exact g (by rw [k])) (T_nm (T_nm ?_))
      show T (if vin ((sI (sI z 60 11 (q.1 60 11 - 1)) 60 12 (z.1 60 12 + 1)).1 60 11) 40 then if vin ((sI (sI z 60 11 (q.1 60 11 - 1)) 60 12 (z.1 60 12 + 1)).1 60 11) 40 then if vin ((sI (sI z 60 11 (q.1 60 11 - 1)) 60 12 (z.1 60 12 + 1)).1 60 11) 40 then (f_X12_lays (sI (sI z 60 11 (q.1 60 11 - 1)) 60 12 (z.1 60 12 + 1)) ((sI (sI z 60 11 (q.1 60 11 - 1)) 60 12 (z.1 60 12 + 1)).1 69 ((sI (sI z 60 11 (q.1 60 11 - 1)) 60 12 (z.1 60 12 + 1)).1 60 11).toNatClampNeg) ((sI (sI z 60 11 (q.1 60 11 - 1)) 60 12 (z.1 60 12 + 1)).1 70 ((sI (sI z 60 11 (q.1 60 11 - 1)) 60 12 (z.1 60 12 + 1)).1 60 11).toNatClampNeg) ((sI (sI z 60 11 (q.1 60 11 - 1)) 60 12 (z.1 60 12 + 1)).1 71 ((sI (sI z 60 11 (q.1 60 11 - 1)) 60 12 (z.1 60 12 + 1)).1 60 11).toNatClampNeg)).bind fun r3 => some ((r3.1 60 11), r3) else none else none else none) _
      rw [q60, hD]
      have y11 : (sI (sI z 60 11 D) 60 12 (q.1 60 12 + 1)).1 60 11 = D := rfl
      have y69 : ∀ k, 60 < k → (sI (sI z 60 11 D) 60 12 (q.1 60 12 + 1)).1 k = q.1 k := fun k hk => by rw [sI_ro (by omega), sI_ro (by omega), qk k hk]
      rw [y11, y69 69 (by decide), y69 70 (by decide), y69 71 (by decide), hw, hn, hv]
      refine T_vp (by omega) (vD (by decide)) (T_vp (by omega) (vD (by decide)) (T_vp (by omega) (vD (by decide)) (T_rw (m_lays (RY_p6 hY) (RY_k12 hY) v ok.1) (T_some.mpr ⟨?_, ?_⟩))))
      · refine INV_set h ok.1 ok.2.1 (Fr_LAY2 (Fr_sI (Fr_sI fB rfl) rfl)) (RC_ud hC (fun k hk => ?_) ?_ ?_ ?_ ?_ ?_ ?_ ?_)
        · rw [LAY_r c0.1 c0.2 (by omega), sI_ro (by omega), sI_ro (by omega), ← hz, sI_ro (by omega), sI_ro (by omega), sI_ro (by omega)]
        · rw [LAY_r c0.1 c0.2 (by omega)]
          show z.1 60 1 = _
          rw [q60]
        · rw [LAY_r c0.1 c0.2 (by omega)]
          show z.1 60 6 = _
          rw [q60]
        · rw [LAY_r c0.1 c0.2 (by omega), LAY_r c0.1 c0.2 (by omega)]
          show z.1 52 5 = D
          exact q5
        · rw [LAY_r c0.1 c0.2 (by omega), LAY_r c0.1 c0.2 (by omega)]
          show z.1 52 6 = q.1 60 12 + 1
          exact q6
        · rw [LAY_r c0.1 c0.2 (by omega)]
          show 0 ≤ D.toInt
          omega
        · rw [LAY_r c0.1 c0.2 (by omega)]
          show 0 ≤ (q.1 60 12 + 1).toInt
          omega
        · rw [LAY_r c0.1 c0.2 (by omega)]
          show D.toInt + (q.1 60 12 + 1).toInt = _
          omega
      · rw [LAY_r c0.1 c0.2 (by omega)]
        rfl
theorem op_redo {q : SS} (h : INV q) : T (f_X11_redo q) (fun r => T (f_X12_redo r.2) (fun s => INV s.2 ∧ r.1 = s.1)) := by
  have hC := INV_RC h
  have hY := INV_RY h
  have ed := RC_done hC
  have eu := RC_undone hC
  have d0 := RC_d0 hC
  have u0 := RC_u0 hC
  have du := RC_du hC
  unfold f_X11_redo f_X0_undone f_X0_redoNext
  refine T_rw rfl ?_
  rw [eu]
  refine T_eq (fun g => T_some.mpr ?_) (fun g => ?_)
  · unfold f_X12_redo
    exact T_p g (T_some.mpr ⟨h, rfl⟩)
  · have l0 : (0 : Int32).toInt = 0 := rfl
    have g1 : 0 < (q.1 60 12).toInt := by omega
    have d39 : (q.1 60 11).toInt < 40 := by omega
    have e1 : (q.1 60 12 - 1).toInt = (q.1 60 12).toInt - 1 := dec1 u0
    have e2 : (q.1 60 11 + 1).toInt = (q.1 60 11).toInt + 1 := inc1 (by omega) (by omega)
    have ok := RC_ok hC (q.1 60 11).toNatClampNeg (by rw [cnI (by omega)]; omega)
    have w1 : q.1 53 (q.1 60 11).toNatClampNeg = q.1 69 (q.1 60 11).toNatClampNeg := congrFun (RC_what hC) _
    have w2 : q.1 54 (q.1 60 11).toNatClampNeg = q.1 70 (q.1 60 11).toNatClampNeg := congrFun (RC_num hC) _
    have w3 : q.1 56 (q.1 60 11).toNatClampNeg = q.1 72 (q.1 60 11).toNatClampNeg := congrFun (RC_aft hC) _
    generalize hw : q.1 69 (q.1 60 11).toNatClampNeg = w at *
    generalize hn : q.1 70 (q.1 60 11).toNatClampNeg = n at *
    generalize hv : q.1 72 (q.1 60 11).toNatClampNeg = v at *
    have vD : ∀ {m : Nat}, 40 ≤ m → (q.1 60 11).toInt < (m : Int) := fun hm => by omega
    have st : f_X10_set q w n v = some (sI q (3 + w.toNatClampNeg) n.toNatClampNeg v) := by
      rw [x_set (by rw [RY_p hY]; exact RY_p6 hY) (by rw [RY_k hY]; exact RY_k12 hY) w n v]
      rw [if_pos]
      rw [RY_p hY, RY_k hY]
      exact ok.1
    have c0 : 0 ≤ w.toInt ∧ w.toInt ≤ 8 := by have := ok.1; omega
    have cw := cnI c0.1
    refine T_b (P := _) (T_len g1 (T_len (by rw [ed]; exact d39) ?_)) (Q := fun r => r = sI (sI (sI q (3 + w.toNatClampNeg) n.toNatClampNeg v) 52 5 (q.1 60 11 + 1)) 52 6 (q.1 60 12 - 1)) (fun r hr => ?_)
    · rw [ed, w1, w2, w3]
      refine T_vp (by omega) (vD (by decide)) (T_vp (by omega) (vD (by decide)) (T_vp (by omega) (vD (by decide)) (T_rw st (T_nm (T_nm (T_some.mpr ?_))))))
      have r5 : (sI q (3 + w.toNatClampNeg) n.toNatClampNeg v).1 52 = q.1 52 := sI_ro (by omega)
      rw [r5, ed, sI_rd, if_neg (by decide), r5, eu]
    · subst hr
      refine T_rw rfl (T_some.mpr ?_)
      have q60 : (sI (sI (sI q (3 + w.toNatClampNeg) n.toNatClampNeg v) 52 5 (q.1 60 11 + 1)) 52 6 (q.1 60 12 - 1)).1 60 = q.1 60 := by rw [sI_ro (by decide), sI_ro (by decide), sI_ro (by omega)]
      have qk : ∀ k, 60 < k → (sI (sI (sI q (3 + w.toNatClampNeg) n.toNatClampNeg v) 52 5 (q.1 60 11 + 1)) 52 6 (q.1 60 12 - 1)).1 k = q.1 k := fun k hk => by rw [sI_ro (by omega), sI_ro (by omega), sI_ro (by omega)]
      have q5 : (sI (sI (sI q (3 + w.toNatClampNeg) n.toNatClampNeg v) 52 5 (q.1 60 11 + 1)) 52 6 (q.1 60 12 - 1)).1 52 5 = q.1 60 11 + 1 := rfl
      have q6 : (sI (sI (sI q (3 + w.toNatClampNeg) n.toNatClampNeg v) 52 5 (q.1 60 11 + 1)) 52 6 (q.1 60 12 - 1)).1 52 6 = q.1 60 12 - 1 := rfl
      have fB : Fr wC v0 (sI q (3 + w.toNatClampNeg) n.toNatClampNeg v) (sI (sI (sI q (3 + w.toNatClampNeg) n.toNatClampNeg v) 52 5 (q.1 60 11 + 1)) 52 6 (q.1 60 12 - 1)) := Fr_sI (Fr_sI (Fr_refl _) rfl) rfl
      rw [q6]
      have q4 : ∀ k, 53 ≤ k ∧ k ≤ 56 → (sI (sI (sI q (3 + w.toNatClampNeg) n.toNatClampNeg v) 52 5 (q.1 60 11 + 1)) 52 6 (q.1 60 12 - 1)).1 k = q.1 k := fun k hk => by rw [sI_ro (by omega), sI_ro (by omega), sI_ro (by omega)]
      generalize hz : sI (sI (sI q (3 + w.toNatClampNeg) n.toNatClampNeg v) 52 5 (q.1 60 11 + 1)) 52 6 (q.1 60 12 - 1) = z at *
      unfold f_X12_redo
      rw [q60, qk 69 (by decide), qk 70 (by decide), qk 72 (by decide), hw, hn, hv]
      refine T_q (by intro k; exact g (by rw [k])) (T_vp (by omega) (vD (by decide)) (T_vp (by omega) (vD (by decide)) (T_vp (by omega) (vD (by decide)) (T_rw (m_lays (RY_p6 hY) (RY_k12 hY) v ok.1) (T_nm (T_nm (T_some.mpr ⟨?_, ?_⟩)))))))
      · have l60 : (LAY z w n v).1 60 = q.1 60 := by rw [LAY_r c0.1 c0.2 (by omega), q60]
        show INV (sI (sI (LAY z w n v) 60 11 ((LAY z w n v).1 60 11 + 1)) 60 12 ((LAY z w n v).1 60 12 - 1))
        rw [l60]
        refine INV_set h ok.1 ok.2.2 (Fr_sI (Fr_sI (Fr_LAY2 fB) rfl) rfl) (RC_ud hC (fun k hk => ?_) ?_ ?_ ?_ ?_ ?_ ?_ ?_)
        · rw [sI_ro (by omega), sI_ro (by omega), LAY_r c0.1 c0.2 (by omega)]
          rcases hk with hk | hk
          · exact q4 k hk
          · exact qk k (by omega)
        · show (LAY z w n v).1 60 1 = _
          rw [l60]
        · show (LAY z w n v).1 60 6 = _
          rw [l60]
        · show (LAY z w n v).1 52 5 = q.1 60 11 + 1
          rw [LAY_r c0.1 c0.2 (by omega)]
          exact q5
        · show (LAY z w n v).1 52 6 = q.1 60 12 - 1
          rw [LAY_r c0.1 c0.2 (by omega)]
          exact q6
        · show 0 ≤ (q.1 60 11 + 1).toInt
          omega
        · show 0 ≤ (q.1 60 12 - 1).toInt
          omega
        · show (q.1 60 11 + 1).toInt + (q.1 60 12 - 1).toInt = _
          omega
      · have l60 : (LAY z w n v).1 60 = q.1 60 := by rw [LAY_r c0.1 c0.2 (by omega), q60]
        show q.1 60 12 - 1 = (LAY z w n v).1 60 12 - 1
        rw [l60]
/-! ===== mend ===== -/
theorem sR_ro {q : SS} {o a : Nat} {f : Nat → Int32} (h : a ≠ o) : (sR q o f).1 a = q.1 a := by
  funext j
  rw [sR_rd, if_neg h]
/-- a row of changes with one more, the oldest gone if it was full -/
def nrow (f : Nat → Int32) (full : Bool) (d : Nat) (x : Int32) (j : Nat) : Int32 := if j = d then x else if full = true ∧ j < 39 then f (j + 1) else f j
/-- full or not, where the new one lies -/
def fd (D : Int) (full : Bool) (d : Nat) : Prop := (full = true ∧ D = 40 ∧ d = 39) ∨ (full = false ∧ D = (d : Int) ∧ d < 40)
theorem x_addC {q : SS} {D : Int32} (h5 : q.1 52 5 = D) {full : Bool} {d : Nat} (hd : fd D.toInt full d) (w n a b : Int32) : T (f_X0_add q w n a b) (fun r => r.2 = q.2 ∧ (∀ k, k < 52 ∨ 56 < k → r.1 k = q.1 k) ∧ r.1 52 5 = Int32.ofNat (d + 1) ∧ r.1 52 6 = 0 ∧ (∀ j, r.1 53 j = nrow (q.1 53) full d w j) ∧ (∀ j, r.1 54 j = nrow (q.1 54) full d n j) ∧ (∀ j, r.1 55 j = nrow (q.1 55) full d a j) ∧ (∀ j, r.1 56 j = nrow (q.1 56) full d b j)) := by
  have fin : ∀ (z : SS) (E : Int32), E.toInt = (d : Int) → d < 40 → z.1 52 5 = E → z.2 = q.2 → (∀ k, k < 52 ∨ 56 < k → z.1 k = q.1 k) → (∀ k, 53 ≤ k ∧ k ≤ 56 → ∀ j, j ≠ d → z.1 k j = if full = true ∧ j < 39 then q.1 k (j + 1) else q.1 k j) → T (b_X0_add_13 z w n a b) (fun r => r.2 = q.2 ∧ (∀ k, k < 52 ∨ 56 < k → r.1 k = q.1 k) ∧ r.1 52 5 = Int32.ofNat (d + 1) ∧ r.1 52 6 = 0 ∧ (∀ j, r.1 53 j = nrow (q.1 53) full d w j) ∧ (∀ j, r.1 54 j = nrow (q.1 54) full d n j) ∧ (∀ j, r.1 55 j = nrow (q.1 55) full d a j) ∧ (∀ j, r.1 56 j = nrow (q.1 56) full d b j)) := by
    intro z E hE hd40 z5 z2 zo zr
    have cE : E.toNatClampNeg = d := by
      simp only [cn_eq, hE]
      omega
    have v : vin E 40 := ⟨by omega, by show E.toInt < 40; omega⟩
    have eN : E + 1 = Int32.ofNat (d + 1) := by
      have e1 : E = Int32.ofNat d := by
        rw [← cE]
        exact (Int32.ofNat_toNatClampNeg E (Int32.le_iff_toInt_le.mpr (by show (0 : Int) ≤ E.toInt; omega))).symm
      rw [e1]
      exact (Int32.ofNat_add d 1).symm
    unfold b_X0_add_13
    rw [z5]
    show T (if vin E 40 then (if vin (z.1 52 5) 40 then (if vin (z.1 52 5) 40 then (if vin (z.1 52 5) 40 then some (sI (sI (sI (sI (sI (sI z 53 E.toNatClampNeg w) 54 (z.1 52 5).toNatClampNeg n) 55 (z.1 52 5).toNatClampNeg a) 56 (z.1 52 5).toNatClampNeg b) 52 5 (z.1 52 5 + 1)) 52 6 0) else none) else none) else none) else none) _
    rw [z5, if_pos v, if_pos v, if_pos v, if_pos v, cE, eN]
    refine T_some.mpr ⟨z2, fun k hk => ?_, rfl, rfl, fun j => ?_, fun j => ?_, fun j => ?_, fun j => ?_⟩
    · rw [sI_ro (by omega), sI_ro (by omega), sI_ro (by omega), sI_ro (by omega), sI_ro (by omega), sI_ro (by omega)]
      exact zo k hk
    · have r := zr 53 (by decide) j
      unfold nrow
      simp only [sI_rd]
      by_cases e : j = d
      · simp [e]
      · rw [if_neg e, ← r e]
        simp [e]
    · have r := zr 54 (by decide) j
      unfold nrow
      simp only [sI_rd]
      by_cases e : j = d
      · simp [e]
      · rw [if_neg e, ← r e]
        simp [e]
    · have r := zr 55 (by decide) j
      unfold nrow
      simp only [sI_rd]
      by_cases e : j = d
      · simp [e]
      · rw [if_neg e, ← r e]
        simp [e]
    · have r := zr 56 (by decide) j
      unfold nrow
      simp only [sI_rd]
      by_cases e : j = d
      · simp [e]
      · rw [if_neg e, ← r e]
        simp [e]
  unfold f_X0_add
  rw [h5]
  rcases hd with ⟨rfl, hD, rfl⟩ | ⟨rfl, hD, hd⟩
  · refine T_ltn (by show (40 : Int) ≤ D.toInt; omega) ?_
    unfold f_X0_forgetOldest
    have c : cpok 40 40 1 0 39 := by decide
    refine T_b (T_p c (T_nm (T_p c (T_nm (T_p c (T_nm (T_p c (T_nm (T_nm (T_some.mpr (Eq.refl _))))))))))) (fun z hz => ?_)
    subst hz
    refine fin _ 39 (by decide) (by decide) rfl rfl (fun k hk => ?_) (fun k hk j hj => ?_)
    · funext j
      rw [sI_ro (by omega), sR_rd, if_neg (by omega), sR_rd, if_neg (by omega), sR_rd, if_neg (by omega), sR_rd, if_neg (by omega)]
    · have cp : ∀ f : Nat → Int32, va_cpy f f 1 0 39 j = if j < 39 then f (j + 1) else f j := by
        intro f
        show (if 0 ≤ j ∧ j < 0 + 39 then f (1 + (j - 0)) else f j) = _
        by_cases e : j < 39
        · rw [if_pos (by omega), if_pos e]
          exact congrArg f (by omega)
        · rw [if_neg (by omega), if_neg e]
      rw [sI_ro (by omega)]
      have hc : k = 53 ∨ k = 54 ∨ k = 55 ∨ k = 56 := by omega
      rcases hc with rfl | rfl | rfl | rfl
      · simp [sR_rd, sR_ro, cp]
      · simp [sR_rd, sR_ro, cp]
      · simp [sR_rd, sR_ro, cp]
      · simp [sR_rd, sR_ro, cp]
  · refine T_ltp (by show D.toInt < (40 : Int); omega) ?_
    exact fin q D hD hd h5 rfl (fun _ _ => rfl) (fun k hk j hj => by simp)
theorem m_addC {q : SS} {D : Int32} (h5 : q.1 60 11 = D) {full : Bool} {d : Nat} (hd : fd D.toInt full d) {P K : Int} (hP : P ≤ 6) (hK : K ≤ 12) {w n was v : Int32} (ok : okN P K w.toInt n.toInt) (hv : f_X12_valueAt q w n = some was) (hne : was ≠ v) : T (f_X12_changes q w n v) (fun r => r.1 = was ∧ ∃ y : SS, r.2 = LAY y w n v ∧ y.2 = q.2 ∧ (∀ k, k ≠ 60 → (k < 69 ∨ 72 < k) → y.1 k = q.1 k) ∧ (∀ i, i ≠ 11 → i ≠ 12 → y.1 60 i = q.1 60 i) ∧ y.1 60 11 = Int32.ofNat (d + 1) ∧ y.1 60 12 = 0 ∧ (∀ j, y.1 69 j = nrow (q.1 69) full d w j) ∧ (∀ j, y.1 70 j = nrow (q.1 70) full d n j) ∧ (∀ j, y.1 71 j = nrow (q.1 71) full d was j) ∧ (∀ j, y.1 72 j = nrow (q.1 72) full d v j)) := by
  have fin : ∀ (z : SS) (E : Int32), E.toInt = (d : Int) → d < 40 → z.1 60 11 = E → z.1 60 12 = 0 → z.2 = q.2 → (∀ k, k ≠ 60 → (k < 69 ∨ 72 < k) → z.1 k = q.1 k) → (∀ i, i ≠ 11 → i ≠ 12 → z.1 60 i = q.1 60 i) → (∀ k, 69 ≤ k ∧ k ≤ 72 → ∀ j, j ≠ d → z.1 k j = if full = true ∧ j < 39 then q.1 k (j + 1) else q.1 k j) → T (b_X12_changes_121 z w n v was) (fun r => r.1 = was ∧ ∃ y : SS, r.2 = LAY y w n v ∧ y.2 = q.2 ∧ (∀ k, k ≠ 60 → (k < 69 ∨ 72 < k) → y.1 k = q.1 k) ∧ (∀ i, i ≠ 11 → i ≠ 12 → y.1 60 i = q.1 60 i) ∧ y.1 60 11 = Int32.ofNat (d + 1) ∧ y.1 60 12 = 0 ∧ (∀ j, y.1 69 j = nrow (q.1 69) full d w j) ∧ (∀ j, y.1 70 j = nrow (q.1 70) full d n j) ∧ (∀ j, y.1 71 j = nrow (q.1 71) full d was j) ∧ (∀ j, y.1 72 j = nrow (q.1 72) full d v j)) := by
    intro z E hE hd40 z5 z6 z2 zo z60 zr
    have cE : E.toNatClampNeg = d := by
      simp only [cn_eq, hE]
      omega
    have vv : vin E 40 := ⟨by omega, by show E.toInt < 40; omega⟩
    have eN : E + 1 = Int32.ofNat (d + 1) := by
      have e1 : E = Int32.ofNat d := by
        rw [← cE]
        exact (Int32.ofNat_toNatClampNeg E (Int32.le_iff_toInt_le.mpr (by show (0 : Int) ≤ E.toInt; omega))).symm
      rw [e1]
      exact (Int32.ofNat_add d 1).symm
    unfold b_X12_changes_121
    show T (if vin (z.1 60 11) 40 then (if vin (z.1 60 11) 40 then (if vin (z.1 60 11) 40 then (if vin (z.1 60 11) 40 then (f_X12_lays (sI (sI (sI (sI (sI z 69 (z.1 60 11).toNatClampNeg w) 70 (z.1 60 11).toNatClampNeg n) 71 (z.1 60 11).toNatClampNeg was) 72 (z.1 60 11).toNatClampNeg v) 60 11 (z.1 60 11 + 1)) w n v).bind fun r9 => some (was, r9) else none) else none) else none) else none) _
    rw [z5, if_pos vv, if_pos vv, if_pos vv, if_pos vv, cE, eN]
    refine T_rw (m_lays hP hK v ok) (T_some.mpr ⟨rfl, _, rfl, z2, fun k hk hk2 => ?_, fun i hi hi2 => ?_, rfl, z6, fun j => ?_, fun j => ?_, fun j => ?_, fun j => ?_⟩)
    · rw [sI_ro (by omega), sI_ro (by omega), sI_ro (by omega), sI_ro (by omega), sI_ro (by omega)]
      exact zo k hk hk2
    · rw [sI_rd, if_neg (fun x => hi x.2), sI_ro (by decide), sI_ro (by decide), sI_ro (by decide), sI_ro (by decide)]
      exact z60 i hi hi2
    · have r := zr 69 (by decide) j
      unfold nrow
      simp only [sI_rd]
      by_cases e : j = d
      · simp [e]
      · rw [if_neg e, ← r e]
        simp [e]
    · have r := zr 70 (by decide) j
      unfold nrow
      simp only [sI_rd]
      by_cases e : j = d
      · simp [e]
      · rw [if_neg e, ← r e]
        simp [e]
    · have r := zr 71 (by decide) j
      unfold nrow
      simp only [sI_rd]
      by_cases e : j = d
      · simp [e]
      · rw [if_neg e, ← r e]
        simp [e]
    · have r := zr 72 (by decide) j
      unfold nrow
      simp only [sI_rd]
      by_cases e : j = d
      · simp [e]
      · rw [if_neg e, ← r e]
        simp [e]
  unfold f_X12_changes
  refine T_rw hv (T_q hne (T_nm ?_))
  rcases hd with ⟨rfl, hD, rfl⟩ | ⟨rfl, hD, hd⟩
  · have e40 : q.1 60 11 = 40 := by rw [h5]; exact Int32.toInt_inj.mp hD
    refine T_p (by show q.1 60 11 = 40; exact e40) ?_
    unfold b_X12_changes_34
    refine T_fx6 (fun z l1 l2 l3 l4 l5 => l1 = w ∧ l2 = n ∧ l3 = v ∧ l4 = was ∧ 1 ≤ l5.toInt ∧ l5.toInt ≤ 40 ∧ z.1 60 11 = 40 ∧ z.1 60 12 = 0 ∧ z.2 = q.2 ∧ (∀ k, k ≠ 60 → (k < 69 ∨ 72 < k) → z.1 k = q.1 k) ∧ (∀ i, i ≠ 11 → i ≠ 12 → z.1 60 i = q.1 60 i) ∧ (∀ k, 69 ≤ k ∧ k ≤ 72 → ∀ j : Nat, z.1 k j = if (j : Int) + 1 < l5.toInt then q.1 k (j + 1) else q.1 k j)) (fun _ _ _ _ _ l5 => (40 - l5.toInt).toNat) ?_ _ _ _ _ _ _ _ ⟨rfl, rfl, rfl, rfl, by decide, by decide, e40, rfl, rfl, fun k hk _ => sI_ro hk, fun i _ hi => by rw [sI_rd, if_neg (fun x => hi x.2)], fun k hk j => ?_⟩ (by unfold FU; decide)
    · rintro rec z l1 l2 l3 l4 l5 ⟨rfl, rfl, rfl, rfl, g0, g1, z11, z12, z2, zo, z60, zr⟩ hr
      have l40 : (40 : Int32).toInt = 40 := rfl
      refine T_le (fun g => T_nm ?_) (fun g => ?_)
      · have e5 : l5.toInt = 40 := by omega
        refine fin _ 39 (by decide) (by decide) (by rw [rds, z11]; rfl) (by rw [sI_rd, if_neg (by decide)]; exact z12) z2 (fun k hk hk2 => (sI_ro hk).trans (zo k hk hk2)) (fun i hi hi2 => by rw [sI_rd, if_neg (fun x => hi x.2)]; exact z60 i hi hi2) (fun k hk j hj => ?_)
        rw [sI_ro (by omega), zr k hk j, e5]
        by_cases e : j < 39
        · rw [if_pos (by omega), if_pos ⟨rfl, e⟩]
        · rw [if_neg (by omega), if_neg (fun x => e x.2)]
      · have e1 := inc1 (a := l5) (by omega) (by omega)
        have e2 := dec1 (a := l5) (by omega)
        have c5 := cnI (a := l5) (by omega)
        have c6 := cnI (a := l5 - 1) (by omega)
        have va : vin l5 40 := ⟨by omega, by show l5.toInt < 40; omega⟩
        have vb : vin (l5 - 1) 40 := ⟨by omega, by show (l5 - 1).toInt < 40; omega⟩
        refine T_p va (T_p vb (T_nm (T_p va (T_p vb (T_nm (T_p va (T_p vb (T_nm (T_p va (T_p vb (T_nm (hr _ _ _ _ _ _ ⟨rfl, rfl, rfl, rfl, by omega, by omega, z11, z12, z2, fun k hk hk2 => ?_, fun i hi hi2 => z60 i hi hi2, fun k hk j => ?_⟩ (by omega)))))))))))))
        · rw [sI_ro (by omega), sI_ro (by omega), sI_ro (by omega), sI_ro (by omega)]
          exact zo k hk hk2
        · have r1 := zr k hk j
          have r2 := zr k hk l5.toNatClampNeg
          rw [if_neg (by omega)] at r2
          have key : (if j = (l5 - 1).toNatClampNeg then z.1 k l5.toNatClampNeg else z.1 k j) = if (j : Int) + 1 < (l5 + 1).toInt then q.1 k (j + 1) else q.1 k j := by
            by_cases e : j = (l5 - 1).toNatClampNeg
            · rw [if_pos e, if_pos (by omega), r2]
              exact congrArg (q.1 k) (by omega)
            · rw [if_neg e, r1]
              by_cases e3 : (j : Int) + 1 < l5.toInt
              · rw [if_pos e3, if_pos (by omega)]
              · rw [if_neg e3, if_neg (by omega)]
          rw [← key]
          have hc : k = 69 ∨ k = 70 ∨ k = 71 ∨ k = 72 := by omega
          rcases hc with rfl | rfl | rfl | rfl
          · simp [sI_rd]
          · simp [sI_rd]
          · simp [sI_rd]
          · simp [sI_rd]
    · have l1 : (1 : Int32).toInt = 1 := rfl
      rw [sI_ro (by omega), if_neg (by omega)]
  · refine T_q (by show ¬ q.1 60 11 = 40; rw [h5]; intro k; rw [k] at hD; have : (40 : Int32).toInt = 40 := rfl; omega) ?_
    exact fin _ D hD hd h5 rfl rfl (fun k hk _ => sI_ro hk) (fun i _ hi => by rw [sI_rd, if_neg (fun x => hi x.2)]) (fun k hk j hj => by rw [sI_ro (by omega)]; simp)
theorem RC_new {q s : SS} (h : RC q) {full : Bool} {d : Nat} (hd : fd (q.1 60 11).toInt full d) {w n a b : Int32} (ok : okN (q.1 60 1).toInt (q.1 60 6).toInt w.toInt n.toInt) (oa : okV (q.1 60 1).toInt w.toInt a.toInt) (ob : okV (q.1 60 1).toInt w.toInt b.toInt)
    (p1 : s.1 60 1 = q.1 60 1) (p6 : s.1 60 6 = q.1 60 6) (e1 : s.1 52 5 = s.1 60 11) (e2 : s.1 52 6 = s.1 60 12) (d1 : s.1 60 11 = Int32.ofNat (d + 1)) (u1 : s.1 60 12 = 0)
    (r53 : ∀ j, s.1 53 j = nrow (q.1 53) full d w j) (r54 : ∀ j, s.1 54 j = nrow (q.1 54) full d n j) (r55 : ∀ j, s.1 55 j = nrow (q.1 55) full d a j) (r56 : ∀ j, s.1 56 j = nrow (q.1 56) full d b j)
    (r69 : ∀ j, s.1 69 j = nrow (q.1 69) full d w j) (r70 : ∀ j, s.1 70 j = nrow (q.1 70) full d n j) (r71 : ∀ j, s.1 71 j = nrow (q.1 71) full d a j) (r72 : ∀ j, s.1 72 j = nrow (q.1 72) full d b j) : RC s := by
  obtain ⟨h1, h2, h3, h4, h5, h6, h7, h8, h9, h10⟩ := h
  have hd40 : d < 40 := by
    rcases hd with ⟨_, _, rfl⟩ | ⟨_, _, k⟩
    · decide
    · exact k
  have ed : (Int32.ofNat (d + 1)).toInt = (d : Int) + 1 := by
    rw [Int32.toInt_ofNat_of_lt (by omega)]
    omega
  have l0 : (0 : Int32).toInt = 0 := rfl
  unfold RC
  rw [p1, p6, e1, e2, d1, u1, ed, l0]
  refine ⟨rfl, rfl, by omega, by omega, by omega, funext fun j => ?_, funext fun j => ?_, funext fun j => ?_, funext fun j => ?_, fun j hj => ?_⟩
  · rw [r53, r69, h6]
  · rw [r54, r70, h7]
  · rw [r55, r71, h8]
  · rw [r56, r72, h9]
  · rw [r69, r70, r71, r72]
    unfold nrow
    by_cases e : j = d
    · simp only [if_pos e]
      exact ⟨ok, oa, ob⟩
    · simp only [if_neg e]
      rcases hd with ⟨rfl, hD, rfl⟩ | ⟨rfl, hD, _⟩
      · have hj2 : j < 39 := by omega
        simp only [hj2, and_self, if_true]
        exact h10 (j + 1) (by omega)
      · simp only [Bool.false_eq_true, false_and, if_false]
        exact h10 j (by omega)
theorem op_mend {q : SS} (h : INV q) (n w v : Int32) : T (f_X11_mend q n w v) (fun r => T (f_X12_mend r.2 n w v) (fun s => INV s.2 ∧ r.1 = s.1)) := by
  have hY := INV_RY h
  have hC := INV_RC h
  have p0 := RY_p0 hY
  have k0 := RY_k0 hY
  unfold f_X11_mend
  refine T_rw (x_hasN hY w n) (T_bi (fun c => T_some.mpr ?_) (fun ok => ?_))
  · unfold f_X12_mend
    exact T_rw (m_isPlace p0 k0 n w) (T_bn c (T_some.mpr ⟨h, rfl⟩))
  · have w0 : 0 ≤ w.toInt ∧ w.toInt ≤ 8 := by omega
    refine T_rw (x_mayBe w v w0.1 w0.2) ?_
    rw [RY_p hY]
    refine T_bi (fun c => T_some.mpr ?_) (fun ov => ?_)
    · unfold f_X12_mend
      exact T_rw (m_isPlace p0 k0 n w) (T_bp ok (T_rw (m_mayHave p0 w v w0.1 w0.2) (T_bn c (T_some.mpr ⟨h, rfl⟩))))
    · obtain ⟨was, g1, g2, owas⟩ := gv hY ok
      refine T_rw g1 ?_
      by_cases e : was = v
      · refine T_p e (T_some.mpr ?_)
        unfold f_X12_mend f_X12_changes
        exact T_rw (m_isPlace p0 k0 n w) (T_bp ok (T_rw (m_mayHave p0 w v w0.1 w0.2) (T_bp ov (T_b (T_rw g2 (T_p e (T_some.mpr (Eq.refl _)))) (fun r hr => by subst hr; exact T_some.mpr ⟨h, rfl⟩)))))
      · refine T_q e ?_
        have d0 := RC_d0 hC
        have du := RC_du hC
        have u0 := RC_u0 hC
        obtain ⟨full, d, hd⟩ : ∃ full d, fd (q.1 60 11).toInt full d := by
          by_cases e40 : (q.1 60 11).toInt = 40
          · exact ⟨true, 39, Or.inl ⟨rfl, e40, rfl⟩⟩
          · exact ⟨false, (q.1 60 11).toNatClampNeg, Or.inr ⟨rfl, (cnI d0).symm, by have := cnI d0; omega⟩⟩
        refine T_b (x_addC (RC_done hC) hd w n was v) (fun r hr => ?_)
        obtain ⟨r2, ro, r5, r6, r53, r54, r55, r56⟩ := hr
        have cw := cnI w0.1
        have r1 : r.1 1 = q.1 1 := ro 1 (by decide)
        have st : f_X10_set r w n v = some (sI r (3 + w.toNatClampNeg) n.toNatClampNeg v) := by
          rw [x_set (by rw [r1, RY_p hY]; exact RY_p6 hY) (by rw [r1, RY_k hY]; exact RY_k12 hY) w n v, r1, RY_p hY, RY_k hY, if_pos ok]
        refine T_rw st (T_some.mpr ?_)
        have z60 : (sI r (3 + w.toNatClampNeg) n.toNatClampNeg v).1 60 = q.1 60 := by rw [sI_ro (by omega), ro 60 (by decide)]
        have zk : ∀ k, 60 ≤ k → (sI r (3 + w.toNatClampNeg) n.toNatClampNeg v).1 k = q.1 k := fun k hk => by rw [sI_ro (by omega), ro k (by omega)]
        have zl : ∀ k, 52 ≤ k → k ≤ 56 → (sI r (3 + w.toNatClampNeg) n.toNatClampNeg v).1 k = r.1 k := fun k hk _ => sI_ro (by omega)
        have zf : Fr wC v0 (sI q (3 + w.toNatClampNeg) n.toNatClampNeg v) (sI r (3 + w.toNatClampNeg) n.toNatClampNeg v) := by
          refine Fr_sI2 ⟨fun k i ek => ?_, fun k _ => by rw [r2]⟩
          rw [ro k]
          by_cases hk : 52 ≤ k ∧ k ≤ 56
          · rw [wC_r (Or.inl hk)] at ek
            cases ek
          · omega
        generalize hz : sI r (3 + w.toNatClampNeg) n.toNatClampNeg v = z at *
        unfold f_X12_mend
        refine T_rw (m_isPlace (by rw [z60]; exact p0) (by rw [z60]; exact k0) n w) ?_
        rw [z60]
        refine T_bp ok (T_rw (m_mayHave (by rw [z60]; exact p0) w v w0.1 w0.2) ?_)
        rw [z60]
        have gz : f_X12_valueAt z w n = some was := by
          rw [← g2]
          unfold f_X12_valueAt
          rw [zk 61 (by decide), zk 62 (by decide), zk 63 (by decide), zk 64 (by decide), zk 65 (by decide), zk 66 (by decide), zk 67 (by decide), zk 68 (by decide)]
        refine T_bp ov (T_b (m_addC (D := q.1 60 11) (by rw [z60]) hd (RY_p6 hY) (RY_k12 hY) ok gz e) (fun s hs => T_some.mpr ?_))
        obtain ⟨s1, y, s2, y2, yo, y60, y11, y12, y69, y70, y71, y72⟩ := hs
        refine ⟨?_, s1.symm⟩
        show INV s.2
        rw [s2]
        have fy : Fr wC v0 z y := by
          refine ⟨fun k i ek => ?_, fun k _ => by rw [y2]⟩
          by_cases hk : k = 60
          · subst hk
            refine y60 i ?_ ?_
            · rintro rfl
              exact absurd ek (by decide)
            · rintro rfl
              exact absurd ek (by decide)
          · rw [yo k hk]
            by_cases hk : 69 ≤ k ∧ k ≤ 72
            · rw [wC_r (Or.inr hk)] at ek
              cases ek
            · omega
        refine INV_set h ok ov (Fr_LAY2 (Fr_tr zf fy)) (RC_new hC hd ok owas ov ?_ ?_ ?_ ?_ ?_ ?_ (fun j => ?_) (fun j => ?_) (fun j => ?_) (fun j => ?_) (fun j => ?_) (fun j => ?_) (fun j => ?_) (fun j => ?_))
        · rw [LAY_r w0.1 w0.2 (by omega), y60 1 (by decide) (by decide), z60]
        · rw [LAY_r w0.1 w0.2 (by omega), y60 6 (by decide) (by decide), z60]
        · rw [LAY_r w0.1 w0.2 (by omega), LAY_r w0.1 w0.2 (by omega), y11, yo 52 (by decide) (by decide), zl 52 (by decide) (by decide), r5]
        · rw [LAY_r w0.1 w0.2 (by omega), LAY_r w0.1 w0.2 (by omega), y12, yo 52 (by decide) (by decide), zl 52 (by decide) (by decide), r6]
        · rw [LAY_r w0.1 w0.2 (by omega), y11]
        · rw [LAY_r w0.1 w0.2 (by omega), y12]
        · rw [LAY_r w0.1 w0.2 (by omega), yo 53 (by decide) (by decide), zl 53 (by decide) (by decide), r53]
        · rw [LAY_r w0.1 w0.2 (by omega), yo 54 (by decide) (by decide), zl 54 (by decide) (by decide), r54]
        · rw [LAY_r w0.1 w0.2 (by omega), yo 55 (by decide) (by decide), zl 55 (by decide) (by decide), r55]
        · rw [LAY_r w0.1 w0.2 (by omega), yo 56 (by decide) (by decide), zl 56 (by decide) (by decide), r56]
        · rw [LAY_r w0.1 w0.2 (by omega), y69, zk 69 (by decide)]
        · rw [LAY_r w0.1 w0.2 (by omega), y70, zk 70 (by decide)]
        · rw [LAY_r w0.1 w0.2 (by omega), y71, zk 71 (by decide)]
        · rw [LAY_r w0.1 w0.2 (by omega), y72, zk 72 (by decide)]
/-! ===== acts ===== -/
def nbX (q : SS) (v : Int32) : SS := if (q.1 57 3).toInt < 24 then sI (sI q 59 (q.1 57 3).toNatClampNeg v) 57 3 (q.1 57 3 + 1) else sI q 57 3 (q.1 57 3 + 1)
def nbM (q : SS) (v : Int32) : SS := if (q.1 60 54).toInt < 24 then sI (sI q 88 (q.1 60 54).toNatClampNeg v) 60 54 (q.1 60 54 + 1) else sI q 60 54 (q.1 60 54 + 1)
theorem x_nb {q : SS} (h : 0 ≤ (q.1 57 3).toInt) (v : Int32) : f_X3_noteBody q v = some (nbX q v) := by
  have l24 : (24 : Int32).toInt = 24 := rfl
  unfold f_X3_noteBody b_X3_noteBody_19 nbX
  by_cases c : (q.1 57 3).toInt < 24
  · rw [if_neg (fun k => absurd (Int32.le_iff_toInt_le.mp k) (by omega)), if_pos ⟨h, c⟩, if_pos c]
    rfl
  · rw [if_pos (Int32.le_iff_toInt_le.mpr (by omega)), if_neg c]
    rfl
theorem m_nb {q : SS} (h : 0 ≤ (q.1 60 54).toInt) (v : Int32) : f_X12_ran q v = some (nbM q v) := by
  have l24 : (24 : Int32).toInt = 24 := rfl
  unfold f_X12_ran b_X12_ran_19 nbM
  by_cases c : (q.1 60 54).toInt < 24
  · rw [if_neg (fun k => absurd (Int32.le_iff_toInt_le.mp k) (by omega)), if_pos ⟨h, c⟩, if_pos c]
    rfl
  · rw [if_pos (Int32.le_iff_toInt_le.mpr (by omega)), if_neg c]
    rfl
/-- what a call's start may note still -/
def okR (a : Int32) (n : Int) : Prop := 0 ≤ a.toInt ∧ a.toInt + n ≤ 1000
def wH (k i : Nat) : Bool := k == 59 || k == 88 || (k == 57 && (i == 3 || i == 4)) || (k == 60 && i == 54)
theorem nbX_ran {q : SS} {v : Int32} {n : Int} (h : okR (q.1 57 3) (n + 1)) (hn : 0 ≤ n) : okR ((nbX q v).1 57 3) n := by
  have e : (nbX q v).1 57 3 = q.1 57 3 + 1 := by
    unfold nbX
    split <;> rfl
  have := inc1 (a := q.1 57 3) (by have := h.1; omega) (by have := h.2; omega)
  unfold okR at *
  rw [e]
  omega
theorem nbM_ran {q : SS} {v : Int32} {n : Int} (h : okR (q.1 60 54) (n + 1)) (hn : 0 ≤ n) : okR ((nbM q v).1 60 54) n := by
  have e : (nbM q v).1 60 54 = q.1 60 54 + 1 := by
    unfold nbM
    split <;> rfl
  have := inc1 (a := q.1 60 54) (by have := h.1; omega) (by have := h.2; omega)
  unfold okR at *
  rw [e]
  omega
theorem nbX_fr {a q : SS} {v : Int32} (h : Fr wH v0 a q) : Fr wH v0 a (nbX q v) := by
  unfold nbX
  split
  · exact Fr_sI (Fr_sI h rfl) rfl
  · exact Fr_sI h rfl
theorem nbM_fr {a q : SS} {v : Int32} (h : Fr wH v0 a q) : Fr wH v0 a (nbM q v) := by
  unfold nbM
  split
  · exact Fr_sI (Fr_sI h rfl) rfl
  · exact Fr_sI h rfl
theorem nbX_o {q : SS} {v : Int32} : (nbX q v).1 57 4 = q.1 57 4 ∧ (nbX q v).1 57 2 = q.1 57 2 ∧ (nbX q v).1 58 = q.1 58 := by
  unfold nbX
  split
  · exact ⟨rfl, rfl, rfl⟩
  · exact ⟨rfl, rfl, rfl⟩
theorem nbM_o {q : SS} {v : Int32} : (nbM q v).1 87 = q.1 87 := by
  unfold nbM
  split <;> rfl
/-- the two traces -/
def TR (a b : SS) : Prop := a.1 57 3 = b.1 60 54 ∧ a.1 59 = b.1 88
theorem TR_nb {a b : SS} (h : TR a b) (v : Int32) : TR (nbX a v) (nbM b v) := by
  unfold TR nbX nbM at *
  rw [h.1]
  split
  · refine ⟨rfl, ?_⟩
    funext j
    have e := congrFun h.2 j
    simp [sI_rd, e]
  · exact ⟨rfl, h.2⟩
/-- own body b of kind k, at a call's depth -/
def OKk (q : SS) (k b : Int32) : Prop := q.1 57 4 = b ∧ f_X3_kindOf q b = some k
theorem OK_nb {q : SS} {k b v : Int32} (h : OKk q k b) : OKk (nbX q v) k b := by
  refine ⟨nbX_o.1.trans h.1, ?_⟩
  rw [← h.2]
  unfold f_X3_kindOf f_X3_isBody
  rw [nbX_o.2.1, nbX_o.2.2]
theorem own_q (q : SS) : f_X3_ownerOf q = f_X3_ownerOf q00 := rfl
set_option maxRecDepth 100000 in
theorem own_0_0 : f_X3_ownerOf q00 0 0 = some 0 := by decide +kernel
set_option maxRecDepth 100000 in
theorem own_0_1 : f_X3_ownerOf q00 0 1 = some 0 := by decide +kernel
set_option maxRecDepth 100000 in
theorem own_0_2 : f_X3_ownerOf q00 0 2 = some 0 := by decide +kernel
set_option maxRecDepth 100000 in
theorem own_0_3 : f_X3_ownerOf q00 0 3 = some 0 := by decide +kernel
set_option maxRecDepth 100000 in
theorem own_1_0 : f_X3_ownerOf q00 1 0 = some 1 := by decide +kernel
set_option maxRecDepth 100000 in
theorem own_1_1 : f_X3_ownerOf q00 1 1 = some 0 := by decide +kernel
set_option maxRecDepth 100000 in
theorem own_1_2 : f_X3_ownerOf q00 1 2 = some 0 := by decide +kernel
set_option maxRecDepth 100000 in
theorem own_1_3 : f_X3_ownerOf q00 1 3 = some 0 := by decide +kernel
set_option maxRecDepth 100000 in
theorem own_2_0 : f_X3_ownerOf q00 2 0 = some 0 := by decide +kernel
set_option maxRecDepth 100000 in
theorem own_2_1 : f_X3_ownerOf q00 2 1 = some 2 := by decide +kernel
set_option maxRecDepth 100000 in
theorem own_2_2 : f_X3_ownerOf q00 2 2 = some 0 := by decide +kernel
set_option maxRecDepth 100000 in
theorem own_2_3 : f_X3_ownerOf q00 2 3 = some 0 := by decide +kernel
set_option maxRecDepth 100000 in
theorem own_3_0 : f_X3_ownerOf q00 3 0 = some 0 := by decide +kernel
set_option maxRecDepth 100000 in
theorem own_3_1 : f_X3_ownerOf q00 3 1 = some 3 := by decide +kernel
set_option maxRecDepth 100000 in
theorem own_3_2 : f_X3_ownerOf q00 3 2 = some 3 := by decide +kernel
set_option maxRecDepth 100000 in
theorem own_3_3 : f_X3_ownerOf q00 3 3 = some 0 := by decide +kernel
set_option maxRecDepth 100000 in
theorem own_4_0 : f_X3_ownerOf q00 4 0 = some 1 := by decide +kernel
set_option maxRecDepth 100000 in
theorem own_4_1 : f_X3_ownerOf q00 4 1 = some 0 := by decide +kernel
set_option maxRecDepth 100000 in
theorem own_4_2 : f_X3_ownerOf q00 4 2 = some 0 := by decide +kernel
set_option maxRecDepth 100000 in
theorem own_4_3 : f_X3_ownerOf q00 4 3 = some 4 := by decide +kernel
set_option maxRecDepth 100000 in
theorem own_5_0 : f_X3_ownerOf q00 5 0 = some 0 := by decide +kernel
set_option maxRecDepth 100000 in
theorem own_5_1 : f_X3_ownerOf q00 5 1 = some 3 := by decide +kernel
set_option maxRecDepth 100000 in
theorem own_5_2 : f_X3_ownerOf q00 5 2 = some 5 := by decide +kernel
set_option maxRecDepth 100000 in
theorem own_5_3 : f_X3_ownerOf q00 5 3 = some 5 := by decide +kernel
set_option maxRecDepth 100000 in
theorem own_6_0 : f_X3_ownerOf q00 6 0 = some 6 := by decide +kernel
set_option maxRecDepth 100000 in
theorem own_6_1 : f_X3_ownerOf q00 6 1 = some 0 := by decide +kernel
set_option maxRecDepth 100000 in
theorem own_6_2 : f_X3_ownerOf q00 6 2 = some 0 := by decide +kernel
set_option maxRecDepth 100000 in
theorem own_6_3 : f_X3_ownerOf q00 6 3 = some 0 := by decide +kernel
set_option maxRecDepth 100000 in
theorem own_7_0 : f_X3_ownerOf q00 7 0 = some 7 := by decide +kernel
set_option maxRecDepth 100000 in
theorem own_7_1 : f_X3_ownerOf q00 7 1 = some 7 := by decide +kernel
set_option maxRecDepth 100000 in
theorem own_7_2 : f_X3_ownerOf q00 7 2 = some 0 := by decide +kernel
set_option maxRecDepth 100000 in
theorem own_7_3 : f_X3_ownerOf q00 7 3 = some 0 := by decide +kernel
theorem pf_0_0_0 {q : SS} {b : Int32} (ob : OKk q 0 b) (n : Nat) (x d : Int32) (d0 : 0 ≤ d.toInt) (d1 : d.toInt ≤ 40) (hr : okR (q.1 57 3) 1) : g_X3_perform (n + 1) q 0 0 x d = some ((x + b), (nbX q 1)) := by
  have l40 : (40 : Int32).toInt = 40 := rfl
  have e1 := inc1 (a := d) (by omega) (by omega)
  show fb_X3_perform (g_X3_perform (n + 0)) q 0 0 x d = _
  unfold fb_X3_perform
  rw [own_q, own_0_0, bind_s, if_neg (by decide), if_pos (Int32.le_iff_toInt_le.mpr (by omega)), if_pos (by decide)]
  unfold nm
  dsimp only
  rw [ob.1, ob.2, bind_s, if_pos (by decide), show stV 2 (((0 : Int32) * 4 + 0).toNatClampNeg) = 1 from rfl, x_nb hr.1, bind_s]
  show some (x + (nbX q 1).1 57 4, nbX q 1) = _
  rw [nbX_o.1, ob.1]
theorem pf_0_0_2 {q : SS} {b : Int32} (ob : OKk q 0 b) (n : Nat) (x d : Int32) (d0 : 0 ≤ d.toInt) (d1 : d.toInt ≤ 40) (hr : okR (q.1 57 3) 1) : g_X3_perform (n + 1) q 0 2 x d = some ((x ^^^ b), (nbX q 11)) := by
  have l40 : (40 : Int32).toInt = 40 := rfl
  have e1 := inc1 (a := d) (by omega) (by omega)
  show fb_X3_perform (g_X3_perform (n + 0)) q 0 2 x d = _
  unfold fb_X3_perform
  rw [own_q, own_0_2, bind_s, if_neg (by decide), if_pos (Int32.le_iff_toInt_le.mpr (by omega)), if_pos (by decide)]
  unfold nm
  dsimp only
  rw [ob.1, ob.2, bind_s, if_pos (by decide), show stV 2 (((0 : Int32) * 4 + 2).toNatClampNeg) = 11 from rfl, x_nb hr.1, bind_s]
  show some (x ^^^ (nbX q 11).1 57 4, nbX q 11) = _
  rw [nbX_o.1, ob.1]
theorem pf_0_0_1 {q : SS} {b : Int32} (ob : OKk q 0 b) (n : Nat) (x d : Int32) (d0 : 0 ≤ d.toInt) (d1 : d.toInt ≤ 39) (hr : okR (q.1 57 3) 2) : g_X3_perform (n + 2) q 0 1 x d = some (((x + b) * 2), (nbX (nbX q 10) 1)) := by
  have l40 : (40 : Int32).toInt = 40 := rfl
  have e1 := inc1 (a := d) (by omega) (by omega)
  show fb_X3_perform (g_X3_perform (n + 1)) q 0 1 x d = _
  unfold fb_X3_perform
  rw [own_q, own_0_1, bind_s, if_neg (by decide), if_pos (Int32.le_iff_toInt_le.mpr (by omega)), if_pos (by decide)]
  unfold nm
  dsimp only
  rw [ob.1, ob.2, bind_s, if_pos (by decide), show stV 2 (((0 : Int32) * 4 + 1).toNatClampNeg) = 10 from rfl, x_nb hr.1, bind_s]
  show (g_X3_perform (n + 1) (nbX q 10) 0 0 x (d + 1)).bind (fun r => some (r.1 * 2, r.2)) = _
  rw [show n + 1 = (n + 0) + 1 from by omega, pf_0_0_0 (q := (nbX q 10)) (OK_nb ob) (n + 0) x (d + 1) (by omega) (by omega) (nbX_ran (n := 1) hr (by decide)), bind_s]
theorem pf_0_0_3 {q : SS} {b : Int32} (ob : OKk q 0 b) (n : Nat) (x d : Int32) (d0 : 0 ≤ d.toInt) (d1 : d.toInt ≤ 38) (hr : okR (q.1 57 3) 4) : g_X3_perform (n + 3) q 0 3 x d = some ((((x + b) * 2) - (1 ^^^ b)), (nbX (nbX (nbX (nbX q 2) 10) 1) 11)) := by
  have l40 : (40 : Int32).toInt = 40 := rfl
  have e1 := inc1 (a := d) (by omega) (by omega)
  show fb_X3_perform (g_X3_perform (n + 2)) q 0 3 x d = _
  unfold fb_X3_perform
  rw [own_q, own_0_3, bind_s, if_neg (by decide), if_pos (Int32.le_iff_toInt_le.mpr (by omega)), if_pos (by decide)]
  unfold nm
  dsimp only
  rw [ob.1, ob.2, bind_s, if_pos (by decide), show stV 2 (((0 : Int32) * 4 + 3).toNatClampNeg) = 2 from rfl, x_nb hr.1, bind_s]
  show (g_X3_perform (n + 2) (nbX q 2) 0 1 x (d + 1)).bind (fun r => (g_X3_perform (n + 2) r.2 0 2 1 (d + 1)).bind fun s => some (r.1 - s.1, s.2)) = _
  have hr1 : okR (((nbX q 2)).1 57 3) 3 := nbX_ran (n := 3) hr (by decide)
  have hs0 : okR ((nbX (nbX q 2) 10).1 57 3) 2 := nbX_ran (n := 2) hr1 (by decide)
  have hs1 : okR ((nbX (nbX (nbX q 2) 10) 1).1 57 3) 1 := nbX_ran (n := 1) hs0 (by decide)
  have p1 := pf_0_0_1 (q := (nbX q 2)) (OK_nb ob) (n + 0) x (d + 1) (by omega) (by omega) ⟨hr1.1, by have := hr1.2; omega⟩
  have p2 := pf_0_0_2 (q := (nbX (nbX (nbX q 2) 10) 1)) (OK_nb (OK_nb (OK_nb ob))) (n + 1) 1 (d + 1) (by omega) (by omega) ⟨hs1.1, by have := hs1.2; omega⟩
  rw [show (n + 0) + 2 = n + 2 from by omega] at p1
  rw [show (n + 1) + 1 = n + 2 from by omega] at p2
  rw [p1, bind_s, p2, bind_s]
theorem pf_1_0_0 {q : SS} {b : Int32} (ob : OKk q 1 b) (n : Nat) (x d : Int32) (d0 : 0 ≤ d.toInt) (d1 : d.toInt ≤ 40) (hr : okR (q.1 57 3) 1) : g_X3_perform (n + 1) q 0 0 x d = some ((x + b), (nbX q 1)) := by
  have l40 : (40 : Int32).toInt = 40 := rfl
  have e1 := inc1 (a := d) (by omega) (by omega)
  show fb_X3_perform (g_X3_perform (n + 0)) q 0 0 x d = _
  unfold fb_X3_perform
  rw [own_q, own_0_0, bind_s, if_neg (by decide), if_pos (Int32.le_iff_toInt_le.mpr (by omega)), if_pos (by decide)]
  unfold nm
  dsimp only
  rw [ob.1, ob.2, bind_s, if_pos (by decide), show stV 2 (((0 : Int32) * 4 + 0).toNatClampNeg) = 1 from rfl, x_nb hr.1, bind_s]
  show some (x + (nbX q 1).1 57 4, nbX q 1) = _
  rw [nbX_o.1, ob.1]
theorem pf_1_1_2 {q : SS} {b : Int32} (ob : OKk q 1 b) (n : Nat) (x d : Int32) (d0 : 0 ≤ d.toInt) (d1 : d.toInt ≤ 40) (hr : okR (q.1 57 3) 1) : g_X3_perform (n + 1) q 1 2 x d = some ((x ^^^ b), (nbX q 11)) := by
  have l40 : (40 : Int32).toInt = 40 := rfl
  have e1 := inc1 (a := d) (by omega) (by omega)
  show fb_X3_perform (g_X3_perform (n + 0)) q 1 2 x d = _
  unfold fb_X3_perform
  rw [own_q, own_1_2, bind_s, if_neg (by decide), if_pos (Int32.le_iff_toInt_le.mpr (by omega)), if_pos (by decide)]
  unfold nm
  dsimp only
  rw [ob.1, ob.2, bind_s, if_pos (by decide), show stV 2 (((0 : Int32) * 4 + 2).toNatClampNeg) = 11 from rfl, x_nb hr.1, bind_s]
  show some (x ^^^ (nbX q 11).1 57 4, nbX q 11) = _
  rw [nbX_o.1, ob.1]
theorem pf_1_1_0 {q : SS} {b : Int32} (ob : OKk q 1 b) (n : Nat) (x d : Int32) (d0 : 0 ≤ d.toInt) (d1 : d.toInt ≤ 39) (hr : okR (q.1 57 3) 2) : g_X3_perform (n + 2) q 1 0 x d = some (((x + b) + 3), (nbX (nbX q 20) 1)) := by
  have l40 : (40 : Int32).toInt = 40 := rfl
  have e1 := inc1 (a := d) (by omega) (by omega)
  show fb_X3_perform (g_X3_perform (n + 1)) q 1 0 x d = _
  unfold fb_X3_perform
  rw [own_q, own_1_0, bind_s, if_neg (by decide), if_pos (Int32.le_iff_toInt_le.mpr (by omega)), if_pos (by decide)]
  unfold nm
  dsimp only
  rw [ob.1, ob.2, bind_s, if_pos (by decide), show stV 2 (((1 : Int32) * 4 + 0).toNatClampNeg) = 20 from rfl, x_nb hr.1, bind_s]
  show (g_X3_perform (n + 1) (nbX q 20) 0 0 x (d + 1)).bind (fun r => some (r.1 + 3, r.2)) = _
  rw [show n + 1 = (n + 0) + 1 from by omega, pf_1_0_0 (q := (nbX q 20)) (OK_nb ob) (n + 0) x (d + 1) (by omega) (by omega) (nbX_ran (n := 1) hr (by decide)), bind_s]
theorem pf_1_1_1 {q : SS} {b : Int32} (ob : OKk q 1 b) (n : Nat) (x d : Int32) (d0 : 0 ≤ d.toInt) (d1 : d.toInt ≤ 38) (hr : okR (q.1 57 3) 3) : g_X3_perform (n + 3) q 1 1 x d = some ((((x + b) + 3) * 2), (nbX (nbX (nbX q 10) 20) 1)) := by
  have l40 : (40 : Int32).toInt = 40 := rfl
  have e1 := inc1 (a := d) (by omega) (by omega)
  show fb_X3_perform (g_X3_perform (n + 2)) q 1 1 x d = _
  unfold fb_X3_perform
  rw [own_q, own_1_1, bind_s, if_neg (by decide), if_pos (Int32.le_iff_toInt_le.mpr (by omega)), if_pos (by decide)]
  unfold nm
  dsimp only
  rw [ob.1, ob.2, bind_s, if_pos (by decide), show stV 2 (((0 : Int32) * 4 + 1).toNatClampNeg) = 10 from rfl, x_nb hr.1, bind_s]
  show (g_X3_perform (n + 2) (nbX q 10) 1 0 x (d + 1)).bind (fun r => some (r.1 * 2, r.2)) = _
  rw [show n + 2 = (n + 0) + 2 from by omega, pf_1_1_0 (q := (nbX q 10)) (OK_nb ob) (n + 0) x (d + 1) (by omega) (by omega) (nbX_ran (n := 2) hr (by decide)), bind_s]
theorem pf_1_1_3 {q : SS} {b : Int32} (ob : OKk q 1 b) (n : Nat) (x d : Int32) (d0 : 0 ≤ d.toInt) (d1 : d.toInt ≤ 37) (hr : okR (q.1 57 3) 5) : g_X3_perform (n + 4) q 1 3 x d = some (((((x + b) + 3) * 2) - (1 ^^^ b)), (nbX (nbX (nbX (nbX (nbX q 2) 10) 20) 1) 11)) := by
  have l40 : (40 : Int32).toInt = 40 := rfl
  have e1 := inc1 (a := d) (by omega) (by omega)
  show fb_X3_perform (g_X3_perform (n + 3)) q 1 3 x d = _
  unfold fb_X3_perform
  rw [own_q, own_1_3, bind_s, if_neg (by decide), if_pos (Int32.le_iff_toInt_le.mpr (by omega)), if_pos (by decide)]
  unfold nm
  dsimp only
  rw [ob.1, ob.2, bind_s, if_pos (by decide), show stV 2 (((0 : Int32) * 4 + 3).toNatClampNeg) = 2 from rfl, x_nb hr.1, bind_s]
  show (g_X3_perform (n + 3) (nbX q 2) 1 1 x (d + 1)).bind (fun r => (g_X3_perform (n + 3) r.2 1 2 1 (d + 1)).bind fun s => some (r.1 - s.1, s.2)) = _
  have hr1 : okR (((nbX q 2)).1 57 3) 4 := nbX_ran (n := 4) hr (by decide)
  have hs0 : okR ((nbX (nbX q 2) 10).1 57 3) 3 := nbX_ran (n := 3) hr1 (by decide)
  have hs1 : okR ((nbX (nbX (nbX q 2) 10) 20).1 57 3) 2 := nbX_ran (n := 2) hs0 (by decide)
  have hs2 : okR ((nbX (nbX (nbX (nbX q 2) 10) 20) 1).1 57 3) 1 := nbX_ran (n := 1) hs1 (by decide)
  have p1 := pf_1_1_1 (q := (nbX q 2)) (OK_nb ob) (n + 0) x (d + 1) (by omega) (by omega) ⟨hr1.1, by have := hr1.2; omega⟩
  have p2 := pf_1_1_2 (q := (nbX (nbX (nbX (nbX q 2) 10) 20) 1)) (OK_nb (OK_nb (OK_nb (OK_nb ob)))) (n + 2) 1 (d + 1) (by omega) (by omega) ⟨hs2.1, by have := hs2.2; omega⟩
  rw [show (n + 0) + 3 = n + 3 from by omega] at p1
  rw [show (n + 2) + 1 = n + 3 from by omega] at p2
  rw [p1, bind_s, p2, bind_s]
theorem pf_2_2_0 {q : SS} {b : Int32} (ob : OKk q 2 b) (n : Nat) (x d : Int32) (d0 : 0 ≤ d.toInt) (d1 : d.toInt ≤ 40) (hr : okR (q.1 57 3) 1) : g_X3_perform (n + 1) q 2 0 x d = some ((x + b), (nbX q 1)) := by
  have l40 : (40 : Int32).toInt = 40 := rfl
  have e1 := inc1 (a := d) (by omega) (by omega)
  show fb_X3_perform (g_X3_perform (n + 0)) q 2 0 x d = _
  unfold fb_X3_perform
  rw [own_q, own_2_0, bind_s, if_neg (by decide), if_pos (Int32.le_iff_toInt_le.mpr (by omega)), if_pos (by decide)]
  unfold nm
  dsimp only
  rw [ob.1, ob.2, bind_s, if_pos (by decide), show stV 2 (((0 : Int32) * 4 + 0).toNatClampNeg) = 1 from rfl, x_nb hr.1, bind_s]
  show some (x + (nbX q 1).1 57 4, nbX q 1) = _
  rw [nbX_o.1, ob.1]
theorem pf_2_2_2 {q : SS} {b : Int32} (ob : OKk q 2 b) (n : Nat) (x d : Int32) (d0 : 0 ≤ d.toInt) (d1 : d.toInt ≤ 40) (hr : okR (q.1 57 3) 1) : g_X3_perform (n + 1) q 2 2 x d = some ((x ^^^ b), (nbX q 11)) := by
  have l40 : (40 : Int32).toInt = 40 := rfl
  have e1 := inc1 (a := d) (by omega) (by omega)
  show fb_X3_perform (g_X3_perform (n + 0)) q 2 2 x d = _
  unfold fb_X3_perform
  rw [own_q, own_2_2, bind_s, if_neg (by decide), if_pos (Int32.le_iff_toInt_le.mpr (by omega)), if_pos (by decide)]
  unfold nm
  dsimp only
  rw [ob.1, ob.2, bind_s, if_pos (by decide), show stV 2 (((0 : Int32) * 4 + 2).toNatClampNeg) = 11 from rfl, x_nb hr.1, bind_s]
  show some (x ^^^ (nbX q 11).1 57 4, nbX q 11) = _
  rw [nbX_o.1, ob.1]
theorem pf_2_0_1 {q : SS} {b : Int32} (ob : OKk q 2 b) (n : Nat) (x d : Int32) (d0 : 0 ≤ d.toInt) (d1 : d.toInt ≤ 39) (hr : okR (q.1 57 3) 2) : g_X3_perform (n + 2) q 0 1 x d = some (((x + b) * 2), (nbX (nbX q 10) 1)) := by
  have l40 : (40 : Int32).toInt = 40 := rfl
  have e1 := inc1 (a := d) (by omega) (by omega)
  show fb_X3_perform (g_X3_perform (n + 1)) q 0 1 x d = _
  unfold fb_X3_perform
  rw [own_q, own_0_1, bind_s, if_neg (by decide), if_pos (Int32.le_iff_toInt_le.mpr (by omega)), if_pos (by decide)]
  unfold nm
  dsimp only
  rw [ob.1, ob.2, bind_s, if_pos (by decide), show stV 2 (((0 : Int32) * 4 + 1).toNatClampNeg) = 10 from rfl, x_nb hr.1, bind_s]
  show (g_X3_perform (n + 1) (nbX q 10) 2 0 x (d + 1)).bind (fun r => some (r.1 * 2, r.2)) = _
  rw [show n + 1 = (n + 0) + 1 from by omega, pf_2_2_0 (q := (nbX q 10)) (OK_nb ob) (n + 0) x (d + 1) (by omega) (by omega) (nbX_ran (n := 1) hr (by decide)), bind_s]
theorem pf_2_2_1 {q : SS} {b : Int32} (ob : OKk q 2 b) (n : Nat) (x d : Int32) (d0 : 0 ≤ d.toInt) (d1 : d.toInt ≤ 38) (hr : okR (q.1 57 3) 3) : g_X3_perform (n + 3) q 2 1 x d = some ((-((x + b) * 2)), (nbX (nbX (nbX q 30) 10) 1)) := by
  have l40 : (40 : Int32).toInt = 40 := rfl
  have e1 := inc1 (a := d) (by omega) (by omega)
  show fb_X3_perform (g_X3_perform (n + 2)) q 2 1 x d = _
  unfold fb_X3_perform
  rw [own_q, own_2_1, bind_s, if_neg (by decide), if_pos (Int32.le_iff_toInt_le.mpr (by omega)), if_pos (by decide)]
  unfold nm
  dsimp only
  rw [ob.1, ob.2, bind_s, if_pos (by decide), show stV 2 (((2 : Int32) * 4 + 1).toNatClampNeg) = 30 from rfl, x_nb hr.1, bind_s]
  show (g_X3_perform (n + 2) (nbX q 30) 0 1 x (d + 1)).bind (fun r => some (-r.1, r.2)) = _
  rw [show n + 2 = (n + 0) + 2 from by omega, pf_2_0_1 (q := (nbX q 30)) (OK_nb ob) (n + 0) x (d + 1) (by omega) (by omega) (nbX_ran (n := 2) hr (by decide)), bind_s]
theorem pf_2_2_3 {q : SS} {b : Int32} (ob : OKk q 2 b) (n : Nat) (x d : Int32) (d0 : 0 ≤ d.toInt) (d1 : d.toInt ≤ 37) (hr : okR (q.1 57 3) 5) : g_X3_perform (n + 4) q 2 3 x d = some (((-((x + b) * 2)) - (1 ^^^ b)), (nbX (nbX (nbX (nbX (nbX q 2) 30) 10) 1) 11)) := by
  have l40 : (40 : Int32).toInt = 40 := rfl
  have e1 := inc1 (a := d) (by omega) (by omega)
  show fb_X3_perform (g_X3_perform (n + 3)) q 2 3 x d = _
  unfold fb_X3_perform
  rw [own_q, own_2_3, bind_s, if_neg (by decide), if_pos (Int32.le_iff_toInt_le.mpr (by omega)), if_pos (by decide)]
  unfold nm
  dsimp only
  rw [ob.1, ob.2, bind_s, if_pos (by decide), show stV 2 (((0 : Int32) * 4 + 3).toNatClampNeg) = 2 from rfl, x_nb hr.1, bind_s]
  show (g_X3_perform (n + 3) (nbX q 2) 2 1 x (d + 1)).bind (fun r => (g_X3_perform (n + 3) r.2 2 2 1 (d + 1)).bind fun s => some (r.1 - s.1, s.2)) = _
  have hr1 : okR (((nbX q 2)).1 57 3) 4 := nbX_ran (n := 4) hr (by decide)
  have hs0 : okR ((nbX (nbX q 2) 30).1 57 3) 3 := nbX_ran (n := 3) hr1 (by decide)
  have hs1 : okR ((nbX (nbX (nbX q 2) 30) 10).1 57 3) 2 := nbX_ran (n := 2) hs0 (by decide)
  have hs2 : okR ((nbX (nbX (nbX (nbX q 2) 30) 10) 1).1 57 3) 1 := nbX_ran (n := 1) hs1 (by decide)
  have p1 := pf_2_2_1 (q := (nbX q 2)) (OK_nb ob) (n + 0) x (d + 1) (by omega) (by omega) ⟨hr1.1, by have := hr1.2; omega⟩
  have p2 := pf_2_2_2 (q := (nbX (nbX (nbX (nbX q 2) 30) 10) 1)) (OK_nb (OK_nb (OK_nb (OK_nb ob)))) (n + 2) 1 (d + 1) (by omega) (by omega) ⟨hs2.1, by have := hs2.2; omega⟩
  rw [show (n + 0) + 3 = n + 3 from by omega] at p1
  rw [show (n + 2) + 1 = n + 3 from by omega] at p2
  rw [p1, bind_s, p2, bind_s]
theorem pf_3_2_2 {q : SS} {b : Int32} (ob : OKk q 3 b) (n : Nat) (x d : Int32) (d0 : 0 ≤ d.toInt) (d1 : d.toInt ≤ 40) (hr : okR (q.1 57 3) 1) : g_X3_perform (n + 1) q 2 2 x d = some ((x ^^^ b), (nbX q 11)) := by
  have l40 : (40 : Int32).toInt = 40 := rfl
  have e1 := inc1 (a := d) (by omega) (by omega)
  show fb_X3_perform (g_X3_perform (n + 0)) q 2 2 x d = _
  unfold fb_X3_perform
  rw [own_q, own_2_2, bind_s, if_neg (by decide), if_pos (Int32.le_iff_toInt_le.mpr (by omega)), if_pos (by decide)]
  unfold nm
  dsimp only
  rw [ob.1, ob.2, bind_s, if_pos (by decide), show stV 2 (((0 : Int32) * 4 + 2).toNatClampNeg) = 11 from rfl, x_nb hr.1, bind_s]
  show some (x ^^^ (nbX q 11).1 57 4, nbX q 11) = _
  rw [nbX_o.1, ob.1]
theorem pf_3_3_0 {q : SS} {b : Int32} (ob : OKk q 3 b) (n : Nat) (x d : Int32) (d0 : 0 ≤ d.toInt) (d1 : d.toInt ≤ 40) (hr : okR (q.1 57 3) 1) : g_X3_perform (n + 1) q 3 0 x d = some ((x + b), (nbX q 1)) := by
  have l40 : (40 : Int32).toInt = 40 := rfl
  have e1 := inc1 (a := d) (by omega) (by omega)
  show fb_X3_perform (g_X3_perform (n + 0)) q 3 0 x d = _
  unfold fb_X3_perform
  rw [own_q, own_3_0, bind_s, if_neg (by decide), if_pos (Int32.le_iff_toInt_le.mpr (by omega)), if_pos (by decide)]
  unfold nm
  dsimp only
  rw [ob.1, ob.2, bind_s, if_pos (by decide), show stV 2 (((0 : Int32) * 4 + 0).toNatClampNeg) = 1 from rfl, x_nb hr.1, bind_s]
  show some (x + (nbX q 1).1 57 4, nbX q 1) = _
  rw [nbX_o.1, ob.1]
theorem pf_3_0_1 {q : SS} {b : Int32} (ob : OKk q 3 b) (n : Nat) (x d : Int32) (d0 : 0 ≤ d.toInt) (d1 : d.toInt ≤ 39) (hr : okR (q.1 57 3) 2) : g_X3_perform (n + 2) q 0 1 x d = some (((x + b) * 2), (nbX (nbX q 10) 1)) := by
  have l40 : (40 : Int32).toInt = 40 := rfl
  have e1 := inc1 (a := d) (by omega) (by omega)
  show fb_X3_perform (g_X3_perform (n + 1)) q 0 1 x d = _
  unfold fb_X3_perform
  rw [own_q, own_0_1, bind_s, if_neg (by decide), if_pos (Int32.le_iff_toInt_le.mpr (by omega)), if_pos (by decide)]
  unfold nm
  dsimp only
  rw [ob.1, ob.2, bind_s, if_pos (by decide), show stV 2 (((0 : Int32) * 4 + 1).toNatClampNeg) = 10 from rfl, x_nb hr.1, bind_s]
  show (g_X3_perform (n + 1) (nbX q 10) 3 0 x (d + 1)).bind (fun r => some (r.1 * 2, r.2)) = _
  rw [show n + 1 = (n + 0) + 1 from by omega, pf_3_3_0 (q := (nbX q 10)) (OK_nb ob) (n + 0) x (d + 1) (by omega) (by omega) (nbX_ran (n := 1) hr (by decide)), bind_s]
theorem pf_3_3_2 {q : SS} {b : Int32} (ob : OKk q 3 b) (n : Nat) (x d : Int32) (d0 : 0 ≤ d.toInt) (d1 : d.toInt ≤ 39) (hr : okR (q.1 57 3) 2) : g_X3_perform (n + 2) q 3 2 x d = some (((x ^^^ b) * 3), (nbX (nbX q 40) 11)) := by
  have l40 : (40 : Int32).toInt = 40 := rfl
  have e1 := inc1 (a := d) (by omega) (by omega)
  show fb_X3_perform (g_X3_perform (n + 1)) q 3 2 x d = _
  unfold fb_X3_perform
  rw [own_q, own_3_2, bind_s, if_neg (by decide), if_pos (Int32.le_iff_toInt_le.mpr (by omega)), if_pos (by decide)]
  unfold nm
  dsimp only
  rw [ob.1, ob.2, bind_s, if_pos (by decide), show stV 2 (((3 : Int32) * 4 + 2).toNatClampNeg) = 40 from rfl, x_nb hr.1, bind_s]
  show (g_X3_perform (n + 1) (nbX q 40) 2 2 x (d + 1)).bind (fun r => some (r.1 * 3, r.2)) = _
  rw [show n + 1 = (n + 0) + 1 from by omega, pf_3_2_2 (q := (nbX q 40)) (OK_nb ob) (n + 0) x (d + 1) (by omega) (by omega) (nbX_ran (n := 1) hr (by decide)), bind_s]
theorem pf_3_2_1 {q : SS} {b : Int32} (ob : OKk q 3 b) (n : Nat) (x d : Int32) (d0 : 0 ≤ d.toInt) (d1 : d.toInt ≤ 38) (hr : okR (q.1 57 3) 3) : g_X3_perform (n + 3) q 2 1 x d = some ((-((x + b) * 2)), (nbX (nbX (nbX q 30) 10) 1)) := by
  have l40 : (40 : Int32).toInt = 40 := rfl
  have e1 := inc1 (a := d) (by omega) (by omega)
  show fb_X3_perform (g_X3_perform (n + 2)) q 2 1 x d = _
  unfold fb_X3_perform
  rw [own_q, own_2_1, bind_s, if_neg (by decide), if_pos (Int32.le_iff_toInt_le.mpr (by omega)), if_pos (by decide)]
  unfold nm
  dsimp only
  rw [ob.1, ob.2, bind_s, if_pos (by decide), show stV 2 (((2 : Int32) * 4 + 1).toNatClampNeg) = 30 from rfl, x_nb hr.1, bind_s]
  show (g_X3_perform (n + 2) (nbX q 30) 0 1 x (d + 1)).bind (fun r => some (-r.1, r.2)) = _
  rw [show n + 2 = (n + 0) + 2 from by omega, pf_3_0_1 (q := (nbX q 30)) (OK_nb ob) (n + 0) x (d + 1) (by omega) (by omega) (nbX_ran (n := 2) hr (by decide)), bind_s]
theorem pf_3_3_1 {q : SS} {b : Int32} (ob : OKk q 3 b) (n : Nat) (x d : Int32) (d0 : 0 ≤ d.toInt) (d1 : d.toInt ≤ 37) (hr : okR (q.1 57 3) 4) : g_X3_perform (n + 4) q 3 1 x d = some ((-(((x + 1) + b) * 2)), (nbX (nbX (nbX (nbX q 41) 30) 10) 1)) := by
  have l40 : (40 : Int32).toInt = 40 := rfl
  have e1 := inc1 (a := d) (by omega) (by omega)
  show fb_X3_perform (g_X3_perform (n + 3)) q 3 1 x d = _
  unfold fb_X3_perform
  rw [own_q, own_3_1, bind_s, if_neg (by decide), if_pos (Int32.le_iff_toInt_le.mpr (by omega)), if_pos (by decide)]
  unfold nm
  dsimp only
  rw [ob.1, ob.2, bind_s, if_pos (by decide), show stV 2 (((3 : Int32) * 4 + 1).toNatClampNeg) = 41 from rfl, x_nb hr.1, bind_s]
  show (g_X3_perform (n + 3) (nbX q 41) 2 1 (x + 1) (d + 1)).bind (fun r => some (r.1, r.2)) = _
  rw [show n + 3 = (n + 0) + 3 from by omega, pf_3_2_1 (q := (nbX q 41)) (OK_nb ob) (n + 0) (x + 1) (d + 1) (by omega) (by omega) (nbX_ran (n := 3) hr (by decide)), bind_s]
theorem pf_3_3_3 {q : SS} {b : Int32} (ob : OKk q 3 b) (n : Nat) (x d : Int32) (d0 : 0 ≤ d.toInt) (d1 : d.toInt ≤ 36) (hr : okR (q.1 57 3) 7) : g_X3_perform (n + 5) q 3 3 x d = some (((-(((x + 1) + b) * 2)) - ((1 ^^^ b) * 3)), (nbX (nbX (nbX (nbX (nbX (nbX (nbX q 2) 41) 30) 10) 1) 40) 11)) := by
  have l40 : (40 : Int32).toInt = 40 := rfl
  have e1 := inc1 (a := d) (by omega) (by omega)
  show fb_X3_perform (g_X3_perform (n + 4)) q 3 3 x d = _
  unfold fb_X3_perform
  rw [own_q, own_3_3, bind_s, if_neg (by decide), if_pos (Int32.le_iff_toInt_le.mpr (by omega)), if_pos (by decide)]
  unfold nm
  dsimp only
  rw [ob.1, ob.2, bind_s, if_pos (by decide), show stV 2 (((0 : Int32) * 4 + 3).toNatClampNeg) = 2 from rfl, x_nb hr.1, bind_s]
  show (g_X3_perform (n + 4) (nbX q 2) 3 1 x (d + 1)).bind (fun r => (g_X3_perform (n + 4) r.2 3 2 1 (d + 1)).bind fun s => some (r.1 - s.1, s.2)) = _
  have hr1 : okR (((nbX q 2)).1 57 3) 6 := nbX_ran (n := 6) hr (by decide)
  have hs0 : okR ((nbX (nbX q 2) 41).1 57 3) 5 := nbX_ran (n := 5) hr1 (by decide)
  have hs1 : okR ((nbX (nbX (nbX q 2) 41) 30).1 57 3) 4 := nbX_ran (n := 4) hs0 (by decide)
  have hs2 : okR ((nbX (nbX (nbX (nbX q 2) 41) 30) 10).1 57 3) 3 := nbX_ran (n := 3) hs1 (by decide)
  have hs3 : okR ((nbX (nbX (nbX (nbX (nbX q 2) 41) 30) 10) 1).1 57 3) 2 := nbX_ran (n := 2) hs2 (by decide)
  have p1 := pf_3_3_1 (q := (nbX q 2)) (OK_nb ob) (n + 0) x (d + 1) (by omega) (by omega) ⟨hr1.1, by have := hr1.2; omega⟩
  have p2 := pf_3_3_2 (q := (nbX (nbX (nbX (nbX (nbX q 2) 41) 30) 10) 1)) (OK_nb (OK_nb (OK_nb (OK_nb (OK_nb ob))))) (n + 2) 1 (d + 1) (by omega) (by omega) ⟨hs3.1, by have := hs3.2; omega⟩
  rw [show (n + 0) + 4 = n + 4 from by omega] at p1
  rw [show (n + 2) + 2 = n + 4 from by omega] at p2
  rw [p1, bind_s, p2, bind_s]
theorem pf_4_0_0 {q : SS} {b : Int32} (ob : OKk q 4 b) (n : Nat) (x d : Int32) (d0 : 0 ≤ d.toInt) (d1 : d.toInt ≤ 40) (hr : okR (q.1 57 3) 1) : g_X3_perform (n + 1) q 0 0 x d = some ((x + b), (nbX q 1)) := by
  have l40 : (40 : Int32).toInt = 40 := rfl
  have e1 := inc1 (a := d) (by omega) (by omega)
  show fb_X3_perform (g_X3_perform (n + 0)) q 0 0 x d = _
  unfold fb_X3_perform
  rw [own_q, own_0_0, bind_s, if_neg (by decide), if_pos (Int32.le_iff_toInt_le.mpr (by omega)), if_pos (by decide)]
  unfold nm
  dsimp only
  rw [ob.1, ob.2, bind_s, if_pos (by decide), show stV 2 (((0 : Int32) * 4 + 0).toNatClampNeg) = 1 from rfl, x_nb hr.1, bind_s]
  show some (x + (nbX q 1).1 57 4, nbX q 1) = _
  rw [nbX_o.1, ob.1]
theorem pf_4_4_2 {q : SS} {b : Int32} (ob : OKk q 4 b) (n : Nat) (x d : Int32) (d0 : 0 ≤ d.toInt) (d1 : d.toInt ≤ 40) (hr : okR (q.1 57 3) 1) : g_X3_perform (n + 1) q 4 2 x d = some ((x ^^^ b), (nbX q 11)) := by
  have l40 : (40 : Int32).toInt = 40 := rfl
  have e1 := inc1 (a := d) (by omega) (by omega)
  show fb_X3_perform (g_X3_perform (n + 0)) q 4 2 x d = _
  unfold fb_X3_perform
  rw [own_q, own_4_2, bind_s, if_neg (by decide), if_pos (Int32.le_iff_toInt_le.mpr (by omega)), if_pos (by decide)]
  unfold nm
  dsimp only
  rw [ob.1, ob.2, bind_s, if_pos (by decide), show stV 2 (((0 : Int32) * 4 + 2).toNatClampNeg) = 11 from rfl, x_nb hr.1, bind_s]
  show some (x ^^^ (nbX q 11).1 57 4, nbX q 11) = _
  rw [nbX_o.1, ob.1]
theorem pf_4_4_0 {q : SS} {b : Int32} (ob : OKk q 4 b) (n : Nat) (x d : Int32) (d0 : 0 ≤ d.toInt) (d1 : d.toInt ≤ 39) (hr : okR (q.1 57 3) 2) : g_X3_perform (n + 2) q 4 0 x d = some (((x + b) + 3), (nbX (nbX q 20) 1)) := by
  have l40 : (40 : Int32).toInt = 40 := rfl
  have e1 := inc1 (a := d) (by omega) (by omega)
  show fb_X3_perform (g_X3_perform (n + 1)) q 4 0 x d = _
  unfold fb_X3_perform
  rw [own_q, own_4_0, bind_s, if_neg (by decide), if_pos (Int32.le_iff_toInt_le.mpr (by omega)), if_pos (by decide)]
  unfold nm
  dsimp only
  rw [ob.1, ob.2, bind_s, if_pos (by decide), show stV 2 (((1 : Int32) * 4 + 0).toNatClampNeg) = 20 from rfl, x_nb hr.1, bind_s]
  show (g_X3_perform (n + 1) (nbX q 20) 0 0 x (d + 1)).bind (fun r => some (r.1 + 3, r.2)) = _
  rw [show n + 1 = (n + 0) + 1 from by omega, pf_4_0_0 (q := (nbX q 20)) (OK_nb ob) (n + 0) x (d + 1) (by omega) (by omega) (nbX_ran (n := 1) hr (by decide)), bind_s]
theorem pf_4_4_1 {q : SS} {b : Int32} (ob : OKk q 4 b) (n : Nat) (x d : Int32) (d0 : 0 ≤ d.toInt) (d1 : d.toInt ≤ 38) (hr : okR (q.1 57 3) 3) : g_X3_perform (n + 3) q 4 1 x d = some ((((x + b) + 3) * 2), (nbX (nbX (nbX q 10) 20) 1)) := by
  have l40 : (40 : Int32).toInt = 40 := rfl
  have e1 := inc1 (a := d) (by omega) (by omega)
  show fb_X3_perform (g_X3_perform (n + 2)) q 4 1 x d = _
  unfold fb_X3_perform
  rw [own_q, own_4_1, bind_s, if_neg (by decide), if_pos (Int32.le_iff_toInt_le.mpr (by omega)), if_pos (by decide)]
  unfold nm
  dsimp only
  rw [ob.1, ob.2, bind_s, if_pos (by decide), show stV 2 (((0 : Int32) * 4 + 1).toNatClampNeg) = 10 from rfl, x_nb hr.1, bind_s]
  show (g_X3_perform (n + 2) (nbX q 10) 4 0 x (d + 1)).bind (fun r => some (r.1 * 2, r.2)) = _
  rw [show n + 2 = (n + 0) + 2 from by omega, pf_4_4_0 (q := (nbX q 10)) (OK_nb ob) (n + 0) x (d + 1) (by omega) (by omega) (nbX_ran (n := 2) hr (by decide)), bind_s]
theorem pf_4_1_3 {q : SS} {b : Int32} (ob : OKk q 4 b) (n : Nat) (x d : Int32) (d0 : 0 ≤ d.toInt) (d1 : d.toInt ≤ 37) (hr : okR (q.1 57 3) 5) : g_X3_perform (n + 4) q 1 3 x d = some (((((x + b) + 3) * 2) - (1 ^^^ b)), (nbX (nbX (nbX (nbX (nbX q 2) 10) 20) 1) 11)) := by
  have l40 : (40 : Int32).toInt = 40 := rfl
  have e1 := inc1 (a := d) (by omega) (by omega)
  show fb_X3_perform (g_X3_perform (n + 3)) q 1 3 x d = _
  unfold fb_X3_perform
  rw [own_q, own_1_3, bind_s, if_neg (by decide), if_pos (Int32.le_iff_toInt_le.mpr (by omega)), if_pos (by decide)]
  unfold nm
  dsimp only
  rw [ob.1, ob.2, bind_s, if_pos (by decide), show stV 2 (((0 : Int32) * 4 + 3).toNatClampNeg) = 2 from rfl, x_nb hr.1, bind_s]
  show (g_X3_perform (n + 3) (nbX q 2) 4 1 x (d + 1)).bind (fun r => (g_X3_perform (n + 3) r.2 4 2 1 (d + 1)).bind fun s => some (r.1 - s.1, s.2)) = _
  have hr1 : okR (((nbX q 2)).1 57 3) 4 := nbX_ran (n := 4) hr (by decide)
  have hs0 : okR ((nbX (nbX q 2) 10).1 57 3) 3 := nbX_ran (n := 3) hr1 (by decide)
  have hs1 : okR ((nbX (nbX (nbX q 2) 10) 20).1 57 3) 2 := nbX_ran (n := 2) hs0 (by decide)
  have hs2 : okR ((nbX (nbX (nbX (nbX q 2) 10) 20) 1).1 57 3) 1 := nbX_ran (n := 1) hs1 (by decide)
  have p1 := pf_4_4_1 (q := (nbX q 2)) (OK_nb ob) (n + 0) x (d + 1) (by omega) (by omega) ⟨hr1.1, by have := hr1.2; omega⟩
  have p2 := pf_4_4_2 (q := (nbX (nbX (nbX (nbX q 2) 10) 20) 1)) (OK_nb (OK_nb (OK_nb (OK_nb ob)))) (n + 2) 1 (d + 1) (by omega) (by omega) ⟨hs2.1, by have := hs2.2; omega⟩
  rw [show (n + 0) + 3 = n + 3 from by omega] at p1
  rw [show (n + 2) + 1 = n + 3 from by omega] at p2
  rw [p1, bind_s, p2, bind_s]
theorem pf_4_4_3 {q : SS} {b : Int32} (ob : OKk q 4 b) (n : Nat) (x d : Int32) (d0 : 0 ≤ d.toInt) (d1 : d.toInt ≤ 36) (hr : okR (q.1 57 3) 6) : g_X3_perform (n + 5) q 4 3 x d = some ((((((x + b) + 3) * 2) - (1 ^^^ b)) ^^^ 5), (nbX (nbX (nbX (nbX (nbX (nbX q 50) 2) 10) 20) 1) 11)) := by
  have l40 : (40 : Int32).toInt = 40 := rfl
  have e1 := inc1 (a := d) (by omega) (by omega)
  show fb_X3_perform (g_X3_perform (n + 4)) q 4 3 x d = _
  unfold fb_X3_perform
  rw [own_q, own_4_3, bind_s, if_neg (by decide), if_pos (Int32.le_iff_toInt_le.mpr (by omega)), if_pos (by decide)]
  unfold nm
  dsimp only
  rw [ob.1, ob.2, bind_s, if_pos (by decide), show stV 2 (((4 : Int32) * 4 + 3).toNatClampNeg) = 50 from rfl, x_nb hr.1, bind_s]
  show (g_X3_perform (n + 4) (nbX q 50) 1 3 x (d + 1)).bind (fun r => some (r.1 ^^^ 5, r.2)) = _
  rw [show n + 4 = (n + 0) + 4 from by omega, pf_4_1_3 (q := (nbX q 50)) (OK_nb ob) (n + 0) x (d + 1) (by omega) (by omega) (nbX_ran (n := 5) hr (by decide)), bind_s]
theorem pf_5_2_2 {q : SS} {b : Int32} (ob : OKk q 5 b) (n : Nat) (x d : Int32) (d0 : 0 ≤ d.toInt) (d1 : d.toInt ≤ 40) (hr : okR (q.1 57 3) 1) : g_X3_perform (n + 1) q 2 2 x d = some ((x ^^^ b), (nbX q 11)) := by
  have l40 : (40 : Int32).toInt = 40 := rfl
  have e1 := inc1 (a := d) (by omega) (by omega)
  show fb_X3_perform (g_X3_perform (n + 0)) q 2 2 x d = _
  unfold fb_X3_perform
  rw [own_q, own_2_2, bind_s, if_neg (by decide), if_pos (Int32.le_iff_toInt_le.mpr (by omega)), if_pos (by decide)]
  unfold nm
  dsimp only
  rw [ob.1, ob.2, bind_s, if_pos (by decide), show stV 2 (((0 : Int32) * 4 + 2).toNatClampNeg) = 11 from rfl, x_nb hr.1, bind_s]
  show some (x ^^^ (nbX q 11).1 57 4, nbX q 11) = _
  rw [nbX_o.1, ob.1]
theorem pf_5_5_0 {q : SS} {b : Int32} (ob : OKk q 5 b) (n : Nat) (x d : Int32) (d0 : 0 ≤ d.toInt) (d1 : d.toInt ≤ 40) (hr : okR (q.1 57 3) 1) : g_X3_perform (n + 1) q 5 0 x d = some ((x + b), (nbX q 1)) := by
  have l40 : (40 : Int32).toInt = 40 := rfl
  have e1 := inc1 (a := d) (by omega) (by omega)
  show fb_X3_perform (g_X3_perform (n + 0)) q 5 0 x d = _
  unfold fb_X3_perform
  rw [own_q, own_5_0, bind_s, if_neg (by decide), if_pos (Int32.le_iff_toInt_le.mpr (by omega)), if_pos (by decide)]
  unfold nm
  dsimp only
  rw [ob.1, ob.2, bind_s, if_pos (by decide), show stV 2 (((0 : Int32) * 4 + 0).toNatClampNeg) = 1 from rfl, x_nb hr.1, bind_s]
  show some (x + (nbX q 1).1 57 4, nbX q 1) = _
  rw [nbX_o.1, ob.1]
theorem pf_5_0_1 {q : SS} {b : Int32} (ob : OKk q 5 b) (n : Nat) (x d : Int32) (d0 : 0 ≤ d.toInt) (d1 : d.toInt ≤ 39) (hr : okR (q.1 57 3) 2) : g_X3_perform (n + 2) q 0 1 x d = some (((x + b) * 2), (nbX (nbX q 10) 1)) := by
  have l40 : (40 : Int32).toInt = 40 := rfl
  have e1 := inc1 (a := d) (by omega) (by omega)
  show fb_X3_perform (g_X3_perform (n + 1)) q 0 1 x d = _
  unfold fb_X3_perform
  rw [own_q, own_0_1, bind_s, if_neg (by decide), if_pos (Int32.le_iff_toInt_le.mpr (by omega)), if_pos (by decide)]
  unfold nm
  dsimp only
  rw [ob.1, ob.2, bind_s, if_pos (by decide), show stV 2 (((0 : Int32) * 4 + 1).toNatClampNeg) = 10 from rfl, x_nb hr.1, bind_s]
  show (g_X3_perform (n + 1) (nbX q 10) 5 0 x (d + 1)).bind (fun r => some (r.1 * 2, r.2)) = _
  rw [show n + 1 = (n + 0) + 1 from by omega, pf_5_5_0 (q := (nbX q 10)) (OK_nb ob) (n + 0) x (d + 1) (by omega) (by omega) (nbX_ran (n := 1) hr (by decide)), bind_s]
theorem pf_5_3_2 {q : SS} {b : Int32} (ob : OKk q 5 b) (n : Nat) (x d : Int32) (d0 : 0 ≤ d.toInt) (d1 : d.toInt ≤ 39) (hr : okR (q.1 57 3) 2) : g_X3_perform (n + 2) q 3 2 x d = some (((x ^^^ b) * 3), (nbX (nbX q 40) 11)) := by
  have l40 : (40 : Int32).toInt = 40 := rfl
  have e1 := inc1 (a := d) (by omega) (by omega)
  show fb_X3_perform (g_X3_perform (n + 1)) q 3 2 x d = _
  unfold fb_X3_perform
  rw [own_q, own_3_2, bind_s, if_neg (by decide), if_pos (Int32.le_iff_toInt_le.mpr (by omega)), if_pos (by decide)]
  unfold nm
  dsimp only
  rw [ob.1, ob.2, bind_s, if_pos (by decide), show stV 2 (((3 : Int32) * 4 + 2).toNatClampNeg) = 40 from rfl, x_nb hr.1, bind_s]
  show (g_X3_perform (n + 1) (nbX q 40) 2 2 x (d + 1)).bind (fun r => some (r.1 * 3, r.2)) = _
  rw [show n + 1 = (n + 0) + 1 from by omega, pf_5_2_2 (q := (nbX q 40)) (OK_nb ob) (n + 0) x (d + 1) (by omega) (by omega) (nbX_ran (n := 1) hr (by decide)), bind_s]
theorem pf_5_2_1 {q : SS} {b : Int32} (ob : OKk q 5 b) (n : Nat) (x d : Int32) (d0 : 0 ≤ d.toInt) (d1 : d.toInt ≤ 38) (hr : okR (q.1 57 3) 3) : g_X3_perform (n + 3) q 2 1 x d = some ((-((x + b) * 2)), (nbX (nbX (nbX q 30) 10) 1)) := by
  have l40 : (40 : Int32).toInt = 40 := rfl
  have e1 := inc1 (a := d) (by omega) (by omega)
  show fb_X3_perform (g_X3_perform (n + 2)) q 2 1 x d = _
  unfold fb_X3_perform
  rw [own_q, own_2_1, bind_s, if_neg (by decide), if_pos (Int32.le_iff_toInt_le.mpr (by omega)), if_pos (by decide)]
  unfold nm
  dsimp only
  rw [ob.1, ob.2, bind_s, if_pos (by decide), show stV 2 (((2 : Int32) * 4 + 1).toNatClampNeg) = 30 from rfl, x_nb hr.1, bind_s]
  show (g_X3_perform (n + 2) (nbX q 30) 0 1 x (d + 1)).bind (fun r => some (-r.1, r.2)) = _
  rw [show n + 2 = (n + 0) + 2 from by omega, pf_5_0_1 (q := (nbX q 30)) (OK_nb ob) (n + 0) x (d + 1) (by omega) (by omega) (nbX_ran (n := 2) hr (by decide)), bind_s]
theorem pf_5_5_2 {q : SS} {b : Int32} (ob : OKk q 5 b) (n : Nat) (x d : Int32) (d0 : 0 ≤ d.toInt) (d1 : d.toInt ≤ 38) (hr : okR (q.1 57 3) 4) : g_X3_perform (n + 3) q 5 2 x d = some ((((x ^^^ b) * 3) - (2 + b)), (nbX (nbX (nbX (nbX q 60) 40) 11) 1)) := by
  have l40 : (40 : Int32).toInt = 40 := rfl
  have e1 := inc1 (a := d) (by omega) (by omega)
  show fb_X3_perform (g_X3_perform (n + 2)) q 5 2 x d = _
  unfold fb_X3_perform
  rw [own_q, own_5_2, bind_s, if_neg (by decide), if_pos (Int32.le_iff_toInt_le.mpr (by omega)), if_pos (by decide)]
  unfold nm
  dsimp only
  rw [ob.1, ob.2, bind_s, if_pos (by decide), show stV 2 (((5 : Int32) * 4 + 2).toNatClampNeg) = 60 from rfl, x_nb hr.1, bind_s]
  show (g_X3_perform (n + 2) (nbX q 60) 3 2 x (d + 1)).bind (fun r => (g_X3_perform (n + 2) r.2 5 0 2 (d + 1)).bind fun s => some (r.1 - s.1, s.2)) = _
  have hr1 : okR (((nbX q 60)).1 57 3) 3 := nbX_ran (n := 3) hr (by decide)
  have hs0 : okR ((nbX (nbX q 60) 40).1 57 3) 2 := nbX_ran (n := 2) hr1 (by decide)
  have hs1 : okR ((nbX (nbX (nbX q 60) 40) 11).1 57 3) 1 := nbX_ran (n := 1) hs0 (by decide)
  have p1 := pf_5_3_2 (q := (nbX q 60)) (OK_nb ob) (n + 0) x (d + 1) (by omega) (by omega) ⟨hr1.1, by have := hr1.2; omega⟩
  have p2 := pf_5_5_0 (q := (nbX (nbX (nbX q 60) 40) 11)) (OK_nb (OK_nb (OK_nb ob))) (n + 1) 2 (d + 1) (by omega) (by omega) ⟨hs1.1, by have := hs1.2; omega⟩
  rw [show (n + 0) + 2 = n + 2 from by omega] at p1
  rw [show (n + 1) + 1 = n + 2 from by omega] at p2
  rw [p1, bind_s, p2, bind_s]
theorem pf_5_5_1 {q : SS} {b : Int32} (ob : OKk q 5 b) (n : Nat) (x d : Int32) (d0 : 0 ≤ d.toInt) (d1 : d.toInt ≤ 37) (hr : okR (q.1 57 3) 4) : g_X3_perform (n + 4) q 5 1 x d = some ((-(((x + 1) + b) * 2)), (nbX (nbX (nbX (nbX q 41) 30) 10) 1)) := by
  have l40 : (40 : Int32).toInt = 40 := rfl
  have e1 := inc1 (a := d) (by omega) (by omega)
  show fb_X3_perform (g_X3_perform (n + 3)) q 5 1 x d = _
  unfold fb_X3_perform
  rw [own_q, own_5_1, bind_s, if_neg (by decide), if_pos (Int32.le_iff_toInt_le.mpr (by omega)), if_pos (by decide)]
  unfold nm
  dsimp only
  rw [ob.1, ob.2, bind_s, if_pos (by decide), show stV 2 (((3 : Int32) * 4 + 1).toNatClampNeg) = 41 from rfl, x_nb hr.1, bind_s]
  show (g_X3_perform (n + 3) (nbX q 41) 2 1 (x + 1) (d + 1)).bind (fun r => some (r.1, r.2)) = _
  rw [show n + 3 = (n + 0) + 3 from by omega, pf_5_2_1 (q := (nbX q 41)) (OK_nb ob) (n + 0) (x + 1) (d + 1) (by omega) (by omega) (nbX_ran (n := 3) hr (by decide)), bind_s]
theorem pf_5_3_3 {q : SS} {b : Int32} (ob : OKk q 5 b) (n : Nat) (x d : Int32) (d0 : 0 ≤ d.toInt) (d1 : d.toInt ≤ 36) (hr : okR (q.1 57 3) 9) : g_X3_perform (n + 5) q 3 3 x d = some (((-(((x + 1) + b) * 2)) - (((1 ^^^ b) * 3) - (2 + b))), (nbX (nbX (nbX (nbX (nbX (nbX (nbX (nbX (nbX q 2) 41) 30) 10) 1) 60) 40) 11) 1)) := by
  have l40 : (40 : Int32).toInt = 40 := rfl
  have e1 := inc1 (a := d) (by omega) (by omega)
  show fb_X3_perform (g_X3_perform (n + 4)) q 3 3 x d = _
  unfold fb_X3_perform
  rw [own_q, own_3_3, bind_s, if_neg (by decide), if_pos (Int32.le_iff_toInt_le.mpr (by omega)), if_pos (by decide)]
  unfold nm
  dsimp only
  rw [ob.1, ob.2, bind_s, if_pos (by decide), show stV 2 (((0 : Int32) * 4 + 3).toNatClampNeg) = 2 from rfl, x_nb hr.1, bind_s]
  show (g_X3_perform (n + 4) (nbX q 2) 5 1 x (d + 1)).bind (fun r => (g_X3_perform (n + 4) r.2 5 2 1 (d + 1)).bind fun s => some (r.1 - s.1, s.2)) = _
  have hr1 : okR (((nbX q 2)).1 57 3) 8 := nbX_ran (n := 8) hr (by decide)
  have hs0 : okR ((nbX (nbX q 2) 41).1 57 3) 7 := nbX_ran (n := 7) hr1 (by decide)
  have hs1 : okR ((nbX (nbX (nbX q 2) 41) 30).1 57 3) 6 := nbX_ran (n := 6) hs0 (by decide)
  have hs2 : okR ((nbX (nbX (nbX (nbX q 2) 41) 30) 10).1 57 3) 5 := nbX_ran (n := 5) hs1 (by decide)
  have hs3 : okR ((nbX (nbX (nbX (nbX (nbX q 2) 41) 30) 10) 1).1 57 3) 4 := nbX_ran (n := 4) hs2 (by decide)
  have p1 := pf_5_5_1 (q := (nbX q 2)) (OK_nb ob) (n + 0) x (d + 1) (by omega) (by omega) ⟨hr1.1, by have := hr1.2; omega⟩
  have p2 := pf_5_5_2 (q := (nbX (nbX (nbX (nbX (nbX q 2) 41) 30) 10) 1)) (OK_nb (OK_nb (OK_nb (OK_nb (OK_nb ob))))) (n + 1) 1 (d + 1) (by omega) (by omega) ⟨hs3.1, by have := hs3.2; omega⟩
  rw [show (n + 0) + 4 = n + 4 from by omega] at p1
  rw [show (n + 1) + 3 = n + 4 from by omega] at p2
  rw [p1, bind_s, p2, bind_s]
theorem pf_5_5_3 {q : SS} {b : Int32} (ob : OKk q 5 b) (n : Nat) (x d : Int32) (d0 : 0 ≤ d.toInt) (d1 : d.toInt ≤ 35) (hr : okR (q.1 57 3) 10) : g_X3_perform (n + 6) q 5 3 x d = some ((((-(((x + 1) + b) * 2)) - (((1 ^^^ b) * 3) - (2 + b))) + 1), (nbX (nbX (nbX (nbX (nbX (nbX (nbX (nbX (nbX (nbX q 61) 2) 41) 30) 10) 1) 60) 40) 11) 1)) := by
  have l40 : (40 : Int32).toInt = 40 := rfl
  have e1 := inc1 (a := d) (by omega) (by omega)
  show fb_X3_perform (g_X3_perform (n + 5)) q 5 3 x d = _
  unfold fb_X3_perform
  rw [own_q, own_5_3, bind_s, if_neg (by decide), if_pos (Int32.le_iff_toInt_le.mpr (by omega)), if_pos (by decide)]
  unfold nm
  dsimp only
  rw [ob.1, ob.2, bind_s, if_pos (by decide), show stV 2 (((5 : Int32) * 4 + 3).toNatClampNeg) = 61 from rfl, x_nb hr.1, bind_s]
  show (g_X3_perform (n + 5) (nbX q 61) 3 3 x (d + 1)).bind (fun r => some (r.1 + 1, r.2)) = _
  rw [show n + 5 = (n + 0) + 5 from by omega, pf_5_3_3 (q := (nbX q 61)) (OK_nb ob) (n + 0) x (d + 1) (by omega) (by omega) (nbX_ran (n := 9) hr (by decide)), bind_s]
theorem pf_6_0_0 {q : SS} {b : Int32} (ob : OKk q 6 b) (n : Nat) (x d : Int32) (d0 : 0 ≤ d.toInt) (d1 : d.toInt ≤ 40) (hr : okR (q.1 57 3) 1) : g_X3_perform (n + 1) q 0 0 x d = some ((x + b), (nbX q 1)) := by
  have l40 : (40 : Int32).toInt = 40 := rfl
  have e1 := inc1 (a := d) (by omega) (by omega)
  show fb_X3_perform (g_X3_perform (n + 0)) q 0 0 x d = _
  unfold fb_X3_perform
  rw [own_q, own_0_0, bind_s, if_neg (by decide), if_pos (Int32.le_iff_toInt_le.mpr (by omega)), if_pos (by decide)]
  unfold nm
  dsimp only
  rw [ob.1, ob.2, bind_s, if_pos (by decide), show stV 2 (((0 : Int32) * 4 + 0).toNatClampNeg) = 1 from rfl, x_nb hr.1, bind_s]
  show some (x + (nbX q 1).1 57 4, nbX q 1) = _
  rw [nbX_o.1, ob.1]
theorem pf_6_6_2 {q : SS} {b : Int32} (ob : OKk q 6 b) (n : Nat) (x d : Int32) (d0 : 0 ≤ d.toInt) (d1 : d.toInt ≤ 40) (hr : okR (q.1 57 3) 1) : g_X3_perform (n + 1) q 6 2 x d = some ((x ^^^ b), (nbX q 11)) := by
  have l40 : (40 : Int32).toInt = 40 := rfl
  have e1 := inc1 (a := d) (by omega) (by omega)
  show fb_X3_perform (g_X3_perform (n + 0)) q 6 2 x d = _
  unfold fb_X3_perform
  rw [own_q, own_6_2, bind_s, if_neg (by decide), if_pos (Int32.le_iff_toInt_le.mpr (by omega)), if_pos (by decide)]
  unfold nm
  dsimp only
  rw [ob.1, ob.2, bind_s, if_pos (by decide), show stV 2 (((0 : Int32) * 4 + 2).toNatClampNeg) = 11 from rfl, x_nb hr.1, bind_s]
  show some (x ^^^ (nbX q 11).1 57 4, nbX q 11) = _
  rw [nbX_o.1, ob.1]
theorem pf_6_6_0 {q : SS} {b : Int32} (ob : OKk q 6 b) (n : Nat) (x d : Int32) (d0 : 0 ≤ d.toInt) (d1 : d.toInt ≤ 39) (hr : okR (q.1 57 3) 2) : g_X3_perform (n + 2) q 6 0 x d = some (((x + b) * 2), (nbX (nbX q 70) 1)) := by
  have l40 : (40 : Int32).toInt = 40 := rfl
  have e1 := inc1 (a := d) (by omega) (by omega)
  show fb_X3_perform (g_X3_perform (n + 1)) q 6 0 x d = _
  unfold fb_X3_perform
  rw [own_q, own_6_0, bind_s, if_neg (by decide), if_pos (Int32.le_iff_toInt_le.mpr (by omega)), if_pos (by decide)]
  unfold nm
  dsimp only
  rw [ob.1, ob.2, bind_s, if_pos (by decide), show stV 2 (((6 : Int32) * 4 + 0).toNatClampNeg) = 70 from rfl, x_nb hr.1, bind_s]
  show (g_X3_perform (n + 1) (nbX q 70) 0 0 x (d + 1)).bind (fun r => some (r.1 * 2, r.2)) = _
  rw [show n + 1 = (n + 0) + 1 from by omega, pf_6_0_0 (q := (nbX q 70)) (OK_nb ob) (n + 0) x (d + 1) (by omega) (by omega) (nbX_ran (n := 1) hr (by decide)), bind_s]
theorem pf_6_6_1 {q : SS} {b : Int32} (ob : OKk q 6 b) (n : Nat) (x d : Int32) (d0 : 0 ≤ d.toInt) (d1 : d.toInt ≤ 38) (hr : okR (q.1 57 3) 3) : g_X3_perform (n + 3) q 6 1 x d = some ((((x + b) * 2) * 2), (nbX (nbX (nbX q 10) 70) 1)) := by
  have l40 : (40 : Int32).toInt = 40 := rfl
  have e1 := inc1 (a := d) (by omega) (by omega)
  show fb_X3_perform (g_X3_perform (n + 2)) q 6 1 x d = _
  unfold fb_X3_perform
  rw [own_q, own_6_1, bind_s, if_neg (by decide), if_pos (Int32.le_iff_toInt_le.mpr (by omega)), if_pos (by decide)]
  unfold nm
  dsimp only
  rw [ob.1, ob.2, bind_s, if_pos (by decide), show stV 2 (((0 : Int32) * 4 + 1).toNatClampNeg) = 10 from rfl, x_nb hr.1, bind_s]
  show (g_X3_perform (n + 2) (nbX q 10) 6 0 x (d + 1)).bind (fun r => some (r.1 * 2, r.2)) = _
  rw [show n + 2 = (n + 0) + 2 from by omega, pf_6_6_0 (q := (nbX q 10)) (OK_nb ob) (n + 0) x (d + 1) (by omega) (by omega) (nbX_ran (n := 2) hr (by decide)), bind_s]
theorem pf_6_6_3 {q : SS} {b : Int32} (ob : OKk q 6 b) (n : Nat) (x d : Int32) (d0 : 0 ≤ d.toInt) (d1 : d.toInt ≤ 37) (hr : okR (q.1 57 3) 5) : g_X3_perform (n + 4) q 6 3 x d = some (((((x + b) * 2) * 2) - (1 ^^^ b)), (nbX (nbX (nbX (nbX (nbX q 2) 10) 70) 1) 11)) := by
  have l40 : (40 : Int32).toInt = 40 := rfl
  have e1 := inc1 (a := d) (by omega) (by omega)
  show fb_X3_perform (g_X3_perform (n + 3)) q 6 3 x d = _
  unfold fb_X3_perform
  rw [own_q, own_6_3, bind_s, if_neg (by decide), if_pos (Int32.le_iff_toInt_le.mpr (by omega)), if_pos (by decide)]
  unfold nm
  dsimp only
  rw [ob.1, ob.2, bind_s, if_pos (by decide), show stV 2 (((0 : Int32) * 4 + 3).toNatClampNeg) = 2 from rfl, x_nb hr.1, bind_s]
  show (g_X3_perform (n + 3) (nbX q 2) 6 1 x (d + 1)).bind (fun r => (g_X3_perform (n + 3) r.2 6 2 1 (d + 1)).bind fun s => some (r.1 - s.1, s.2)) = _
  have hr1 : okR (((nbX q 2)).1 57 3) 4 := nbX_ran (n := 4) hr (by decide)
  have hs0 : okR ((nbX (nbX q 2) 10).1 57 3) 3 := nbX_ran (n := 3) hr1 (by decide)
  have hs1 : okR ((nbX (nbX (nbX q 2) 10) 70).1 57 3) 2 := nbX_ran (n := 2) hs0 (by decide)
  have hs2 : okR ((nbX (nbX (nbX (nbX q 2) 10) 70) 1).1 57 3) 1 := nbX_ran (n := 1) hs1 (by decide)
  have p1 := pf_6_6_1 (q := (nbX q 2)) (OK_nb ob) (n + 0) x (d + 1) (by omega) (by omega) ⟨hr1.1, by have := hr1.2; omega⟩
  have p2 := pf_6_6_2 (q := (nbX (nbX (nbX (nbX q 2) 10) 70) 1)) (OK_nb (OK_nb (OK_nb (OK_nb ob)))) (n + 2) 1 (d + 1) (by omega) (by omega) ⟨hs2.1, by have := hs2.2; omega⟩
  rw [show (n + 0) + 3 = n + 3 from by omega] at p1
  rw [show (n + 2) + 1 = n + 3 from by omega] at p2
  rw [p1, bind_s, p2, bind_s]
theorem pf_7_0_0 {q : SS} {b : Int32} (ob : OKk q 7 b) (n : Nat) (x d : Int32) (d0 : 0 ≤ d.toInt) (d1 : d.toInt ≤ 40) (hr : okR (q.1 57 3) 1) : g_X3_perform (n + 1) q 0 0 x d = some ((x + b), (nbX q 1)) := by
  have l40 : (40 : Int32).toInt = 40 := rfl
  have e1 := inc1 (a := d) (by omega) (by omega)
  show fb_X3_perform (g_X3_perform (n + 0)) q 0 0 x d = _
  unfold fb_X3_perform
  rw [own_q, own_0_0, bind_s, if_neg (by decide), if_pos (Int32.le_iff_toInt_le.mpr (by omega)), if_pos (by decide)]
  unfold nm
  dsimp only
  rw [ob.1, ob.2, bind_s, if_pos (by decide), show stV 2 (((0 : Int32) * 4 + 0).toNatClampNeg) = 1 from rfl, x_nb hr.1, bind_s]
  show some (x + (nbX q 1).1 57 4, nbX q 1) = _
  rw [nbX_o.1, ob.1]
theorem pf_7_7_2 {q : SS} {b : Int32} (ob : OKk q 7 b) (n : Nat) (x d : Int32) (d0 : 0 ≤ d.toInt) (d1 : d.toInt ≤ 40) (hr : okR (q.1 57 3) 1) : g_X3_perform (n + 1) q 7 2 x d = some ((x ^^^ b), (nbX q 11)) := by
  have l40 : (40 : Int32).toInt = 40 := rfl
  have e1 := inc1 (a := d) (by omega) (by omega)
  show fb_X3_perform (g_X3_perform (n + 0)) q 7 2 x d = _
  unfold fb_X3_perform
  rw [own_q, own_7_2, bind_s, if_neg (by decide), if_pos (Int32.le_iff_toInt_le.mpr (by omega)), if_pos (by decide)]
  unfold nm
  dsimp only
  rw [ob.1, ob.2, bind_s, if_pos (by decide), show stV 2 (((0 : Int32) * 4 + 2).toNatClampNeg) = 11 from rfl, x_nb hr.1, bind_s]
  show some (x ^^^ (nbX q 11).1 57 4, nbX q 11) = _
  rw [nbX_o.1, ob.1]
theorem pf_7_6_0 {q : SS} {b : Int32} (ob : OKk q 7 b) (n : Nat) (x d : Int32) (d0 : 0 ≤ d.toInt) (d1 : d.toInt ≤ 39) (hr : okR (q.1 57 3) 2) : g_X3_perform (n + 2) q 6 0 x d = some (((x + b) * 2), (nbX (nbX q 70) 1)) := by
  have l40 : (40 : Int32).toInt = 40 := rfl
  have e1 := inc1 (a := d) (by omega) (by omega)
  show fb_X3_perform (g_X3_perform (n + 1)) q 6 0 x d = _
  unfold fb_X3_perform
  rw [own_q, own_6_0, bind_s, if_neg (by decide), if_pos (Int32.le_iff_toInt_le.mpr (by omega)), if_pos (by decide)]
  unfold nm
  dsimp only
  rw [ob.1, ob.2, bind_s, if_pos (by decide), show stV 2 (((6 : Int32) * 4 + 0).toNatClampNeg) = 70 from rfl, x_nb hr.1, bind_s]
  show (g_X3_perform (n + 1) (nbX q 70) 0 0 x (d + 1)).bind (fun r => some (r.1 * 2, r.2)) = _
  rw [show n + 1 = (n + 0) + 1 from by omega, pf_7_0_0 (q := (nbX q 70)) (OK_nb ob) (n + 0) x (d + 1) (by omega) (by omega) (nbX_ran (n := 1) hr (by decide)), bind_s]
theorem pf_7_7_0 {q : SS} {b : Int32} (ob : OKk q 7 b) (n : Nat) (x d : Int32) (d0 : 0 ≤ d.toInt) (d1 : d.toInt ≤ 38) (hr : okR (q.1 57 3) 3) : g_X3_perform (n + 3) q 7 0 x d = some ((((x + b) * 2) - 1), (nbX (nbX (nbX q 81) 70) 1)) := by
  have l40 : (40 : Int32).toInt = 40 := rfl
  have e1 := inc1 (a := d) (by omega) (by omega)
  show fb_X3_perform (g_X3_perform (n + 2)) q 7 0 x d = _
  unfold fb_X3_perform
  rw [own_q, own_7_0, bind_s, if_neg (by decide), if_pos (Int32.le_iff_toInt_le.mpr (by omega)), if_pos (by decide)]
  unfold nm
  dsimp only
  rw [ob.1, ob.2, bind_s, if_pos (by decide), show stV 2 (((7 : Int32) * 4 + 0).toNatClampNeg) = 81 from rfl, x_nb hr.1, bind_s]
  show (g_X3_perform (n + 2) (nbX q 81) 6 0 x (d + 1)).bind (fun r => some (r.1 - 1, r.2)) = _
  rw [show n + 2 = (n + 0) + 2 from by omega, pf_7_6_0 (q := (nbX q 81)) (OK_nb ob) (n + 0) x (d + 1) (by omega) (by omega) (nbX_ran (n := 2) hr (by decide)), bind_s]
theorem pf_7_6_1 {q : SS} {b : Int32} (ob : OKk q 7 b) (n : Nat) (x d : Int32) (d0 : 0 ≤ d.toInt) (d1 : d.toInt ≤ 37) (hr : okR (q.1 57 3) 4) : g_X3_perform (n + 4) q 6 1 x d = some (((((x + b) * 2) - 1) * 2), (nbX (nbX (nbX (nbX q 10) 81) 70) 1)) := by
  have l40 : (40 : Int32).toInt = 40 := rfl
  have e1 := inc1 (a := d) (by omega) (by omega)
  show fb_X3_perform (g_X3_perform (n + 3)) q 6 1 x d = _
  unfold fb_X3_perform
  rw [own_q, own_6_1, bind_s, if_neg (by decide), if_pos (Int32.le_iff_toInt_le.mpr (by omega)), if_pos (by decide)]
  unfold nm
  dsimp only
  rw [ob.1, ob.2, bind_s, if_pos (by decide), show stV 2 (((0 : Int32) * 4 + 1).toNatClampNeg) = 10 from rfl, x_nb hr.1, bind_s]
  show (g_X3_perform (n + 3) (nbX q 10) 7 0 x (d + 1)).bind (fun r => some (r.1 * 2, r.2)) = _
  rw [show n + 3 = (n + 0) + 3 from by omega, pf_7_7_0 (q := (nbX q 10)) (OK_nb ob) (n + 0) x (d + 1) (by omega) (by omega) (nbX_ran (n := 3) hr (by decide)), bind_s]
theorem pf_7_7_1 {q : SS} {b : Int32} (ob : OKk q 7 b) (n : Nat) (x d : Int32) (d0 : 0 ≤ d.toInt) (d1 : d.toInt ≤ 36) (hr : okR (q.1 57 3) 6) : g_X3_perform (n + 5) q 7 1 x d = some ((((((x + b) * 2) - 1) * 2) + (2 ^^^ b)), (nbX (nbX (nbX (nbX (nbX (nbX q 80) 10) 81) 70) 1) 11)) := by
  have l40 : (40 : Int32).toInt = 40 := rfl
  have e1 := inc1 (a := d) (by omega) (by omega)
  show fb_X3_perform (g_X3_perform (n + 4)) q 7 1 x d = _
  unfold fb_X3_perform
  rw [own_q, own_7_1, bind_s, if_neg (by decide), if_pos (Int32.le_iff_toInt_le.mpr (by omega)), if_pos (by decide)]
  unfold nm
  dsimp only
  rw [ob.1, ob.2, bind_s, if_pos (by decide), show stV 2 (((7 : Int32) * 4 + 1).toNatClampNeg) = 80 from rfl, x_nb hr.1, bind_s]
  show (g_X3_perform (n + 4) (nbX q 80) 6 1 x (d + 1)).bind (fun r => (g_X3_perform (n + 4) r.2 7 2 2 (d + 1)).bind fun s => some (r.1 + s.1, s.2)) = _
  have hr1 : okR (((nbX q 80)).1 57 3) 5 := nbX_ran (n := 5) hr (by decide)
  have hs0 : okR ((nbX (nbX q 80) 10).1 57 3) 4 := nbX_ran (n := 4) hr1 (by decide)
  have hs1 : okR ((nbX (nbX (nbX q 80) 10) 81).1 57 3) 3 := nbX_ran (n := 3) hs0 (by decide)
  have hs2 : okR ((nbX (nbX (nbX (nbX q 80) 10) 81) 70).1 57 3) 2 := nbX_ran (n := 2) hs1 (by decide)
  have hs3 : okR ((nbX (nbX (nbX (nbX (nbX q 80) 10) 81) 70) 1).1 57 3) 1 := nbX_ran (n := 1) hs2 (by decide)
  have p1 := pf_7_6_1 (q := (nbX q 80)) (OK_nb ob) (n + 0) x (d + 1) (by omega) (by omega) ⟨hr1.1, by have := hr1.2; omega⟩
  have p2 := pf_7_7_2 (q := (nbX (nbX (nbX (nbX (nbX q 80) 10) 81) 70) 1)) (OK_nb (OK_nb (OK_nb (OK_nb (OK_nb ob))))) (n + 3) 2 (d + 1) (by omega) (by omega) ⟨hs3.1, by have := hs3.2; omega⟩
  rw [show (n + 0) + 4 = n + 4 from by omega] at p1
  rw [show (n + 3) + 1 = n + 4 from by omega] at p2
  rw [p1, bind_s, p2, bind_s]
theorem pf_7_7_3 {q : SS} {b : Int32} (ob : OKk q 7 b) (n : Nat) (x d : Int32) (d0 : 0 ≤ d.toInt) (d1 : d.toInt ≤ 35) (hr : okR (q.1 57 3) 8) : g_X3_perform (n + 6) q 7 3 x d = some (((((((x + b) * 2) - 1) * 2) + (2 ^^^ b)) - (1 ^^^ b)), (nbX (nbX (nbX (nbX (nbX (nbX (nbX (nbX q 2) 80) 10) 81) 70) 1) 11) 11)) := by
  have l40 : (40 : Int32).toInt = 40 := rfl
  have e1 := inc1 (a := d) (by omega) (by omega)
  show fb_X3_perform (g_X3_perform (n + 5)) q 7 3 x d = _
  unfold fb_X3_perform
  rw [own_q, own_7_3, bind_s, if_neg (by decide), if_pos (Int32.le_iff_toInt_le.mpr (by omega)), if_pos (by decide)]
  unfold nm
  dsimp only
  rw [ob.1, ob.2, bind_s, if_pos (by decide), show stV 2 (((0 : Int32) * 4 + 3).toNatClampNeg) = 2 from rfl, x_nb hr.1, bind_s]
  show (g_X3_perform (n + 5) (nbX q 2) 7 1 x (d + 1)).bind (fun r => (g_X3_perform (n + 5) r.2 7 2 1 (d + 1)).bind fun s => some (r.1 - s.1, s.2)) = _
  have hr1 : okR (((nbX q 2)).1 57 3) 7 := nbX_ran (n := 7) hr (by decide)
  have hs0 : okR ((nbX (nbX q 2) 80).1 57 3) 6 := nbX_ran (n := 6) hr1 (by decide)
  have hs1 : okR ((nbX (nbX (nbX q 2) 80) 10).1 57 3) 5 := nbX_ran (n := 5) hs0 (by decide)
  have hs2 : okR ((nbX (nbX (nbX (nbX q 2) 80) 10) 81).1 57 3) 4 := nbX_ran (n := 4) hs1 (by decide)
  have hs3 : okR ((nbX (nbX (nbX (nbX (nbX q 2) 80) 10) 81) 70).1 57 3) 3 := nbX_ran (n := 3) hs2 (by decide)
  have hs4 : okR ((nbX (nbX (nbX (nbX (nbX (nbX q 2) 80) 10) 81) 70) 1).1 57 3) 2 := nbX_ran (n := 2) hs3 (by decide)
  have hs5 : okR ((nbX (nbX (nbX (nbX (nbX (nbX (nbX q 2) 80) 10) 81) 70) 1) 11).1 57 3) 1 := nbX_ran (n := 1) hs4 (by decide)
  have p1 := pf_7_7_1 (q := (nbX q 2)) (OK_nb ob) (n + 0) x (d + 1) (by omega) (by omega) ⟨hr1.1, by have := hr1.2; omega⟩
  have p2 := pf_7_7_2 (q := (nbX (nbX (nbX (nbX (nbX (nbX (nbX q 2) 80) 10) 81) 70) 1) 11)) (OK_nb (OK_nb (OK_nb (OK_nb (OK_nb (OK_nb (OK_nb ob))))))) (n + 4) 1 (d + 1) (by omega) (by omega) ⟨hs5.1, by have := hs5.2; omega⟩
  rw [show (n + 0) + 5 = n + 5 from by omega] at p1
  rw [show (n + 4) + 1 = n + 5 from by omega] at p2
  rw [p1, bind_s, p2, bind_s]
theorem isU0 : ∀ k, k < 8 → f_X12_isUnder q00 (Int32.ofNat k) 1 = some (if k = 1 ∨ k = 4 then 1 else 0) ∧ f_X12_isUnder q00 (Int32.ofNat k) 3 = some (if k = 3 ∨ k = 5 then 1 else 0) := by decide +kernel
/-! ===== acts: the model ===== -/
theorem m_plainSlips {q : SS} (hr : okR (q.1 60 54) 1) (b x : Int32) : f_X12_plainSlips q b x = some (x + b, nbM q 1) := by
  unfold f_X12_plainSlips
  rw [m_nb hr.1, bind_s]
theorem m_wiseSlips {q : SS} (hr : okR (q.1 60 54) 2) (b x : Int32) : f_X12_wiseSlips q b x = some ((x + b) * 2, nbM (nbM q 70) 1) := by
  unfold f_X12_wiseSlips
  rw [m_nb hr.1, bind_s, m_plainSlips (nbM_ran (n := 1) hr (by decide)), bind_s]
theorem m_plainProves {q : SS} (hr : okR (q.1 60 54) 1) (b x : Int32) : f_X12_plainProves q b x = some (x ^^^ b, nbM q 11) := by
  unfold f_X12_plainProves
  rw [m_nb hr.1, bind_s]
theorem m_childProves {q : SS} (hr : okR (q.1 60 54) 2) (b x : Int32) : f_X12_childProves q b x = some ((x ^^^ b) * 3, nbM (nbM q 40) 11) := by
  unfold f_X12_childProves
  rw [m_nb hr.1, bind_s, m_plainProves (nbM_ran (n := 1) hr (by decide)), bind_s]
theorem isU1_0 : f_X12_isUnder q00 0 1 = some 0 := by decide +kernel
theorem isU3_0 : f_X12_isUnder q00 0 3 = some 0 := by decide +kernel
theorem isU1_1 : f_X12_isUnder q00 1 1 = some 1 := by decide +kernel
theorem isU3_1 : f_X12_isUnder q00 1 3 = some 0 := by decide +kernel
theorem isU1_2 : f_X12_isUnder q00 2 1 = some 0 := by decide +kernel
theorem isU3_2 : f_X12_isUnder q00 2 3 = some 0 := by decide +kernel
theorem isU1_3 : f_X12_isUnder q00 3 1 = some 0 := by decide +kernel
theorem isU3_3 : f_X12_isUnder q00 3 3 = some 1 := by decide +kernel
theorem isU1_4 : f_X12_isUnder q00 4 1 = some 1 := by decide +kernel
theorem isU3_4 : f_X12_isUnder q00 4 3 = some 0 := by decide +kernel
theorem isU1_5 : f_X12_isUnder q00 5 1 = some 0 := by decide +kernel
theorem isU3_5 : f_X12_isUnder q00 5 3 = some 1 := by decide +kernel
theorem isU1_6 : f_X12_isUnder q00 6 1 = some 0 := by decide +kernel
theorem isU3_6 : f_X12_isUnder q00 6 3 = some 0 := by decide +kernel
theorem isU1_7 : f_X12_isUnder q00 7 1 = some 0 := by decide +kernel
theorem isU3_7 : f_X12_isUnder q00 7 3 = some 0 := by decide +kernel
theorem m_sl_0 {q : SS} {b : Int32} (v : vin b 50) (hk : q.1 87 b.toNatClampNeg = 0) (hr : okR (q.1 60 54) 1) (x : Int32) : f_X12_slipping q b x = some ((x + b), (nbM q 1)) := by
  unfold f_X12_slipping
  rw [if_pos v, hk, isU_m, isU1_0, bind_s, if_pos rfl, if_pos v, if_neg (by decide), if_pos v, if_neg (by decide), m_plainSlips hr, bind_s]
theorem m_pf_0 {q : SS} {b : Int32} (v : vin b 50) (hk : q.1 87 b.toNatClampNeg = 0) (hr : okR (q.1 60 54) 2) (x : Int32) : f_X12_plainFolds q b x = some (((x + b) * 2), (nbM (nbM q 10) 1)) := by
  unfold f_X12_plainFolds
  rw [m_nb hr.1, bind_s, m_sl_0 v (by rw [nbM_o]; exact hk) (nbM_ran (n := 1) hr (by decide)), bind_s]
theorem m_bf_0 {q : SS} {b : Int32} (v : vin b 50) (hk : q.1 87 b.toNatClampNeg = 0) (hr : okR (q.1 60 54) 3) (x : Int32) : f_X12_brideFolds q b x = some ((-((x + b) * 2)), (nbM (nbM (nbM q 30) 10) 1)) := by
  unfold f_X12_brideFolds
  rw [m_nb hr.1, bind_s, m_pf_0 v (by rw [nbM_o]; exact hk) (nbM_ran (n := 2) hr (by decide)), bind_s]
theorem m_pr_0 {q : SS} {b : Int32} (v : vin b 50) (hk : q.1 87 b.toNatClampNeg = 0) (hr : okR (q.1 60 54) 1) (x : Int32) : f_X12_proving q b x = some ((x ^^^ b), (nbM q 11)) := by
  unfold f_X12_proving
  rw [if_pos v, hk, if_neg (by decide), if_pos v, if_neg (by decide), m_plainProves hr, bind_s]
theorem m_fo_0 {q : SS} {b : Int32} (v : vin b 50) (hk : q.1 87 b.toNatClampNeg = 0) (hr : okR (q.1 60 54) 2) (x : Int32) : f_X12_folding q b x = some (((x + b) * 2), (nbM (nbM q 10) 1)) := by
  unfold f_X12_folding
  rw [if_pos v, hk, isU_m, isU3_0, bind_s, if_pos rfl, if_pos v, if_neg (by decide), if_pos v, if_neg (by decide), m_pf_0 v hk hr, bind_s]
theorem m_pt_0 {q : SS} {b : Int32} (v : vin b 50) (hk : q.1 87 b.toNatClampNeg = 0) (hr : okR (q.1 60 54) 4) (x : Int32) : f_X12_plainTells q b x = some ((((x + b) * 2) - (1 ^^^ b)), (nbM (nbM (nbM (nbM q 2) 10) 1) 11)) := by
  unfold f_X12_plainTells
  have h1 : okR ((nbM q 2).1 60 54) 3 := (nbM_ran (n := 3) hr (by decide))
  have g0 : okR ((nbM (nbM q 2) 10).1 60 54) 2 := nbM_ran (n := 2) h1 (by decide)
  have g1 : okR ((nbM (nbM (nbM q 2) 10) 1).1 60 54) 1 := nbM_ran (n := 1) g0 (by decide)
  rw [m_nb hr.1, bind_s, m_fo_0 v (by rw [nbM_o]; exact hk) ⟨h1.1, by have := h1.2; omega⟩, bind_s]
  dsimp only
  rw [m_pr_0 v (by rw [nbM_o, nbM_o, nbM_o]; exact hk) g1, bind_s]
theorem m_te_0 {q : SS} {b : Int32} (v : vin b 50) (hk : q.1 87 b.toNatClampNeg = 0) (hr : okR (q.1 60 54) 4) (x : Int32) : f_X12_telling q b x = some ((((x + b) * 2) - (1 ^^^ b)), (nbM (nbM (nbM (nbM q 2) 10) 1) 11)) := by
  unfold f_X12_telling
  rw [if_pos v, hk, if_neg (by decide), if_pos v, if_neg (by decide), m_pt_0 v hk hr, bind_s]
theorem m_sl_1 {q : SS} {b : Int32} (v : vin b 50) (hk : q.1 87 b.toNatClampNeg = 1) (hr : okR (q.1 60 54) 2) (x : Int32) : f_X12_slipping q b x = some (((x + b) + 3), (nbM (nbM q 20) 1)) := by
  unfold f_X12_slipping
  rw [if_pos v, hk, isU_m, isU1_1, bind_s, if_neg (by decide), m_nb hr.1, bind_s, m_plainSlips (nbM_ran (n := 1) hr (by decide)), bind_s]
theorem m_pf_1 {q : SS} {b : Int32} (v : vin b 50) (hk : q.1 87 b.toNatClampNeg = 1) (hr : okR (q.1 60 54) 3) (x : Int32) : f_X12_plainFolds q b x = some ((((x + b) + 3) * 2), (nbM (nbM (nbM q 10) 20) 1)) := by
  unfold f_X12_plainFolds
  rw [m_nb hr.1, bind_s, m_sl_1 v (by rw [nbM_o]; exact hk) (nbM_ran (n := 2) hr (by decide)), bind_s]
theorem m_bf_1 {q : SS} {b : Int32} (v : vin b 50) (hk : q.1 87 b.toNatClampNeg = 1) (hr : okR (q.1 60 54) 4) (x : Int32) : f_X12_brideFolds q b x = some ((-(((x + b) + 3) * 2)), (nbM (nbM (nbM (nbM q 30) 10) 20) 1)) := by
  unfold f_X12_brideFolds
  rw [m_nb hr.1, bind_s, m_pf_1 v (by rw [nbM_o]; exact hk) (nbM_ran (n := 3) hr (by decide)), bind_s]
theorem m_pr_1 {q : SS} {b : Int32} (v : vin b 50) (hk : q.1 87 b.toNatClampNeg = 1) (hr : okR (q.1 60 54) 1) (x : Int32) : f_X12_proving q b x = some ((x ^^^ b), (nbM q 11)) := by
  unfold f_X12_proving
  rw [if_pos v, hk, if_neg (by decide), if_pos v, if_neg (by decide), m_plainProves hr, bind_s]
theorem m_fo_1 {q : SS} {b : Int32} (v : vin b 50) (hk : q.1 87 b.toNatClampNeg = 1) (hr : okR (q.1 60 54) 3) (x : Int32) : f_X12_folding q b x = some ((((x + b) + 3) * 2), (nbM (nbM (nbM q 10) 20) 1)) := by
  unfold f_X12_folding
  rw [if_pos v, hk, isU_m, isU3_1, bind_s, if_pos rfl, if_pos v, if_neg (by decide), if_pos v, if_neg (by decide), m_pf_1 v hk hr, bind_s]
theorem m_pt_1 {q : SS} {b : Int32} (v : vin b 50) (hk : q.1 87 b.toNatClampNeg = 1) (hr : okR (q.1 60 54) 5) (x : Int32) : f_X12_plainTells q b x = some (((((x + b) + 3) * 2) - (1 ^^^ b)), (nbM (nbM (nbM (nbM (nbM q 2) 10) 20) 1) 11)) := by
  unfold f_X12_plainTells
  have h1 : okR ((nbM q 2).1 60 54) 4 := (nbM_ran (n := 4) hr (by decide))
  have g0 : okR ((nbM (nbM q 2) 10).1 60 54) 3 := nbM_ran (n := 3) h1 (by decide)
  have g1 : okR ((nbM (nbM (nbM q 2) 10) 20).1 60 54) 2 := nbM_ran (n := 2) g0 (by decide)
  have g2 : okR ((nbM (nbM (nbM (nbM q 2) 10) 20) 1).1 60 54) 1 := nbM_ran (n := 1) g1 (by decide)
  rw [m_nb hr.1, bind_s, m_fo_1 v (by rw [nbM_o]; exact hk) ⟨h1.1, by have := h1.2; omega⟩, bind_s]
  dsimp only
  rw [m_pr_1 v (by rw [nbM_o, nbM_o, nbM_o, nbM_o]; exact hk) g2, bind_s]
theorem m_te_1 {q : SS} {b : Int32} (v : vin b 50) (hk : q.1 87 b.toNatClampNeg = 1) (hr : okR (q.1 60 54) 5) (x : Int32) : f_X12_telling q b x = some (((((x + b) + 3) * 2) - (1 ^^^ b)), (nbM (nbM (nbM (nbM (nbM q 2) 10) 20) 1) 11)) := by
  unfold f_X12_telling
  rw [if_pos v, hk, if_neg (by decide), if_pos v, if_neg (by decide), m_pt_1 v hk hr, bind_s]
theorem m_sl_2 {q : SS} {b : Int32} (v : vin b 50) (hk : q.1 87 b.toNatClampNeg = 2) (hr : okR (q.1 60 54) 1) (x : Int32) : f_X12_slipping q b x = some ((x + b), (nbM q 1)) := by
  unfold f_X12_slipping
  rw [if_pos v, hk, isU_m, isU1_2, bind_s, if_pos rfl, if_pos v, if_neg (by decide), if_pos v, if_neg (by decide), m_plainSlips hr, bind_s]
theorem m_pf_2 {q : SS} {b : Int32} (v : vin b 50) (hk : q.1 87 b.toNatClampNeg = 2) (hr : okR (q.1 60 54) 2) (x : Int32) : f_X12_plainFolds q b x = some (((x + b) * 2), (nbM (nbM q 10) 1)) := by
  unfold f_X12_plainFolds
  rw [m_nb hr.1, bind_s, m_sl_2 v (by rw [nbM_o]; exact hk) (nbM_ran (n := 1) hr (by decide)), bind_s]
theorem m_bf_2 {q : SS} {b : Int32} (v : vin b 50) (hk : q.1 87 b.toNatClampNeg = 2) (hr : okR (q.1 60 54) 3) (x : Int32) : f_X12_brideFolds q b x = some ((-((x + b) * 2)), (nbM (nbM (nbM q 30) 10) 1)) := by
  unfold f_X12_brideFolds
  rw [m_nb hr.1, bind_s, m_pf_2 v (by rw [nbM_o]; exact hk) (nbM_ran (n := 2) hr (by decide)), bind_s]
theorem m_pr_2 {q : SS} {b : Int32} (v : vin b 50) (hk : q.1 87 b.toNatClampNeg = 2) (hr : okR (q.1 60 54) 1) (x : Int32) : f_X12_proving q b x = some ((x ^^^ b), (nbM q 11)) := by
  unfold f_X12_proving
  rw [if_pos v, hk, if_neg (by decide), if_pos v, if_neg (by decide), m_plainProves hr, bind_s]
theorem m_fo_2 {q : SS} {b : Int32} (v : vin b 50) (hk : q.1 87 b.toNatClampNeg = 2) (hr : okR (q.1 60 54) 3) (x : Int32) : f_X12_folding q b x = some ((-((x + b) * 2)), (nbM (nbM (nbM q 30) 10) 1)) := by
  unfold f_X12_folding
  rw [if_pos v, hk, isU_m, isU3_2, bind_s, if_pos rfl, if_pos v, if_neg (by decide), if_pos v, if_pos rfl, m_bf_2 v hk hr, bind_s]
theorem m_pt_2 {q : SS} {b : Int32} (v : vin b 50) (hk : q.1 87 b.toNatClampNeg = 2) (hr : okR (q.1 60 54) 5) (x : Int32) : f_X12_plainTells q b x = some (((-((x + b) * 2)) - (1 ^^^ b)), (nbM (nbM (nbM (nbM (nbM q 2) 30) 10) 1) 11)) := by
  unfold f_X12_plainTells
  have h1 : okR ((nbM q 2).1 60 54) 4 := (nbM_ran (n := 4) hr (by decide))
  have g0 : okR ((nbM (nbM q 2) 30).1 60 54) 3 := nbM_ran (n := 3) h1 (by decide)
  have g1 : okR ((nbM (nbM (nbM q 2) 30) 10).1 60 54) 2 := nbM_ran (n := 2) g0 (by decide)
  have g2 : okR ((nbM (nbM (nbM (nbM q 2) 30) 10) 1).1 60 54) 1 := nbM_ran (n := 1) g1 (by decide)
  rw [m_nb hr.1, bind_s, m_fo_2 v (by rw [nbM_o]; exact hk) ⟨h1.1, by have := h1.2; omega⟩, bind_s]
  dsimp only
  rw [m_pr_2 v (by rw [nbM_o, nbM_o, nbM_o, nbM_o]; exact hk) g2, bind_s]
theorem m_te_2 {q : SS} {b : Int32} (v : vin b 50) (hk : q.1 87 b.toNatClampNeg = 2) (hr : okR (q.1 60 54) 5) (x : Int32) : f_X12_telling q b x = some (((-((x + b) * 2)) - (1 ^^^ b)), (nbM (nbM (nbM (nbM (nbM q 2) 30) 10) 1) 11)) := by
  unfold f_X12_telling
  rw [if_pos v, hk, if_neg (by decide), if_pos v, if_neg (by decide), m_pt_2 v hk hr, bind_s]
theorem m_sl_3 {q : SS} {b : Int32} (v : vin b 50) (hk : q.1 87 b.toNatClampNeg = 3) (hr : okR (q.1 60 54) 1) (x : Int32) : f_X12_slipping q b x = some ((x + b), (nbM q 1)) := by
  unfold f_X12_slipping
  rw [if_pos v, hk, isU_m, isU1_3, bind_s, if_pos rfl, if_pos v, if_neg (by decide), if_pos v, if_neg (by decide), m_plainSlips hr, bind_s]
theorem m_pf_3 {q : SS} {b : Int32} (v : vin b 50) (hk : q.1 87 b.toNatClampNeg = 3) (hr : okR (q.1 60 54) 2) (x : Int32) : f_X12_plainFolds q b x = some (((x + b) * 2), (nbM (nbM q 10) 1)) := by
  unfold f_X12_plainFolds
  rw [m_nb hr.1, bind_s, m_sl_3 v (by rw [nbM_o]; exact hk) (nbM_ran (n := 1) hr (by decide)), bind_s]
theorem m_bf_3 {q : SS} {b : Int32} (v : vin b 50) (hk : q.1 87 b.toNatClampNeg = 3) (hr : okR (q.1 60 54) 3) (x : Int32) : f_X12_brideFolds q b x = some ((-((x + b) * 2)), (nbM (nbM (nbM q 30) 10) 1)) := by
  unfold f_X12_brideFolds
  rw [m_nb hr.1, bind_s, m_pf_3 v (by rw [nbM_o]; exact hk) (nbM_ran (n := 2) hr (by decide)), bind_s]
theorem m_pr_3 {q : SS} {b : Int32} (v : vin b 50) (hk : q.1 87 b.toNatClampNeg = 3) (hr : okR (q.1 60 54) 2) (x : Int32) : f_X12_proving q b x = some (((x ^^^ b) * 3), (nbM (nbM q 40) 11)) := by
  unfold f_X12_proving
  rw [if_pos v, hk, if_neg (by decide), if_pos v, if_pos rfl, m_childProves hr, bind_s]
theorem m_fo_3 {q : SS} {b : Int32} (v : vin b 50) (hk : q.1 87 b.toNatClampNeg = 3) (hr : okR (q.1 60 54) 4) (x : Int32) : f_X12_folding q b x = some ((-(((x + 1) + b) * 2)), (nbM (nbM (nbM (nbM q 41) 30) 10) 1)) := by
  unfold f_X12_folding
  rw [if_pos v, hk, isU_m, isU3_3, bind_s, if_neg (by decide), m_nb hr.1, bind_s, m_bf_3 v (by rw [nbM_o]; exact hk) (nbM_ran (n := 3) hr (by decide)), bind_s]
theorem m_pt_3 {q : SS} {b : Int32} (v : vin b 50) (hk : q.1 87 b.toNatClampNeg = 3) (hr : okR (q.1 60 54) 7) (x : Int32) : f_X12_plainTells q b x = some (((-(((x + 1) + b) * 2)) - ((1 ^^^ b) * 3)), (nbM (nbM (nbM (nbM (nbM (nbM (nbM q 2) 41) 30) 10) 1) 40) 11)) := by
  unfold f_X12_plainTells
  have h1 : okR ((nbM q 2).1 60 54) 6 := (nbM_ran (n := 6) hr (by decide))
  have g0 : okR ((nbM (nbM q 2) 41).1 60 54) 5 := nbM_ran (n := 5) h1 (by decide)
  have g1 : okR ((nbM (nbM (nbM q 2) 41) 30).1 60 54) 4 := nbM_ran (n := 4) g0 (by decide)
  have g2 : okR ((nbM (nbM (nbM (nbM q 2) 41) 30) 10).1 60 54) 3 := nbM_ran (n := 3) g1 (by decide)
  have g3 : okR ((nbM (nbM (nbM (nbM (nbM q 2) 41) 30) 10) 1).1 60 54) 2 := nbM_ran (n := 2) g2 (by decide)
  rw [m_nb hr.1, bind_s, m_fo_3 v (by rw [nbM_o]; exact hk) ⟨h1.1, by have := h1.2; omega⟩, bind_s]
  dsimp only
  rw [m_pr_3 v (by rw [nbM_o, nbM_o, nbM_o, nbM_o, nbM_o]; exact hk) g3, bind_s]
theorem m_te_3 {q : SS} {b : Int32} (v : vin b 50) (hk : q.1 87 b.toNatClampNeg = 3) (hr : okR (q.1 60 54) 7) (x : Int32) : f_X12_telling q b x = some (((-(((x + 1) + b) * 2)) - ((1 ^^^ b) * 3)), (nbM (nbM (nbM (nbM (nbM (nbM (nbM q 2) 41) 30) 10) 1) 40) 11)) := by
  unfold f_X12_telling
  rw [if_pos v, hk, if_neg (by decide), if_pos v, if_neg (by decide), m_pt_3 v hk hr, bind_s]
theorem m_sl_4 {q : SS} {b : Int32} (v : vin b 50) (hk : q.1 87 b.toNatClampNeg = 4) (hr : okR (q.1 60 54) 2) (x : Int32) : f_X12_slipping q b x = some (((x + b) + 3), (nbM (nbM q 20) 1)) := by
  unfold f_X12_slipping
  rw [if_pos v, hk, isU_m, isU1_4, bind_s, if_neg (by decide), m_nb hr.1, bind_s, m_plainSlips (nbM_ran (n := 1) hr (by decide)), bind_s]
theorem m_pf_4 {q : SS} {b : Int32} (v : vin b 50) (hk : q.1 87 b.toNatClampNeg = 4) (hr : okR (q.1 60 54) 3) (x : Int32) : f_X12_plainFolds q b x = some ((((x + b) + 3) * 2), (nbM (nbM (nbM q 10) 20) 1)) := by
  unfold f_X12_plainFolds
  rw [m_nb hr.1, bind_s, m_sl_4 v (by rw [nbM_o]; exact hk) (nbM_ran (n := 2) hr (by decide)), bind_s]
theorem m_bf_4 {q : SS} {b : Int32} (v : vin b 50) (hk : q.1 87 b.toNatClampNeg = 4) (hr : okR (q.1 60 54) 4) (x : Int32) : f_X12_brideFolds q b x = some ((-(((x + b) + 3) * 2)), (nbM (nbM (nbM (nbM q 30) 10) 20) 1)) := by
  unfold f_X12_brideFolds
  rw [m_nb hr.1, bind_s, m_pf_4 v (by rw [nbM_o]; exact hk) (nbM_ran (n := 3) hr (by decide)), bind_s]
theorem m_pr_4 {q : SS} {b : Int32} (v : vin b 50) (hk : q.1 87 b.toNatClampNeg = 4) (hr : okR (q.1 60 54) 1) (x : Int32) : f_X12_proving q b x = some ((x ^^^ b), (nbM q 11)) := by
  unfold f_X12_proving
  rw [if_pos v, hk, if_neg (by decide), if_pos v, if_neg (by decide), m_plainProves hr, bind_s]
theorem m_fo_4 {q : SS} {b : Int32} (v : vin b 50) (hk : q.1 87 b.toNatClampNeg = 4) (hr : okR (q.1 60 54) 3) (x : Int32) : f_X12_folding q b x = some ((((x + b) + 3) * 2), (nbM (nbM (nbM q 10) 20) 1)) := by
  unfold f_X12_folding
  rw [if_pos v, hk, isU_m, isU3_4, bind_s, if_pos rfl, if_pos v, if_neg (by decide), if_pos v, if_neg (by decide), m_pf_4 v hk hr, bind_s]
theorem m_pt_4 {q : SS} {b : Int32} (v : vin b 50) (hk : q.1 87 b.toNatClampNeg = 4) (hr : okR (q.1 60 54) 5) (x : Int32) : f_X12_plainTells q b x = some (((((x + b) + 3) * 2) - (1 ^^^ b)), (nbM (nbM (nbM (nbM (nbM q 2) 10) 20) 1) 11)) := by
  unfold f_X12_plainTells
  have h1 : okR ((nbM q 2).1 60 54) 4 := (nbM_ran (n := 4) hr (by decide))
  have g0 : okR ((nbM (nbM q 2) 10).1 60 54) 3 := nbM_ran (n := 3) h1 (by decide)
  have g1 : okR ((nbM (nbM (nbM q 2) 10) 20).1 60 54) 2 := nbM_ran (n := 2) g0 (by decide)
  have g2 : okR ((nbM (nbM (nbM (nbM q 2) 10) 20) 1).1 60 54) 1 := nbM_ran (n := 1) g1 (by decide)
  rw [m_nb hr.1, bind_s, m_fo_4 v (by rw [nbM_o]; exact hk) ⟨h1.1, by have := h1.2; omega⟩, bind_s]
  dsimp only
  rw [m_pr_4 v (by rw [nbM_o, nbM_o, nbM_o, nbM_o]; exact hk) g2, bind_s]
theorem m_te_4 {q : SS} {b : Int32} (v : vin b 50) (hk : q.1 87 b.toNatClampNeg = 4) (hr : okR (q.1 60 54) 6) (x : Int32) : f_X12_telling q b x = some ((((((x + b) + 3) * 2) - (1 ^^^ b)) ^^^ 5), (nbM (nbM (nbM (nbM (nbM (nbM q 50) 2) 10) 20) 1) 11)) := by
  unfold f_X12_telling
  rw [if_pos v, hk, if_pos rfl, m_nb hr.1, bind_s, m_pt_4 v (by rw [nbM_o]; exact hk) (nbM_ran (n := 5) hr (by decide)), bind_s]
theorem m_sl_5 {q : SS} {b : Int32} (v : vin b 50) (hk : q.1 87 b.toNatClampNeg = 5) (hr : okR (q.1 60 54) 1) (x : Int32) : f_X12_slipping q b x = some ((x + b), (nbM q 1)) := by
  unfold f_X12_slipping
  rw [if_pos v, hk, isU_m, isU1_5, bind_s, if_pos rfl, if_pos v, if_neg (by decide), if_pos v, if_neg (by decide), m_plainSlips hr, bind_s]
theorem m_pf_5 {q : SS} {b : Int32} (v : vin b 50) (hk : q.1 87 b.toNatClampNeg = 5) (hr : okR (q.1 60 54) 2) (x : Int32) : f_X12_plainFolds q b x = some (((x + b) * 2), (nbM (nbM q 10) 1)) := by
  unfold f_X12_plainFolds
  rw [m_nb hr.1, bind_s, m_sl_5 v (by rw [nbM_o]; exact hk) (nbM_ran (n := 1) hr (by decide)), bind_s]
theorem m_bf_5 {q : SS} {b : Int32} (v : vin b 50) (hk : q.1 87 b.toNatClampNeg = 5) (hr : okR (q.1 60 54) 3) (x : Int32) : f_X12_brideFolds q b x = some ((-((x + b) * 2)), (nbM (nbM (nbM q 30) 10) 1)) := by
  unfold f_X12_brideFolds
  rw [m_nb hr.1, bind_s, m_pf_5 v (by rw [nbM_o]; exact hk) (nbM_ran (n := 2) hr (by decide)), bind_s]
theorem m_pr_5 {q : SS} {b : Int32} (v : vin b 50) (hk : q.1 87 b.toNatClampNeg = 5) (hr : okR (q.1 60 54) 4) (x : Int32) : f_X12_proving q b x = some ((((x ^^^ b) * 3) - (2 + b)), (nbM (nbM (nbM (nbM q 60) 40) 11) 1)) := by
  unfold f_X12_proving
  rw [if_pos v, hk, if_pos rfl, m_nb hr.1, bind_s, m_childProves ⟨(nbM_ran (n := 3) hr (by decide)).1, by have := (nbM_ran (v := 60) (n := 3) hr (by decide)).2; omega⟩, bind_s, m_sl_5 (q := (nbM (nbM (nbM q 60) 40) 11)) v (by rw [nbM_o, nbM_o, nbM_o]; exact hk) (nbM_ran (n := 1) (nbM_ran (n := 2) (nbM_ran (n := 3) hr (by decide)) (by decide)) (by decide)), bind_s]
theorem m_fo_5 {q : SS} {b : Int32} (v : vin b 50) (hk : q.1 87 b.toNatClampNeg = 5) (hr : okR (q.1 60 54) 4) (x : Int32) : f_X12_folding q b x = some ((-(((x + 1) + b) * 2)), (nbM (nbM (nbM (nbM q 41) 30) 10) 1)) := by
  unfold f_X12_folding
  rw [if_pos v, hk, isU_m, isU3_5, bind_s, if_neg (by decide), m_nb hr.1, bind_s, m_bf_5 v (by rw [nbM_o]; exact hk) (nbM_ran (n := 3) hr (by decide)), bind_s]
theorem m_pt_5 {q : SS} {b : Int32} (v : vin b 50) (hk : q.1 87 b.toNatClampNeg = 5) (hr : okR (q.1 60 54) 9) (x : Int32) : f_X12_plainTells q b x = some (((-(((x + 1) + b) * 2)) - (((1 ^^^ b) * 3) - (2 + b))), (nbM (nbM (nbM (nbM (nbM (nbM (nbM (nbM (nbM q 2) 41) 30) 10) 1) 60) 40) 11) 1)) := by
  unfold f_X12_plainTells
  have h1 : okR ((nbM q 2).1 60 54) 8 := (nbM_ran (n := 8) hr (by decide))
  have g0 : okR ((nbM (nbM q 2) 41).1 60 54) 7 := nbM_ran (n := 7) h1 (by decide)
  have g1 : okR ((nbM (nbM (nbM q 2) 41) 30).1 60 54) 6 := nbM_ran (n := 6) g0 (by decide)
  have g2 : okR ((nbM (nbM (nbM (nbM q 2) 41) 30) 10).1 60 54) 5 := nbM_ran (n := 5) g1 (by decide)
  have g3 : okR ((nbM (nbM (nbM (nbM (nbM q 2) 41) 30) 10) 1).1 60 54) 4 := nbM_ran (n := 4) g2 (by decide)
  rw [m_nb hr.1, bind_s, m_fo_5 v (by rw [nbM_o]; exact hk) ⟨h1.1, by have := h1.2; omega⟩, bind_s]
  dsimp only
  rw [m_pr_5 v (by rw [nbM_o, nbM_o, nbM_o, nbM_o, nbM_o]; exact hk) g3, bind_s]
theorem m_te_5 {q : SS} {b : Int32} (v : vin b 50) (hk : q.1 87 b.toNatClampNeg = 5) (hr : okR (q.1 60 54) 10) (x : Int32) : f_X12_telling q b x = some ((((-(((x + 1) + b) * 2)) - (((1 ^^^ b) * 3) - (2 + b))) + 1), (nbM (nbM (nbM (nbM (nbM (nbM (nbM (nbM (nbM (nbM q 61) 2) 41) 30) 10) 1) 60) 40) 11) 1)) := by
  unfold f_X12_telling
  rw [if_pos v, hk, if_neg (by decide), if_pos v, if_pos rfl, m_nb hr.1, bind_s, m_pt_5 v (by rw [nbM_o]; exact hk) (nbM_ran (n := 9) hr (by decide)), bind_s]
theorem m_sl_6 {q : SS} {b : Int32} (v : vin b 50) (hk : q.1 87 b.toNatClampNeg = 6) (hr : okR (q.1 60 54) 2) (x : Int32) : f_X12_slipping q b x = some (((x + b) * 2), (nbM (nbM q 70) 1)) := by
  unfold f_X12_slipping
  rw [if_pos v, hk, isU_m, isU1_6, bind_s, if_pos rfl, if_pos v, if_neg (by decide), if_pos v, if_pos rfl, m_wiseSlips hr, bind_s]
theorem m_pf_6 {q : SS} {b : Int32} (v : vin b 50) (hk : q.1 87 b.toNatClampNeg = 6) (hr : okR (q.1 60 54) 3) (x : Int32) : f_X12_plainFolds q b x = some ((((x + b) * 2) * 2), (nbM (nbM (nbM q 10) 70) 1)) := by
  unfold f_X12_plainFolds
  rw [m_nb hr.1, bind_s, m_sl_6 v (by rw [nbM_o]; exact hk) (nbM_ran (n := 2) hr (by decide)), bind_s]
theorem m_bf_6 {q : SS} {b : Int32} (v : vin b 50) (hk : q.1 87 b.toNatClampNeg = 6) (hr : okR (q.1 60 54) 4) (x : Int32) : f_X12_brideFolds q b x = some ((-(((x + b) * 2) * 2)), (nbM (nbM (nbM (nbM q 30) 10) 70) 1)) := by
  unfold f_X12_brideFolds
  rw [m_nb hr.1, bind_s, m_pf_6 v (by rw [nbM_o]; exact hk) (nbM_ran (n := 3) hr (by decide)), bind_s]
theorem m_pr_6 {q : SS} {b : Int32} (v : vin b 50) (hk : q.1 87 b.toNatClampNeg = 6) (hr : okR (q.1 60 54) 1) (x : Int32) : f_X12_proving q b x = some ((x ^^^ b), (nbM q 11)) := by
  unfold f_X12_proving
  rw [if_pos v, hk, if_neg (by decide), if_pos v, if_neg (by decide), m_plainProves hr, bind_s]
theorem m_fo_6 {q : SS} {b : Int32} (v : vin b 50) (hk : q.1 87 b.toNatClampNeg = 6) (hr : okR (q.1 60 54) 3) (x : Int32) : f_X12_folding q b x = some ((((x + b) * 2) * 2), (nbM (nbM (nbM q 10) 70) 1)) := by
  unfold f_X12_folding
  rw [if_pos v, hk, isU_m, isU3_6, bind_s, if_pos rfl, if_pos v, if_neg (by decide), if_pos v, if_neg (by decide), m_pf_6 v hk hr, bind_s]
theorem m_pt_6 {q : SS} {b : Int32} (v : vin b 50) (hk : q.1 87 b.toNatClampNeg = 6) (hr : okR (q.1 60 54) 5) (x : Int32) : f_X12_plainTells q b x = some (((((x + b) * 2) * 2) - (1 ^^^ b)), (nbM (nbM (nbM (nbM (nbM q 2) 10) 70) 1) 11)) := by
  unfold f_X12_plainTells
  have h1 : okR ((nbM q 2).1 60 54) 4 := (nbM_ran (n := 4) hr (by decide))
  have g0 : okR ((nbM (nbM q 2) 10).1 60 54) 3 := nbM_ran (n := 3) h1 (by decide)
  have g1 : okR ((nbM (nbM (nbM q 2) 10) 70).1 60 54) 2 := nbM_ran (n := 2) g0 (by decide)
  have g2 : okR ((nbM (nbM (nbM (nbM q 2) 10) 70) 1).1 60 54) 1 := nbM_ran (n := 1) g1 (by decide)
  rw [m_nb hr.1, bind_s, m_fo_6 v (by rw [nbM_o]; exact hk) ⟨h1.1, by have := h1.2; omega⟩, bind_s]
  dsimp only
  rw [m_pr_6 v (by rw [nbM_o, nbM_o, nbM_o, nbM_o]; exact hk) g2, bind_s]
theorem m_te_6 {q : SS} {b : Int32} (v : vin b 50) (hk : q.1 87 b.toNatClampNeg = 6) (hr : okR (q.1 60 54) 5) (x : Int32) : f_X12_telling q b x = some (((((x + b) * 2) * 2) - (1 ^^^ b)), (nbM (nbM (nbM (nbM (nbM q 2) 10) 70) 1) 11)) := by
  unfold f_X12_telling
  rw [if_pos v, hk, if_neg (by decide), if_pos v, if_neg (by decide), m_pt_6 v hk hr, bind_s]
theorem m_sl_7 {q : SS} {b : Int32} (v : vin b 50) (hk : q.1 87 b.toNatClampNeg = 7) (hr : okR (q.1 60 54) 3) (x : Int32) : f_X12_slipping q b x = some ((((x + b) * 2) - 1), (nbM (nbM (nbM q 81) 70) 1)) := by
  unfold f_X12_slipping
  rw [if_pos v, hk, isU_m, isU1_7, bind_s, if_pos rfl, if_pos v, if_pos rfl, m_nb hr.1, bind_s, m_wiseSlips (nbM_ran (n := 2) hr (by decide)), bind_s]
theorem m_pf_7 {q : SS} {b : Int32} (v : vin b 50) (hk : q.1 87 b.toNatClampNeg = 7) (hr : okR (q.1 60 54) 4) (x : Int32) : f_X12_plainFolds q b x = some (((((x + b) * 2) - 1) * 2), (nbM (nbM (nbM (nbM q 10) 81) 70) 1)) := by
  unfold f_X12_plainFolds
  rw [m_nb hr.1, bind_s, m_sl_7 v (by rw [nbM_o]; exact hk) (nbM_ran (n := 3) hr (by decide)), bind_s]
theorem m_bf_7 {q : SS} {b : Int32} (v : vin b 50) (hk : q.1 87 b.toNatClampNeg = 7) (hr : okR (q.1 60 54) 5) (x : Int32) : f_X12_brideFolds q b x = some ((-((((x + b) * 2) - 1) * 2)), (nbM (nbM (nbM (nbM (nbM q 30) 10) 81) 70) 1)) := by
  unfold f_X12_brideFolds
  rw [m_nb hr.1, bind_s, m_pf_7 v (by rw [nbM_o]; exact hk) (nbM_ran (n := 4) hr (by decide)), bind_s]
theorem m_pr_7 {q : SS} {b : Int32} (v : vin b 50) (hk : q.1 87 b.toNatClampNeg = 7) (hr : okR (q.1 60 54) 1) (x : Int32) : f_X12_proving q b x = some ((x ^^^ b), (nbM q 11)) := by
  unfold f_X12_proving
  rw [if_pos v, hk, if_neg (by decide), if_pos v, if_neg (by decide), m_plainProves hr, bind_s]
theorem m_fo_7 {q : SS} {b : Int32} (v : vin b 50) (hk : q.1 87 b.toNatClampNeg = 7) (hr : okR (q.1 60 54) 6) (x : Int32) : f_X12_folding q b x = some ((((((x + b) * 2) - 1) * 2) + (2 ^^^ b)), (nbM (nbM (nbM (nbM (nbM (nbM q 80) 10) 81) 70) 1) 11)) := by
  unfold f_X12_folding
  rw [if_pos v, hk, isU_m, isU3_7, bind_s, if_pos rfl, if_pos v, if_pos rfl, m_nb hr.1, bind_s, m_pf_7 v (by rw [nbM_o]; exact hk) ⟨(nbM_ran (n := 5) hr (by decide)).1, by have := (nbM_ran (v := 80) (n := 5) hr (by decide)).2; omega⟩, bind_s]
  dsimp only
  rw [m_pr_7 v (by rw [nbM_o, nbM_o, nbM_o, nbM_o, nbM_o]; exact hk) (nbM_ran (n := 1) (nbM_ran (n := 2) (nbM_ran (n := 3) (nbM_ran (n := 4) (nbM_ran (n := 5) hr (by decide)) (by decide)) (by decide)) (by decide)) (by decide)), bind_s]
theorem m_pt_7 {q : SS} {b : Int32} (v : vin b 50) (hk : q.1 87 b.toNatClampNeg = 7) (hr : okR (q.1 60 54) 8) (x : Int32) : f_X12_plainTells q b x = some (((((((x + b) * 2) - 1) * 2) + (2 ^^^ b)) - (1 ^^^ b)), (nbM (nbM (nbM (nbM (nbM (nbM (nbM (nbM q 2) 80) 10) 81) 70) 1) 11) 11)) := by
  unfold f_X12_plainTells
  have h1 : okR ((nbM q 2).1 60 54) 7 := (nbM_ran (n := 7) hr (by decide))
  have g0 : okR ((nbM (nbM q 2) 80).1 60 54) 6 := nbM_ran (n := 6) h1 (by decide)
  have g1 : okR ((nbM (nbM (nbM q 2) 80) 10).1 60 54) 5 := nbM_ran (n := 5) g0 (by decide)
  have g2 : okR ((nbM (nbM (nbM (nbM q 2) 80) 10) 81).1 60 54) 4 := nbM_ran (n := 4) g1 (by decide)
  have g3 : okR ((nbM (nbM (nbM (nbM (nbM q 2) 80) 10) 81) 70).1 60 54) 3 := nbM_ran (n := 3) g2 (by decide)
  have g4 : okR ((nbM (nbM (nbM (nbM (nbM (nbM q 2) 80) 10) 81) 70) 1).1 60 54) 2 := nbM_ran (n := 2) g3 (by decide)
  have g5 : okR ((nbM (nbM (nbM (nbM (nbM (nbM (nbM q 2) 80) 10) 81) 70) 1) 11).1 60 54) 1 := nbM_ran (n := 1) g4 (by decide)
  rw [m_nb hr.1, bind_s, m_fo_7 v (by rw [nbM_o]; exact hk) ⟨h1.1, by have := h1.2; omega⟩, bind_s]
  dsimp only
  rw [m_pr_7 v (by rw [nbM_o, nbM_o, nbM_o, nbM_o, nbM_o, nbM_o, nbM_o]; exact hk) g5, bind_s]
theorem m_te_7 {q : SS} {b : Int32} (v : vin b 50) (hk : q.1 87 b.toNatClampNeg = 7) (hr : okR (q.1 60 54) 8) (x : Int32) : f_X12_telling q b x = some (((((((x + b) * 2) - 1) * 2) + (2 ^^^ b)) - (1 ^^^ b)), (nbM (nbM (nbM (nbM (nbM (nbM (nbM (nbM q 2) 80) 10) 81) 70) 1) 11) 11)) := by
  unfold f_X12_telling
  rw [if_pos v, hk, if_neg (by decide), if_pos v, if_neg (by decide), m_pt_7 v hk hr, bind_s]
/-! ===== acts: both ===== -/
theorem RY_wH {q q' : SS} (f : Fr wH v0 q q') (h : RY q) : RY q' := RY_fr (Fr_r f fun _ => rfl) (Fr_r f fun _ => rfl) (Fr_r f fun _ => rfl) (Fr_r f fun _ => rfl) (Fr_r f fun _ => rfl) (Fr_r f fun _ => rfl) (Fr_r f fun _ => rfl) (Fr_r f fun _ => rfl) (Fr_r f fun _ => rfl) (Fr_r f fun _ => rfl) (Fr_r f fun _ => rfl) (Fr_r f fun _ => rfl) (Fr_r f fun _ => rfl) (Fr_r f fun _ => rfl) (f.1 _ _ rfl) (f.1 _ _ rfl) (f.1 _ _ rfl) (f.1 _ _ rfl) (f.1 _ _ rfl) (f.1 _ _ rfl) (f.1 _ _ rfl) (f.1 _ _ rfl) h
theorem RC_wH {q q' : SS} (f : Fr wH v0 q q') (h : RC q) : RC q' := RC_fr (Fr_r f fun _ => rfl) (Fr_r f fun _ => rfl) (Fr_r f fun _ => rfl) (Fr_r f fun _ => rfl) (Fr_r f fun _ => rfl) (Fr_r f fun _ => rfl) (Fr_r f fun _ => rfl) (Fr_r f fun _ => rfl) (f.1 _ _ rfl) (f.1 _ _ rfl) (f.1 _ _ rfl) (f.1 _ _ rfl) (f.1 _ _ rfl) (f.1 _ _ rfl) h
theorem RD_wH {q q' : SS} (f : Fr wH v0 q q') (h : RD q) : RD q' := RD_fr (Fr_r f fun _ => rfl) (Fr_r f fun _ => rfl) (Fr_r f fun _ => rfl) (Fr_r f fun _ => rfl) (Fr_r f fun _ => rfl) (Fr_r f fun _ => rfl) (Fr_r f fun _ => rfl) (Fr_r f fun _ => rfl) (f.1 _ _ rfl) (f.1 _ _ rfl) (f.1 _ _ rfl) (f.1 _ _ rfl) (f.1 _ _ rfl) (f.1 _ _ rfl) (f.1 _ _ rfl) (f.1 _ _ rfl) h
theorem RT_wH {q q' : SS} (f : Fr wH v0 q q') (h : RT q) : RT q' := RT_fr (Fr_r f fun _ => rfl) (Fr_r f fun _ => rfl) (f.1 _ _ rfl) (f.1 _ _ rfl) h
theorem RS_wH {q q' : SS} (f : Fr wH v0 q q') (h : RS q) : RS q' := RS_fr (Fr_r f fun _ => rfl) (Fr_r f fun _ => rfl) (Fr_r f fun _ => rfl) (Fr_r f fun _ => rfl) (Fr_r f fun _ => rfl) (f.1 _ _ rfl) (f.2 _ rfl) (fun s _ => f.2 _ rfl) h
theorem RW_wH {q q' : SS} (f : Fr wH v0 q q') (h : RW q) : RW q' := RW_fr (Fr_r f fun _ => rfl) (Fr_r f fun _ => rfl) (Fr_r f fun _ => rfl) (Fr_r f fun _ => rfl) (f.1 _ _ rfl) (f.1 _ _ rfl) h
theorem RJ_wH {q q' : SS} (f : Fr wH v0 q q') (h : RJ q) : RJ q' := RJ_fr (Fr_r f fun _ => rfl) (f.1 _ _ rfl) h
theorem INV_act {q s : SS} (h : INV q) (f : Fr wH v0 q s) (r : s.1 57 3 = s.1 60 54) (r0 : 0 ≤ (s.1 60 54).toInt) (t : s.1 59 = s.1 88) : INV s := by
  have hH := INV_RH h
  refine ⟨RY_wH f (INV_RY h), RC_wH f (INV_RC h), RD_wH f (INV_RD h), RT_wH f (INV_RT h), ?_, RS_wH f (INV_RS h), RW_wH f (INV_RW h), RJ_wH f (INV_RJ h)⟩
  obtain ⟨h1, h2, h3, h4, h5, _, _, _⟩ := hH
  unfold RH
  rw [f.1 57 2 rfl, f.1 60 52 rfl, Fr_r f (k := 58) fun _ => rfl, Fr_r f (k := 87) fun _ => rfl]
  exact ⟨h1, h2, h3, h4, h5, r, r0, t⟩
/-- with a's class cells and b's own: what the two runs lay together -/
theorem act_fin {q x z s : SS} (h : INV q) (fx : Fr wH v0 q x) (hx60 : x.1 60 54 = q.1 60 54) (hx88 : x.1 88 = q.1 88) (hz : z = sI x 60 54 0) (fs : Fr wH v0 z s) (s57 : s.1 57 = z.1 57) (s59 : s.1 59 = z.1 59) (t : TR x s) (r0 : 0 ≤ (s.1 60 54).toInt) : INV s := by
  subst hz
  refine INV_act h (Fr_tr fx (Fr_tr (Fr_sI (Fr_refl x) rfl) fs)) ?_ r0 ?_
  · rw [s57]
    show x.1 57 3 = _
    exact t.1
  · rw [s59]
    show x.1 59 = _
    exact t.2
theorem nbM_57 {q : SS} {v : Int32} : (nbM q v).1 57 = q.1 57 ∧ (nbM q v).1 59 = q.1 59 := by
  unfold nbM
  split
  · exact ⟨rfl, rfl⟩
  · exact ⟨rfl, rfl⟩
theorem nbX_60 {q : SS} {v : Int32} : (nbX q v).1 60 = q.1 60 ∧ (nbX q v).1 88 = q.1 88 ∧ (nbX q v).1 87 = q.1 87 := by
  unfold nbX
  split
  · exact ⟨rfl, rfl, rfl⟩
  · exact ⟨rfl, rfl, rfl⟩
/-- lists of notes -/
def nsX (q : SS) : List Int32 → SS
  | [] => q
  | v :: l => nsX (nbX q v) l
def nsM (q : SS) : List Int32 → SS
  | [] => q
  | v :: l => nsM (nbM q v) l
theorem ns_X : ∀ (l : List Int32) (q a : SS), Fr wH v0 a q → Fr wH v0 a (nsX q l) ∧ (nsX q l).1 60 = q.1 60 ∧ (nsX q l).1 88 = q.1 88 ∧ (nsX q l).1 87 = q.1 87
  | [], _, _, h => ⟨h, rfl, rfl, rfl⟩
  | v :: l, q, a, h => by
    obtain ⟨h1, h2, h3, h4⟩ := ns_X l (nbX q v) a (nbX_fr h)
    exact ⟨h1, h2.trans nbX_60.1, h3.trans nbX_60.2.1, h4.trans nbX_60.2.2⟩
theorem ns_M : ∀ (l : List Int32) (q a : SS), Fr wH v0 a q → Fr wH v0 a (nsM q l) ∧ (nsM q l).1 57 = q.1 57 ∧ (nsM q l).1 59 = q.1 59
  | [], _, _, h => ⟨h, rfl, rfl⟩
  | v :: l, q, a, h => by
    obtain ⟨h1, h2, h3⟩ := ns_M l (nbM q v) a (nbM_fr h)
    exact ⟨h1, h2.trans nbM_57.1, h3.trans nbM_57.2⟩
theorem ns_TR : ∀ (l : List Int32) (a b : SS), TR a b → TR (nsX a l) (nsM b l)
  | [], _, _, h => h
  | v :: l, a, b, h => ns_TR l _ _ (TR_nb h v)
theorem ns_r : ∀ (l : List Int32) (b : SS), okR (b.1 60 54) l.length → 0 ≤ ((nsM b l).1 60 54).toInt
  | [], _, h => h.1
  | v :: l, b, h => ns_r l _ (nbM_ran (n := l.length) (by
      have e : ((v :: l).length : Int) = (l.length : Int) + 1 := by simp
      rw [e] at h
      exact h) (by omega))
theorem act_go {q : SS} (h : INV q) {b k x a v : Int32} (hb : 0 ≤ b.toInt ∧ b.toInt < (q.1 60 52).toInt) (hk : q.1 87 b.toNatClampNeg = k) (a0 : 0 ≤ a.toInt ∧ a.toInt ≤ 3) (l : List Int32) (hl : l.length ≤ 500)
    (hX : ∀ y : SS, OKk y k b → okR (y.1 57 3) l.length → f_X3_perform y k a x 0 = some (v, nsX y l))
    (hM : ∀ y : SS, y.1 87 b.toNatClampNeg = k → okR (y.1 60 54) l.length → (if a = 0 then f_X12_slipping y b x else if a = 1 then f_X12_folding y b x else if a = 2 then f_X12_proving y b x else f_X12_telling y b x) = some (v, nsM y l)) :
    T (f_X11_act q b a x) (fun r => T (f_X12_act r.2 b a x) (fun s => INV s.2 ∧ r.1 = s.1)) := by
  have hH := INV_RH h
  have b50 := RH_b50 hH
  have eb := RH_bodies hH
  have b0 := RH_b0 hH
  unfold f_X11_act f_X3_begin
  have y0 : OKk (sI (sI q 57 3 0) 57 4 b) k b := by
    refine ⟨rfl, ?_⟩
    rw [x_kindOf (sI (sI q 57 3 0) 57 4 b) (by show (q.1 57 2).toInt ≤ 50; rw [eb]; exact b50) b]
    show some (if 0 ≤ b.toInt ∧ b.toInt < (q.1 57 2).toInt then q.1 58 b.toNatClampNeg else -1) = _
    rw [eb, if_pos hb, RH_kind hH, hk]
  have l4 : (4 : Int32).toInt = 4 := rfl
  have l0 : (0 : Int32).toInt = 0 := rfl
  have pX := hX (sI (sI q 57 3 0) 57 4 b) y0 ⟨by show (0 : Int) ≤ (0 : Int32).toInt; decide, by show (0 : Int32).toInt + _ ≤ 1000; omega⟩
  obtain ⟨f1, f2, f3, f4⟩ := ns_X l (sI (sI q 57 3 0) 57 4 b) q (Fr_sI (Fr_sI (Fr_refl q) rfl) rfl)
  have ib : f_X3_isBody (sI q 57 3 0) b = some (bI (0 ≤ b.toInt ∧ b.toInt < (q.1 60 52).toInt)) := by
    rw [x_isBody]
    show some (bI (0 ≤ b.toInt ∧ b.toInt < (q.1 57 2).toInt)) = _
    exact congrArg some (bI_c (by rw [eb]))
  refine T_b (T_nm (T_rw ib (T_bp hb (T_ltn (by omega) (T_ltp (by omega) (T_nm (T_rw y0.2 (T_rw pX (T_some.mpr (Eq.refl _))))))))) ) (fun r hr => ?_)
  subst hr
  refine T_some.mpr ?_
  generalize hx : nsX (sI (sI q 57 3 0) 57 4 b) l = X at *
  have X60 : X.1 60 = q.1 60 := f2
  have X88 : X.1 88 = q.1 88 := f3
  have X87 : X.1 87 = q.1 87 := f4
  unfold f_X12_act
  refine T_nm ?_
  have m1 : f_X12_isBody (sI X 60 54 0) b = some (bI (0 ≤ b.toInt ∧ b.toInt < (q.1 60 52).toInt)) := by
    rw [m_isBody (by show 0 ≤ (X.1 60 52).toInt; rw [X60]; exact b0)]
    show some (bI (0 ≤ b.toInt ∧ b.toInt < (X.1 60 52).toInt)) = _
    exact congrArg some (bI_c (by rw [X60]))
  have m2 : f_X12_in (sI X 60 54 0) a 0 3 = some (bI (0 ≤ a.toInt ∧ a.toInt ≤ 3)) := m_in _ a 0 3
  have pM := hM (sI X 60 54 0) (by show X.1 87 b.toNatClampNeg = k; rw [X87]; exact hk) ⟨by show (0 : Int) ≤ (0 : Int32).toInt; decide, by show (0 : Int32).toInt + _ ≤ 1000; omega⟩
  obtain ⟨g1, g2, g3⟩ := ns_M l (sI X 60 54 0) (sI X 60 54 0) (Fr_refl _)
  have tr : TR X (nsM (sI X 60 54 0) l) := by
    rw [← hx]
    refine ns_TR l _ _ ⟨rfl, ?_⟩
    show q.1 59 = (nsX (sI (sI q 57 3 0) 57 4 b) l).1 88
    rw [hx, X88, RH_trace hH]
  have r0 : 0 ≤ ((nsM (sI X 60 54 0) l).1 60 54).toInt := ns_r l _ ⟨by show (0 : Int) ≤ (0 : Int32).toInt; decide, by show (0 : Int32).toInt + _ ≤ 1000; omega⟩
  have fin : INV (nsM (sI X 60 54 0) l) := act_fin h f1 (by rw [X60]) X88 rfl g1 g2 g3 tr r0
  refine T_rw m1 (T_bp hb (T_rw m2 (T_bp a0 ?_)))
  by_cases e0 : a = 0
  · rw [if_pos e0] at pM
    exact T_p e0 (T_rw pM (T_some.mpr ⟨fin, rfl⟩))
  rw [if_neg e0] at pM
  by_cases e1 : a = 1
  · rw [if_pos e1] at pM
    exact T_q e0 (T_p e1 (T_rw pM (T_some.mpr ⟨fin, rfl⟩)))
  rw [if_neg e1] at pM
  by_cases e2 : a = 2
  · rw [if_pos e2] at pM
    exact T_q e0 (T_q e1 (T_p e2 (T_rw pM (T_some.mpr ⟨fin, rfl⟩))))
  rw [if_neg e2] at pM
  exact T_q e0 (T_q e1 (T_q e2 (T_rw pM (T_some.mpr ⟨fin, rfl⟩))))
theorem a03 {w : Int32} (h0 : 0 ≤ w.toInt) (h8 : w.toInt ≤ 3) : w = 0 ∨ w = 1 ∨ w = 2 ∨ w = 3 := by
  simp only [← Int32.toInt_inj, Int32.reduceToInt]
  omega
theorem k07 {w : Int32} (h0 : 0 ≤ w.toInt) (h8 : w.toInt ≤ 7) : w = 0 ∨ w = 1 ∨ w = 2 ∨ w = 3 ∨ w = 4 ∨ w = 5 ∨ w = 6 ∨ w = 7 := by
  simp only [← Int32.toInt_inj, Int32.reduceToInt]
  omega
theorem op_act {q : SS} (h : INV q) (b a x : Int32) : T (f_X11_act q b a x) (fun r => T (f_X12_act r.2 b a x) (fun s => INV s.2 ∧ r.1 = s.1)) := by
  have hH := INV_RH h
  have eb := RH_bodies hH
  have b0 := RH_b0 hH
  have b50 := RH_b50 hH
  have l4 : (4 : Int32).toInt = 4 := rfl
  have l0 : (0 : Int32).toInt = 0 := rfl
  by_cases hb : 0 ≤ b.toInt ∧ b.toInt < (q.1 60 52).toInt
  · by_cases ha : 0 ≤ a.toInt ∧ a.toInt ≤ 3
    · have kk := RH_rkind hH b.toNatClampNeg (by rw [cnI hb.1]; exact hb.2)
      have v : vin b 50 := ⟨hb.1, by show b.toInt < 50; omega⟩
      generalize hk : q.1 87 b.toNatClampNeg = k at *
      rcases k07 kk.1 kk.2 with rfl | rfl | rfl | rfl | rfl | rfl | rfl | rfl
      · rcases a03 ha.1 ha.2 with rfl | rfl | rfl | rfl
        · exact act_go h hb hk (by decide) [1] (by decide) (fun y o r => pf_0_0_0 o 59 x 0 (by decide) (by decide) r) (fun y e r => m_sl_0 v e r x)
        · exact act_go h hb hk (by decide) [10, 1] (by decide) (fun y o r => pf_0_0_1 o 58 x 0 (by decide) (by decide) r) (fun y e r => m_fo_0 v e r x)
        · exact act_go h hb hk (by decide) [11] (by decide) (fun y o r => pf_0_0_2 o 59 x 0 (by decide) (by decide) r) (fun y e r => m_pr_0 v e r x)
        · exact act_go h hb hk (by decide) [2, 10, 1, 11] (by decide) (fun y o r => pf_0_0_3 o 57 x 0 (by decide) (by decide) r) (fun y e r => m_te_0 v e r x)
      · rcases a03 ha.1 ha.2 with rfl | rfl | rfl | rfl
        · exact act_go h hb hk (by decide) [20, 1] (by decide) (fun y o r => pf_1_1_0 o 58 x 0 (by decide) (by decide) r) (fun y e r => m_sl_1 v e r x)
        · exact act_go h hb hk (by decide) [10, 20, 1] (by decide) (fun y o r => pf_1_1_1 o 57 x 0 (by decide) (by decide) r) (fun y e r => m_fo_1 v e r x)
        · exact act_go h hb hk (by decide) [11] (by decide) (fun y o r => pf_1_1_2 o 59 x 0 (by decide) (by decide) r) (fun y e r => m_pr_1 v e r x)
        · exact act_go h hb hk (by decide) [2, 10, 20, 1, 11] (by decide) (fun y o r => pf_1_1_3 o 56 x 0 (by decide) (by decide) r) (fun y e r => m_te_1 v e r x)
      · rcases a03 ha.1 ha.2 with rfl | rfl | rfl | rfl
        · exact act_go h hb hk (by decide) [1] (by decide) (fun y o r => pf_2_2_0 o 59 x 0 (by decide) (by decide) r) (fun y e r => m_sl_2 v e r x)
        · exact act_go h hb hk (by decide) [30, 10, 1] (by decide) (fun y o r => pf_2_2_1 o 57 x 0 (by decide) (by decide) r) (fun y e r => m_fo_2 v e r x)
        · exact act_go h hb hk (by decide) [11] (by decide) (fun y o r => pf_2_2_2 o 59 x 0 (by decide) (by decide) r) (fun y e r => m_pr_2 v e r x)
        · exact act_go h hb hk (by decide) [2, 30, 10, 1, 11] (by decide) (fun y o r => pf_2_2_3 o 56 x 0 (by decide) (by decide) r) (fun y e r => m_te_2 v e r x)
      · rcases a03 ha.1 ha.2 with rfl | rfl | rfl | rfl
        · exact act_go h hb hk (by decide) [1] (by decide) (fun y o r => pf_3_3_0 o 59 x 0 (by decide) (by decide) r) (fun y e r => m_sl_3 v e r x)
        · exact act_go h hb hk (by decide) [41, 30, 10, 1] (by decide) (fun y o r => pf_3_3_1 o 56 x 0 (by decide) (by decide) r) (fun y e r => m_fo_3 v e r x)
        · exact act_go h hb hk (by decide) [40, 11] (by decide) (fun y o r => pf_3_3_2 o 58 x 0 (by decide) (by decide) r) (fun y e r => m_pr_3 v e r x)
        · exact act_go h hb hk (by decide) [2, 41, 30, 10, 1, 40, 11] (by decide) (fun y o r => pf_3_3_3 o 55 x 0 (by decide) (by decide) r) (fun y e r => m_te_3 v e r x)
      · rcases a03 ha.1 ha.2 with rfl | rfl | rfl | rfl
        · exact act_go h hb hk (by decide) [20, 1] (by decide) (fun y o r => pf_4_4_0 o 58 x 0 (by decide) (by decide) r) (fun y e r => m_sl_4 v e r x)
        · exact act_go h hb hk (by decide) [10, 20, 1] (by decide) (fun y o r => pf_4_4_1 o 57 x 0 (by decide) (by decide) r) (fun y e r => m_fo_4 v e r x)
        · exact act_go h hb hk (by decide) [11] (by decide) (fun y o r => pf_4_4_2 o 59 x 0 (by decide) (by decide) r) (fun y e r => m_pr_4 v e r x)
        · exact act_go h hb hk (by decide) [50, 2, 10, 20, 1, 11] (by decide) (fun y o r => pf_4_4_3 o 55 x 0 (by decide) (by decide) r) (fun y e r => m_te_4 v e r x)
      · rcases a03 ha.1 ha.2 with rfl | rfl | rfl | rfl
        · exact act_go h hb hk (by decide) [1] (by decide) (fun y o r => pf_5_5_0 o 59 x 0 (by decide) (by decide) r) (fun y e r => m_sl_5 v e r x)
        · exact act_go h hb hk (by decide) [41, 30, 10, 1] (by decide) (fun y o r => pf_5_5_1 o 56 x 0 (by decide) (by decide) r) (fun y e r => m_fo_5 v e r x)
        · exact act_go h hb hk (by decide) [60, 40, 11, 1] (by decide) (fun y o r => pf_5_5_2 o 57 x 0 (by decide) (by decide) r) (fun y e r => m_pr_5 v e r x)
        · exact act_go h hb hk (by decide) [61, 2, 41, 30, 10, 1, 60, 40, 11, 1] (by decide) (fun y o r => pf_5_5_3 o 54 x 0 (by decide) (by decide) r) (fun y e r => m_te_5 v e r x)
      · rcases a03 ha.1 ha.2 with rfl | rfl | rfl | rfl
        · exact act_go h hb hk (by decide) [70, 1] (by decide) (fun y o r => pf_6_6_0 o 58 x 0 (by decide) (by decide) r) (fun y e r => m_sl_6 v e r x)
        · exact act_go h hb hk (by decide) [10, 70, 1] (by decide) (fun y o r => pf_6_6_1 o 57 x 0 (by decide) (by decide) r) (fun y e r => m_fo_6 v e r x)
        · exact act_go h hb hk (by decide) [11] (by decide) (fun y o r => pf_6_6_2 o 59 x 0 (by decide) (by decide) r) (fun y e r => m_pr_6 v e r x)
        · exact act_go h hb hk (by decide) [2, 10, 70, 1, 11] (by decide) (fun y o r => pf_6_6_3 o 56 x 0 (by decide) (by decide) r) (fun y e r => m_te_6 v e r x)
      · rcases a03 ha.1 ha.2 with rfl | rfl | rfl | rfl
        · exact act_go h hb hk (by decide) [81, 70, 1] (by decide) (fun y o r => pf_7_7_0 o 57 x 0 (by decide) (by decide) r) (fun y e r => m_sl_7 v e r x)
        · exact act_go h hb hk (by decide) [80, 10, 81, 70, 1, 11] (by decide) (fun y o r => pf_7_7_1 o 55 x 0 (by decide) (by decide) r) (fun y e r => m_fo_7 v e r x)
        · exact act_go h hb hk (by decide) [11] (by decide) (fun y o r => pf_7_7_2 o 59 x 0 (by decide) (by decide) r) (fun y e r => m_pr_7 v e r x)
        · exact act_go h hb hk (by decide) [2, 80, 10, 81, 70, 1, 11, 11] (by decide) (fun y o r => pf_7_7_3 o 54 x 0 (by decide) (by decide) r) (fun y e r => m_te_7 v e r x)
    · have key : INV (sI (sI q 57 3 0) 60 54 0) := INV_act h (Fr_sI (Fr_sI (Fr_refl q) rfl) rfl) rfl (by show (0 : Int) ≤ (0 : Int32).toInt; decide) (by have a := RH_trace hH; exact a)
      have key2 : T (f_X12_act (sI q 57 3 0) b a x) (fun s => INV s.2 ∧ 0 = s.1) := by
        unfold f_X12_act
        have m2 : ∀ z, f_X12_in z a 0 3 = some (bI (0 ≤ a.toInt ∧ a.toInt ≤ 3)) := fun z => m_in z a 0 3
        exact T_nm (T_rw (m_isBody (q := sI (sI q 57 3 0) 60 54 0) b0 b) (T_bp hb (T_rw (m2 _) (T_bn ha (T_some.mpr ⟨key, rfl⟩)))))
      unfold f_X11_act f_X3_begin
      have ib : f_X3_isBody (sI q 57 3 0) b = some (bI (0 ≤ b.toInt ∧ b.toInt < (q.1 60 52).toInt)) := by
        rw [x_isBody]
        show some (bI (0 ≤ b.toInt ∧ b.toInt < (q.1 57 2).toInt)) = _
        exact congrArg some (bI_c (by rw [eb]))
      refine T_b (Q := fun r => r = (0, sI q 57 3 0)) (T_nm (T_rw ib (T_bp hb (T_lt (fun _ => T_some.mpr rfl) (fun g => T_lt (fun g2 => absurd ⟨g, by omega⟩ ha) (fun _ => T_some.mpr rfl)))))) (fun r hr => ?_)
      subst hr
      exact T_some.mpr key2
  · have key : INV (sI (sI q 57 3 0) 60 54 0) := INV_act h (Fr_sI (Fr_sI (Fr_refl q) rfl) rfl) rfl (by show (0 : Int) ≤ (0 : Int32).toInt; decide) (by have a := RH_trace hH; exact a)
    have key2 : T (f_X12_act (sI q 57 3 0) b a x) (fun s => INV s.2 ∧ 0 = s.1) := by
      unfold f_X12_act
      exact T_nm (T_rw (m_isBody (q := sI (sI q 57 3 0) 60 54 0) b0 b) (T_bn hb (T_some.mpr ⟨key, rfl⟩)))
    unfold f_X11_act f_X3_begin
    have ib : f_X3_isBody (sI q 57 3 0) b = some (bI (0 ≤ b.toInt ∧ b.toInt < (q.1 60 52).toInt)) := by
      rw [x_isBody]
      show some (bI (0 ≤ b.toInt ∧ b.toInt < (q.1 57 2).toInt)) = _
      exact congrArg some (bI_c (by rw [eb]))
    refine T_b (Q := fun r => r = (0, sI q 57 3 0)) (T_nm (T_rw ib (T_bn hb (T_some.mpr rfl)))) (fun r hr => ?_)
    subst hr
    exact T_some.mpr key2
/-! ===== image, back ===== -/
theorem x_keep {q : SS} (hp : (q.1 1 1).toInt ≤ 6) (k0 : 0 ≤ (q.1 1 2).toInt) (k12 : (q.1 1 2).toInt ≤ 12) : T (f_X1_keepImage q) (fun r => r.2 = q.2 ∧ (∀ k, k ≠ 47 → k ≠ 49 → k ≠ 50 → k ≠ 51 → r.1 k = q.1 k) ∧ r.1 47 5 = q.1 1 2 ∧ r.1 47 6 = q.1 10 0 ∧ r.1 47 7 = 1 ∧ (∀ j, r.1 49 j = if j < 4 then q.1 48 j else q.1 49 j) ∧ (∀ j : Nat, r.1 50 j = if (j : Int) < (q.1 1 2).toInt then q.1 7 j else q.1 50 j) ∧ (∀ j : Nat, r.1 51 j = if (j : Int) < (q.1 1 2).toInt then q.1 9 j else q.1 51 j)) := by
  unfold f_X1_keepImage f_X10_tickets
  refine T_nm (T_rw rfl (T_nm (T_rw (x_hourNow _) (T_nm (T_p (by decide) (T_nm ?_))))))
  unfold b_X1_keepImage_43
  refine T_fx2 (fun z l => 0 ≤ l.toInt ∧ l.toInt ≤ (q.1 1 2).toInt ∧ z.2 = q.2 ∧ (∀ k, k ≠ 47 → k ≠ 49 → k ≠ 50 → k ≠ 51 → z.1 k = q.1 k) ∧ z.1 47 5 = q.1 1 2 ∧ z.1 47 6 = q.1 10 0 ∧ z.1 47 7 = 1 ∧ (∀ j, z.1 49 j = if j < 4 then q.1 48 j else q.1 49 j) ∧ (∀ j : Nat, z.1 50 j = if (j : Int) < l.toInt then q.1 7 j else q.1 50 j) ∧ (∀ j : Nat, z.1 51 j = if (j : Int) < l.toInt then q.1 9 j else q.1 51 j)) (fun _ l => (12 - l.toInt).toNat) ?_ _ _ _ ⟨by decide, by simp only [Int32.reduceToInt]; omega, rfl, fun k h1 h2 h3 h4 => ?_, rfl, rfl, rfl, fun j => ?_, fun j => ?_, fun j => ?_⟩ (by unfold FU; decide)
  · rintro rec z l ⟨g0, g1, z2, zo, z5, z6, z7, z49, z50, z51⟩ hr
    rw [z5]
    refine T_le (fun g => T_some.mpr ⟨z2, zo, z5, z6, z7, z49, fun j => ?_, fun j => ?_⟩) (fun g => T_len (by show l.toInt < (12 : Int); omega) ?_)
    · have : l.toInt = (q.1 1 2).toInt := by omega
      rw [z50, this]
    · have : l.toInt = (q.1 1 2).toInt := by omega
      rw [z51, this]
    · have e1 := inc1 (a := l) (by omega) (by omega)
      have cl := cnI g0
      have z1 : z.1 1 = q.1 1 := zo 1 (by decide) (by decide) (by decide) (by decide)
      have k4 := x_get4 (q := z) (by rw [z1]; exact k12) l
      have k6 := x_get6 (q := sI z 50 l.toNatClampNeg (z.1 7 l.toNatClampNeg)) (by show (z.1 1 2).toInt ≤ 12; rw [z1]; exact k12) l
      rw [z1, if_pos ⟨g0, g⟩] at k4
      rw [show (sI z 50 l.toNatClampNeg (z.1 7 l.toNatClampNeg)).1 1 2 = q.1 1 2 from congrFun z1 2, if_pos ⟨g0, g⟩] at k6
      refine T_rw k4 (T_vp g0 (by show l.toInt < 12; omega) (T_nm (T_rw k6 (T_vp g0 (by show l.toInt < 12; omega) (T_nm (hr _ _ ⟨by omega, by omega, z2, fun k h1 h2 h3 h4 => ?_, z5, z6, z7, z49, fun j => ?_, fun j => ?_⟩ (by omega)))))))
      · rw [sI_ro h4, sI_ro h3]
        exact zo k h1 h2 h3 h4
      · rw [sI_ro (by decide), sI_rd]
        by_cases e : j = l.toNatClampNeg
        · rw [if_pos ⟨rfl, e⟩, if_pos (by omega), zo 7 (by decide) (by decide) (by decide) (by decide), e]
        · rw [if_neg (fun x => e x.2), z50]
          by_cases e2 : (j : Int) < l.toInt
          · rw [if_pos e2, if_pos (by omega)]
          · rw [if_neg e2, if_neg (by omega)]
      · rw [sI_rd]
        by_cases e : j = l.toNatClampNeg
        · rw [if_pos ⟨rfl, e⟩, if_pos (by omega)]
          show z.1 9 l.toNatClampNeg = _
          rw [zo 9 (by decide) (by decide) (by decide) (by decide), e]
        · rw [if_neg (fun x => e x.2), sI_ro (by decide), z51]
          by_cases e2 : (j : Int) < l.toInt
          · rw [if_pos e2, if_pos (by omega)]
          · rw [if_neg e2, if_neg (by omega)]
  · rw [sR_ro h2, sI_ro h1, sI_ro h1, sI_ro h1]
  · rw [sR_rd, if_pos rfl]
    show (if 0 ≤ j ∧ j < 0 + 4 then q.1 48 (0 + (j - 0)) else q.1 49 j) = _
    by_cases e : j < 4
    · rw [if_pos (by omega), if_pos e]
      exact congrArg (q.1 48) (by omega)
    · rw [if_neg (by omega), if_neg e]
  · rw [if_neg (by simp only [Int32.reduceToInt]; omega), sR_ro (by decide)]
    rfl
  · rw [if_neg (by simp only [Int32.reduceToInt]; omega), sR_ro (by decide)]
    rfl
theorem m_image {q : SS} (k0 : 0 ≤ (q.1 60 6).toInt) (k12 : (q.1 60 6).toInt ≤ 12) : T (f_X12_image q) (fun s => s.1 = q.1 83 0 ∧ s.2.2 = q.2 ∧ (∀ k, k ≠ 60 → k ≠ 84 → k ≠ 85 → k ≠ 86 → s.2.1 k = q.1 k) ∧ (∀ i, i ≠ 46 → i ≠ 47 → i ≠ 48 → s.2.1 60 i = q.1 60 i) ∧ s.2.1 60 46 = 1 ∧ s.2.1 60 47 = q.1 60 6 ∧ s.2.1 60 48 = q.1 68 0 ∧ (∀ j, s.2.1 86 j = if j < 4 then q.1 83 j else q.1 86 j) ∧ (∀ j : Nat, s.2.1 84 j = if (j : Int) < (q.1 60 6).toInt then q.1 65 j else q.1 84 j) ∧ (∀ j : Nat, s.2.1 85 j = if (j : Int) < (q.1 60 6).toInt then q.1 67 j else q.1 85 j)) := by
  unfold f_X12_image
  refine T_nm (T_nm (T_vp (by decide) (by decide) (T_nm ?_)))
  unfold b_X12_image_25
  refine T_fx2 (fun z l => 0 ≤ l.toInt ∧ l.toInt ≤ (q.1 60 6).toInt ∧ z.2 = q.2 ∧ (∀ k, k ≠ 60 → k ≠ 84 → k ≠ 85 → z.1 k = q.1 k) ∧ (∀ i, i ≠ 46 → i ≠ 47 → i ≠ 48 → z.1 60 i = q.1 60 i) ∧ z.1 60 46 = 1 ∧ z.1 60 47 = q.1 60 6 ∧ z.1 60 48 = q.1 68 0 ∧ (∀ j : Nat, z.1 84 j = if (j : Int) < l.toInt then q.1 65 j else q.1 84 j) ∧ (∀ j : Nat, z.1 85 j = if (j : Int) < l.toInt then q.1 67 j else q.1 85 j)) (fun _ l => (12 - l.toInt).toNat) ?_ _ _ _ ⟨by decide, by simp only [Int32.reduceToInt]; omega, rfl, fun k h1 _ _ => by rw [sI_ro h1, sI_ro h1, sI_ro h1], fun i h1 h2 h3 => by rw [sI_rd, if_neg (fun x => h3 x.2), sI_rd, if_neg (fun x => h2 x.2), sI_rd, if_neg (fun x => h1 x.2)], rfl, rfl, rfl, fun j => by rw [if_neg (by simp only [Int32.reduceToInt]; omega)]; rfl, fun j => by rw [if_neg (by simp only [Int32.reduceToInt]; omega)]; rfl⟩ (by unfold FU; decide)
  rintro rec z l ⟨g0, g1, z2, zo, z60, z46, z47, z48, z84, z85⟩ hr
  rw [z60 6 (by decide) (by decide) (by decide)]
  refine T_le (fun g => ?_) (fun g => ?_)
  · have el : l.toInt = (q.1 60 6).toInt := by omega
    unfold b_X12_image_65
    refine T_fx2 (fun y m => 0 ≤ m.toInt ∧ m.toInt ≤ 4 ∧ y.2 = z.2 ∧ (∀ k, k ≠ 86 → y.1 k = z.1 k) ∧ (∀ j : Nat, y.1 86 j = if (j : Int) < m.toInt then z.1 83 j else z.1 86 j)) (fun _ m => (4 - m.toInt).toNat) ?_ _ _ _ ⟨by decide, by decide, rfl, fun _ _ => rfl, fun j => by rw [if_neg (by simp only [Int32.reduceToInt]; omega)]⟩ (by unfold FU; decide)
    rintro rec2 y m ⟨f0, f1, y2, yo, y86⟩ hr2
    have l4 : (4 : Int32).toInt = 4 := rfl
    refine T_le (fun f => T_vp (by decide) (by decide) (T_some.mpr ⟨?_, y2.trans z2, fun k h1 h2 h3 h4 => (yo k h4).trans (zo k h1 h2 h3), fun i h1 h2 h3 => by rw [yo 60 (by decide)]; exact z60 i h1 h2 h3, by rw [yo 60 (by decide)]; exact z46, by rw [yo 60 (by decide)]; exact z47, by rw [yo 60 (by decide)]; exact z48, fun j => ?_, fun j => ?_, fun j => ?_⟩)) (fun f => ?_)
    · show y.1 83 0 = q.1 83 0
      rw [yo 83 (by decide), zo 83 (by decide) (by decide) (by decide)]
    · rw [y86, zo 83 (by decide) (by decide) (by decide), zo 86 (by decide) (by decide) (by decide)]
      by_cases e : j < 4
      · rw [if_pos (by omega), if_pos e]
      · rw [if_neg (by omega), if_neg e]
    · rw [yo 84 (by decide), z84, el]
    · rw [yo 85 (by decide), z85, el]
    · have e1 := inc1 (a := m) (by omega) (by omega)
      have cm := cnI f0
      refine T_vp f0 (by show m.toInt < 4; omega) (T_vp f0 (by show m.toInt < 4; omega) (T_nm (hr2 _ _ ⟨by omega, by omega, y2, fun k hk => (sI_ro hk).trans (yo k hk), fun j => ?_⟩ (by omega))))
      rw [sI_rd]
      by_cases e : j = m.toNatClampNeg
      · rw [if_pos ⟨rfl, e⟩, if_pos (by omega), yo 83 (by decide), e]
      · rw [if_neg (fun x => e x.2), y86]
        by_cases e2 : (j : Int) < m.toInt
        · rw [if_pos e2, if_pos (by omega)]
        · rw [if_neg e2, if_neg (by omega)]
  · have e1 := inc1 (a := l) (by omega) (by omega)
    have cl := cnI g0
    have v : vin l 12 := ⟨g0, by show l.toInt < 12; omega⟩
    refine T_p v (T_p v (T_nm (T_p v (T_p v (T_nm (hr _ _ ⟨by omega, by omega, z2, fun k h1 h2 h3 => ?_, fun i h1 h2 h3 => ?_, z46, z47, z48, fun j => ?_, fun j => ?_⟩ (by omega)))))))
    · rw [sI_ro h3, sI_ro h2]
      exact zo k h1 h2 h3
    · rw [sI_ro (by decide), sI_ro (by decide)]
      exact z60 i h1 h2 h3
    · rw [sI_ro (by decide), sI_rd]
      by_cases e : j = l.toNatClampNeg
      · rw [if_pos ⟨rfl, e⟩, if_pos (by omega), zo 65 (by decide) (by decide) (by decide), e]
      · rw [if_neg (fun x => e x.2), z84]
        by_cases e2 : (j : Int) < l.toInt
        · rw [if_pos e2, if_pos (by omega)]
        · rw [if_neg e2, if_neg (by omega)]
    · rw [sI_rd]
      by_cases e : j = l.toNatClampNeg
      · rw [if_pos ⟨rfl, e⟩, if_pos (by omega)]
        show z.1 67 l.toNatClampNeg = _
        rw [zo 67 (by decide) (by decide) (by decide), e]
      · rw [if_neg (fun x => e x.2), sI_ro (by decide), z85]
        by_cases e2 : (j : Int) < l.toInt
        · rw [if_pos e2, if_pos (by omega)]
        · rw [if_neg e2, if_neg (by omega)]
theorem INV_deed {q s : SS} (h : INV q) (f : Fr wD v0 q s) (hD : RD s) : INV s := ⟨RY_wD f (INV_RY h), RC_wD f (INV_RC h), hD, RT_wD f (INV_RT h), RH_wD f (INV_RH h), RS_wD f (INV_RS h), RW_wD f (INV_RW h), RJ_wD f (INV_RJ h)⟩
theorem x_noted {q : SS} (a : Int32) (h0 : 0 ≤ a.toInt) (h4 : a.toInt < 4) : f_X1_noted q a = some (q.1 48 a.toNatClampNeg) := by
  have l0 : (0 : Int32).toInt = 0 := rfl
  have l4 : (4 : Int32).toInt = 4 := rfl
  have v : vin a 4 := ⟨h0, h4⟩
  unfold f_X1_noted
  rw [if_neg (fun g => absurd (Int32.lt_iff_toInt_lt.mp g) (by omega)), if_neg (fun g => absurd (Int32.le_iff_toInt_le.mp g) (by omega)), if_pos v]
theorem op_image {q : SS} (h : INV q) : T (f_X11_image q) (fun r => T (f_X12_image r.2) (fun s => INV s.2 ∧ r.1 = s.1)) := by
  have hY := INV_RY h
  have hD := INV_RD h
  have ek := RY_k hY
  have k0 := RY_k0 hY
  have k12 := RY_k12 hY
  unfold f_X11_image
  refine T_b (x_keep (by rw [RY_p hY]; exact RY_p6 hY) (by rw [ek]; exact k0) (by rw [ek]; exact k12)) (fun r hr => ?_)
  obtain ⟨r2, ro, r5, r6, r7, r49, r50, r51⟩ := hr
  have r60 : r.1 60 = q.1 60 := ro 60 (by decide) (by decide) (by decide) (by decide)
  refine T_rw (x_noted 0 (by decide) (by decide)) (T_some.mpr ?_)
  refine T_mono (m_image (q := r) (by rw [r60]; exact k0) (by rw [r60]; exact k12)) (fun s hs => ?_)
  obtain ⟨s1, s2, so, s60, s46, s47, s48, s86, s84, s85⟩ := hs
  have rk : ∀ k, 60 < k → r.1 k = q.1 k := fun k hk => ro k (by omega) (by omega) (by omega) (by omega)
  refine ⟨INV_deed h ⟨fun k i e => ?_, fun k _ => by rw [s2, r2]⟩ ?_, ?_⟩
  · by_cases k60 : k = 60
    · subst k60
      rw [s60 i (by rintro rfl; exact absurd e (by decide)) (by rintro rfl; exact absurd e (by decide)) (by rintro rfl; exact absurd e (by decide)), r60]
    · rw [so k k60 (by rintro rfl; exact absurd e (by simp [wD])) (by rintro rfl; exact absurd e (by simp [wD])) (by rintro rfl; exact absurd e (by simp [wD])), ro k (by rintro rfl; exact absurd e (by simp [wD])) (by rintro rfl; exact absurd e (by simp [wD])) (by rintro rfl; exact absurd e (by simp [wD])) (by rintro rfl; exact absurd e (by simp [wD]))]
  · have x48 : s.2.1 48 = q.1 48 := by rw [so 48 (by decide) (by decide) (by decide) (by decide), ro 48 (by decide) (by decide) (by decide) (by decide)]
    have x83 : s.2.1 83 = q.1 83 := by rw [so 83 (by decide) (by decide) (by decide) (by decide), rk 83 (by decide)]
    have x47 : s.2.1 47 = r.1 47 := so 47 (by decide) (by decide) (by decide) (by decide)
    have x49 : s.2.1 49 = r.1 49 := so 49 (by decide) (by decide) (by decide) (by decide)
    have x50 : s.2.1 50 = r.1 50 := so 50 (by decide) (by decide) (by decide) (by decide)
    have x51 : s.2.1 51 = r.1 51 := so 51 (by decide) (by decide) (by decide) (by decide)
    obtain ⟨d1, d2, d3, d4, d5, d6, d7, d8, d9, d10, d11, d12, d13, d14⟩ := hD
    unfold RD
    rw [x48, x83, x47, x49, x50, x51, r5, r6, r7, s46, s47, s48, s60 6 (by decide) (by decide) (by decide), s60 1 (by decide) (by decide) (by decide), r60, ek, rk 68 (by decide), RY_hour hY]
    refine ⟨d1, funext fun j => ?_, funext fun j => ?_, funext fun j => ?_, rfl, rfl, rfl, Or.inr rfl, k0, Int.le_refl _, RY_h0 hY, RY_h11 hY, fun t ht => ?_, fun t ht => ?_⟩
    · rw [r49, s86, rk 83 (by decide), rk 86 (by decide), d1, d2]
    · rw [r50, s84, rk 65 (by decide), rk 84 (by decide), r60, d3, ek, RY_holder hY]
    · rw [r51, s85, rk 67 (by decide), rk 85 (by decide), r60, d4, ek, RY_folds hY]
    · rw [s84, r60, if_pos ht, rk 65 (by decide)]
      exact RY_rholder hY t ht
    · rw [s85, r60, if_pos ht, rk 67 (by decide)]
      exact RY_rfolds hY t ht
  · show r.1 48 0 = s.1
    rw [s1, rk 83 (by decide), ro 48 (by decide) (by decide) (by decide) (by decide), RD_notes hD]
/-! ===== back ===== -/
theorem x_lay {q : SS} (h : RY q) (t0 : 0 ≤ (q.1 47 5).toInt) (tk : (q.1 47 5).toInt ≤ (q.1 60 6).toInt) : T (f_X1_layBack q) (fun r => r.2 = q.2 ∧ (∀ k, k ≠ 10 → k ≠ 48 → k ≠ 7 → k ≠ 9 → r.1 k = q.1 k) ∧ r.1 10 0 = q.1 47 6 ∧ (∀ j, r.1 48 j = if j < 4 then q.1 49 j else q.1 48 j) ∧ (∀ j : Nat, r.1 7 j = if (j : Int) < (q.1 47 5).toInt then q.1 50 j else q.1 7 j) ∧ (∀ j : Nat, r.1 9 j = if (j : Int) < (q.1 47 5).toInt then q.1 51 j else q.1 9 j)) := by
  have p6 := RY_p6 h
  have k12 := RY_k12 h
  have ep := RY_p h
  have ek := RY_k h
  unfold f_X1_layBack
  have st := x_set (q := q) (by rw [ep]; exact p6) (by rw [ek]; exact k12) 7 0 (q.1 47 6)
  rw [if_pos (Or.inr (Or.inr ⟨by decide, by decide, rfl⟩))] at st
  refine T_rw st (T_p (by decide) (T_nm ?_))
  unfold b_X1_layBack_30
  refine T_fx2 (fun z l => 0 ≤ l.toInt ∧ l.toInt ≤ (q.1 47 5).toInt ∧ z.2 = q.2 ∧ (∀ k, k ≠ 10 → k ≠ 48 → k ≠ 7 → k ≠ 9 → z.1 k = q.1 k) ∧ z.1 10 0 = q.1 47 6 ∧ (∀ j, z.1 48 j = if j < 4 then q.1 49 j else q.1 48 j) ∧ (∀ j : Nat, z.1 7 j = if (j : Int) < l.toInt then q.1 50 j else q.1 7 j) ∧ (∀ j : Nat, z.1 9 j = if (j : Int) < l.toInt then q.1 51 j else q.1 9 j)) (fun _ l => (12 - l.toInt).toNat) ?_ _ _ _ ⟨by decide, by simp only [Int32.reduceToInt]; omega, rfl, fun k h1 h2 h3 h4 => ?_, rfl, fun j => ?_, fun j => ?_, fun j => ?_⟩ (by unfold FU; decide)
  · rintro rec z l ⟨g0, g1, z2, zo, z10, z48, z7, z9⟩ hr
    have z47 : z.1 47 = q.1 47 := zo 47 (by decide) (by decide) (by decide) (by decide)
    have z1 : z.1 1 = q.1 1 := zo 1 (by decide) (by decide) (by decide) (by decide)
    rw [z47]
    refine T_le (fun g => T_some.mpr ⟨z2, zo, z10, z48, fun j => ?_, fun j => ?_⟩) (fun g => T_len (by show l.toInt < (12 : Int); omega) ?_)
    · have : l.toInt = (q.1 47 5).toInt := by omega
      rw [z7, this]
    · have : l.toInt = (q.1 47 5).toInt := by omega
      rw [z9, this]
    · have e1 := inc1 (a := l) (by omega) (by omega)
      have cl := cnI g0
      have s4 := x_set (q := z) (by rw [z1, ep]; exact p6) (by rw [z1, ek]; exact k12) 4 l (z.1 50 l.toNatClampNeg)
      rw [if_pos (Or.inr (Or.inl ⟨by decide, by decide, g0, by rw [z1, ek]; omega⟩))] at s4
      have s6 := x_set (q := sI z 7 l.toNatClampNeg (z.1 50 l.toNatClampNeg)) (by show (z.1 1 1).toInt ≤ 6; rw [z1, ep]; exact p6) (by show (z.1 1 2).toInt ≤ 12; rw [z1, ek]; exact k12) 6 l (z.1 51 l.toNatClampNeg)
      rw [if_pos (Or.inr (Or.inl ⟨by decide, by decide, g0, by show l.toInt < (z.1 1 2).toInt; rw [z1, ek]; omega⟩))] at s6
      have v : vin l 12 := ⟨g0, by show l.toInt < 12; omega⟩
      refine T_p v (T_rw s4 (T_p v (T_rw s6 (hr _ _ ⟨by omega, by omega, z2, fun k h1 h2 h3 h4 => ?_, z10, z48, fun j => ?_, fun j => ?_⟩ (by omega)))))
      · show (sI (sI z 7 _ _) 9 _ _).1 k = _
        rw [sI_ro h4, sI_ro h3]
        exact zo k h1 h2 h3 h4
      · show (sI (sI z 7 l.toNatClampNeg (z.1 50 l.toNatClampNeg)) 9 l.toNatClampNeg (z.1 51 l.toNatClampNeg)).1 7 j = _
        rw [sI_ro (by decide), sI_rd]
        by_cases e : j = l.toNatClampNeg
        · rw [if_pos ⟨rfl, e⟩, if_pos (by omega), zo 50 (by decide) (by decide) (by decide) (by decide), e]
        · rw [if_neg (fun x => e x.2), z7]
          by_cases e2 : (j : Int) < l.toInt
          · rw [if_pos e2, if_pos (by omega)]
          · rw [if_neg e2, if_neg (by omega)]
      · show (sI (sI z 7 l.toNatClampNeg (z.1 50 l.toNatClampNeg)) 9 l.toNatClampNeg (z.1 51 l.toNatClampNeg)).1 9 j = _
        rw [sI_rd]
        by_cases e : j = l.toNatClampNeg
        · rw [if_pos ⟨rfl, e⟩, if_pos (by omega), zo 51 (by decide) (by decide) (by decide) (by decide), e]
        · rw [if_neg (fun x => e x.2), sI_ro (by decide), z9]
          by_cases e2 : (j : Int) < l.toInt
          · rw [if_pos e2, if_pos (by omega)]
          · rw [if_neg e2, if_neg (by omega)]
  · rw [sR_ro h2]
    show (sI q 10 0 (q.1 47 6)).1 k = _
    rw [sI_ro h1]
  · rw [sR_rd, if_pos rfl]
    show (if 0 ≤ j ∧ j < 0 + 4 then q.1 49 (0 + (j - 0)) else q.1 48 j) = _
    by_cases e : j < 4
    · rw [if_pos (by omega), if_pos e]
      exact congrArg (q.1 49) (by omega)
    · rw [if_neg (by omega), if_neg e]
  · rw [if_neg (by simp only [Int32.reduceToInt]; omega), sR_ro (by decide)]
    rfl
  · rw [if_neg (by simp only [Int32.reduceToInt]; omega), sR_ro (by decide)]
    rfl
theorem m_back {q : SS} (hi : q.1 60 46 ≠ 0) (t0 : 0 ≤ (q.1 60 47).toInt) (t12 : (q.1 60 47).toInt ≤ 12) : T (f_X12_back q) (fun s => s.1 = q.1 86 0 ∧ s.2.2 = q.2 ∧ (∀ k, k ≠ 68 → k ≠ 65 → k ≠ 67 → k ≠ 83 → s.2.1 k = q.1 k) ∧ s.2.1 68 0 = q.1 60 48 ∧ s.2.1 68 1 = q.1 68 1 ∧ (∀ j, s.2.1 83 j = if j < 4 then q.1 86 j else q.1 83 j) ∧ (∀ j : Nat, s.2.1 65 j = if (j : Int) < (q.1 60 47).toInt then q.1 84 j else q.1 65 j) ∧ (∀ j : Nat, s.2.1 67 j = if (j : Int) < (q.1 60 47).toInt then q.1 85 j else q.1 67 j)) := by
  unfold f_X12_back
  refine T_q hi (T_vp (by decide) (by decide) (T_nm ?_))
  unfold b_X12_back_22
  refine T_fx2 (fun z l => 0 ≤ l.toInt ∧ l.toInt ≤ (q.1 60 47).toInt ∧ z.2 = q.2 ∧ (∀ k, k ≠ 68 → k ≠ 65 → k ≠ 67 → z.1 k = q.1 k) ∧ z.1 68 0 = q.1 60 48 ∧ z.1 68 1 = q.1 68 1 ∧ (∀ j : Nat, z.1 65 j = if (j : Int) < l.toInt then q.1 84 j else q.1 65 j) ∧ (∀ j : Nat, z.1 67 j = if (j : Int) < l.toInt then q.1 85 j else q.1 67 j)) (fun _ l => (12 - l.toInt).toNat) ?_ _ _ _ ⟨by decide, by simp only [Int32.reduceToInt]; omega, rfl, fun k h1 _ _ => sI_ro h1, rfl, rfl, fun j => by rw [if_neg (by simp only [Int32.reduceToInt]; omega)]; rfl, fun j => by rw [if_neg (by simp only [Int32.reduceToInt]; omega)]; rfl⟩ (by unfold FU; decide)
  rintro rec z l ⟨g0, g1, z2, zo, z680, z681, z65, z67⟩ hr
  rw [zo 60 (by decide) (by decide) (by decide)]
  refine T_le (fun g => ?_) (fun g => ?_)
  · have el : l.toInt = (q.1 60 47).toInt := by omega
    unfold b_X12_back_62
    refine T_fx2 (fun y m => 0 ≤ m.toInt ∧ m.toInt ≤ 4 ∧ y.2 = z.2 ∧ (∀ k, k ≠ 83 → y.1 k = z.1 k) ∧ (∀ j : Nat, y.1 83 j = if (j : Int) < m.toInt then z.1 86 j else z.1 83 j)) (fun _ m => (4 - m.toInt).toNat) ?_ _ _ _ ⟨by decide, by decide, rfl, fun _ _ => rfl, fun j => by rw [if_neg (by simp only [Int32.reduceToInt]; omega)]⟩ (by unfold FU; decide)
    rintro rec2 y m ⟨f0, f1, y2, yo, y83⟩ hr2
    have l4 : (4 : Int32).toInt = 4 := rfl
    refine T_le (fun f => T_vp (by decide) (by decide) (T_some.mpr ⟨?_, y2.trans z2, fun k h1 h2 h3 h4 => (yo k h4).trans (zo k h1 h2 h3), by rw [yo 68 (by decide)]; exact z680, by rw [yo 68 (by decide)]; exact z681, fun j => ?_, fun j => ?_, fun j => ?_⟩)) (fun f => ?_)
    · show y.1 83 0 = q.1 86 0
      rw [y83, if_pos (by omega), zo 86 (by decide) (by decide) (by decide)]
    · rw [y83, zo 83 (by decide) (by decide) (by decide), zo 86 (by decide) (by decide) (by decide)]
      by_cases e : j < 4
      · rw [if_pos (by omega), if_pos e]
      · rw [if_neg (by omega), if_neg e]
    · rw [yo 65 (by decide), z65, el]
    · rw [yo 67 (by decide), z67, el]
    · have e1 := inc1 (a := m) (by omega) (by omega)
      have cm := cnI f0
      refine T_vp f0 (by show m.toInt < 4; omega) (T_vp f0 (by show m.toInt < 4; omega) (T_nm (hr2 _ _ ⟨by omega, by omega, y2, fun k hk => (sI_ro hk).trans (yo k hk), fun j => ?_⟩ (by omega))))
      rw [sI_rd]
      by_cases e : j = m.toNatClampNeg
      · rw [if_pos ⟨rfl, e⟩, if_pos (by omega), yo 86 (by decide), e]
      · rw [if_neg (fun x => e x.2), y83]
        by_cases e2 : (j : Int) < m.toInt
        · rw [if_pos e2, if_pos (by omega)]
        · rw [if_neg e2, if_neg (by omega)]
  · have e1 := inc1 (a := l) (by omega) (by omega)
    have cl := cnI g0
    have v : vin l 12 := ⟨g0, by show l.toInt < 12; omega⟩
    refine T_p v (T_p v (T_nm (T_p v (T_p v (T_nm (hr _ _ ⟨by omega, by omega, z2, fun k h1 h2 h3 => ?_, z680, z681, fun j => ?_, fun j => ?_⟩ (by omega)))))))
    · rw [sI_ro h3, sI_ro h2]
      exact zo k h1 h2 h3
    · rw [sI_ro (by decide), sI_rd]
      by_cases e : j = l.toNatClampNeg
      · rw [if_pos ⟨rfl, e⟩, if_pos (by omega), zo 84 (by decide) (by decide) (by decide), e]
      · rw [if_neg (fun x => e x.2), z65]
        by_cases e2 : (j : Int) < l.toInt
        · rw [if_pos e2, if_pos (by omega)]
        · rw [if_neg e2, if_neg (by omega)]
    · rw [sI_rd]
      by_cases e : j = l.toNatClampNeg
      · rw [if_pos ⟨rfl, e⟩, if_pos (by omega)]
        show z.1 85 l.toNatClampNeg = _
        rw [zo 85 (by decide) (by decide) (by decide), e]
      · rw [if_neg (fun x => e x.2), sI_ro (by decide), z67]
        by_cases e2 : (j : Int) < l.toInt
        · rw [if_pos e2, if_pos (by omega)]
        · rw [if_neg e2, if_neg (by omega)]
theorem op_back {q : SS} (h : INV q) : T (f_X11_back q) (fun r => T (f_X12_back r.2) (fun s => INV s.2 ∧ r.1 = s.1)) := by
  have hY := INV_RY h
  have hD := INV_RD h
  have k12 := RY_k12 hY
  have im := RD_img hD
  have im01 := RD_img01 hD
  unfold f_X11_back f_X1_hasImage
  rw [im]
  by_cases e : q.1 60 46 = 0
  · refine T_b (Q := fun r => r = 0) (T_p im01 (T_some.mpr e)) (fun r hr => ?_)
    subst hr
    refine T_p rfl (T_some.mpr ?_)
    unfold f_X12_back
    exact T_p e (T_some.mpr ⟨h, rfl⟩)
  · refine T_b (Q := fun r => r = q.1 60 46) (T_p im01 (T_some.mpr rfl)) (fun r hr => ?_)
    subst hr
    have ekt := RD_kt hD
    have kt0 := RD_kt0 hD
    have ktk := RD_ktk hD
    refine T_q e (T_b (x_lay hY (by rw [ekt]; exact kt0) (by rw [ekt]; exact ktk)) (fun r hr => ?_))
    obtain ⟨r2, ro, r10, r48, r7, r9⟩ := hr
    have r60 : r.1 60 = q.1 60 := ro 60 (by decide) (by decide) (by decide) (by decide)
    have rk : ∀ k, 48 < k → r.1 k = q.1 k := fun k hk => ro k (by omega) (by omega) (by omega) (by omega)
    refine T_rw (x_noted 0 (by decide) (by decide)) (T_some.mpr ?_)
    refine T_mono (m_back (q := r) (by rw [r60]; exact e) (by rw [r60]; exact kt0) (by rw [r60]; omega)) (fun s hs => ?_)
    obtain ⟨s1, s2, so, s680, s681, s83, s65, s67⟩ := hs
    have sk : ∀ k, k ≠ 68 → k ≠ 65 → k ≠ 67 → k ≠ 83 → k ≠ 10 → k ≠ 48 → k ≠ 7 → k ≠ 9 → s.2.1 k = q.1 k := fun k a b c d e f g h => (so k a b c d).trans (ro k e f g h)
    have x2 : s.2.2 = q.2 := s2.trans r2
    have t7 : ∀ j : Nat, s.2.1 7 j = if (j : Int) < (q.1 60 47).toInt then q.1 84 j else q.1 65 j := fun j => by
      rw [so 7 (by decide) (by decide) (by decide) (by decide), r7, ekt, RD_kh hD, RY_holder hY]
    have t65 : ∀ j : Nat, s.2.1 65 j = if (j : Int) < (q.1 60 47).toInt then q.1 84 j else q.1 65 j := fun j => by
      rw [s65, r60, rk 84 (by decide), rk 65 (by decide)]
    have t9 : ∀ j : Nat, s.2.1 9 j = if (j : Int) < (q.1 60 47).toInt then q.1 85 j else q.1 67 j := fun j => by
      rw [so 9 (by decide) (by decide) (by decide) (by decide), r9, ekt, RD_kf hD, RY_folds hY]
    have t67 : ∀ j : Nat, s.2.1 67 j = if (j : Int) < (q.1 60 47).toInt then q.1 85 j else q.1 67 j := fun j => by
      rw [s67, r60, rk 85 (by decide), rk 67 (by decide)]
    have t48 : ∀ j, s.2.1 48 j = if j < 4 then q.1 86 j else q.1 83 j := fun j => by
      rw [so 48 (by decide) (by decide) (by decide) (by decide), r48, RD_knotes hD, RD_notes hD]
    have t83 : ∀ j, s.2.1 83 j = if j < 4 then q.1 86 j else q.1 83 j := fun j => by
      rw [s83, rk 86 (by decide), rk 83 (by decide)]
    have t10 : s.2.1 10 0 = q.1 60 48 := by rw [so 10 (by decide) (by decide) (by decide) (by decide), r10, RD_khour hD]
    have t680 : s.2.1 68 0 = q.1 60 48 := by rw [s680, r60]
    have t681 : s.2.1 68 1 = q.1 68 1 := by rw [s681, rk 68 (by decide)]
    have SK := fun (k : Nat) (e : (k == 68 || k == 65 || k == 67 || k == 83 || k == 10 || k == 48 || k == 7 || k == 9) = false) => sk k (by rintro rfl; cases e) (by rintro rfl; cases e) (by rintro rfl; cases e) (by rintro rfl; cases e) (by rintro rfl; cases e) (by rintro rfl; cases e) (by rintro rfl; cases e) (by rintro rfl; cases e)
    have s60 := SK 60 rfl
    refine ⟨⟨?_, RC_fr (q := q) (SK 53 rfl) (SK 54 rfl) (SK 55 rfl) (SK 56 rfl) (SK 69 rfl) (SK 70 rfl) (SK 71 rfl) (SK 72 rfl) (congrFun (SK 52 rfl) 5) (congrFun (SK 52 rfl) 6) (congrFun s60 1) (congrFun s60 6) (congrFun s60 11) (congrFun s60 12) (INV_RC h), ?_, RT_fr (q := q) (SK 18 rfl) (SK 73 rfl) (congrFun (SK 17 rfl) 2) (congrFun s60 18) (INV_RT h), RH_fr (q := q) (SK 58 rfl) (SK 59 rfl) (SK 87 rfl) (SK 88 rfl) (congrFun (SK 57 rfl) 2) (congrFun (SK 57 rfl) 3) (congrFun s60 52) (congrFun s60 54) (INV_RH h), RS_fr (q := q) (SK 27 rfl) (SK 28 rfl) (SK 29 rfl) (SK 89 rfl) (SK 90 rfl) (congrFun s60 52) (congrFun x2 91) (fun s _ => congrFun x2 _) (INV_RS h), RW_fr (q := q) (SK 74 rfl) (SK 75 rfl) (SK 77 rfl) (SK 78 rfl) (congrFun s60 30) (congrFun (SK 76 rfl) 0) (INV_RW h), RJ_fr (q := q) (SK 81 rfl) (congrFun (SK 37 rfl) 3) (INV_RJ h)⟩, ?_⟩
    · obtain ⟨h1, h2, h3, h4, h5, h6, h7, h8, h9, h10, h11, h12, h13, h14, h15, h16, h17, h18, h19, h20, h21, h22, h23, h24, h25, h26, h27, h28, h29⟩ := hY
      unfold RY
      rw [s60, SK 1 rfl, SK 3 rfl, SK 4 rfl, SK 5 rfl, SK 6 rfl, SK 8 rfl, SK 11 rfl, SK 61 rfl, SK 62 rfl, SK 63 rfl, SK 64 rfl, SK 66 rfl, t10, t680, t681]
      refine ⟨h1, h2, h3, h4, h5, h6, h7, h8, h9, funext fun j => by rw [t7, t65], h11, funext fun j => by rw [t9, t67], rfl, h14, h15, h16, h17, h18, h19, h20, h21, h22, fun t ht => ?_, h24, fun t ht => ?_, RD_kh0 hD, RD_kh11 hD, h28, h29⟩
      · rw [t65]
        by_cases g : (t : Int) < (q.1 60 47).toInt
        · rw [if_pos g]
          exact RD_rkh hD t g
        · rw [if_neg g]
          exact h23 t ht
      · rw [t67]
        by_cases g : (t : Int) < (q.1 60 47).toInt
        · rw [if_pos g]
          exact RD_rkf hD t g
        · rw [if_neg g]
          exact h25 t ht
    · have e4883 : s.2.1 48 = s.2.1 83 := funext fun j => by rw [t48, t83]
      obtain ⟨d1, d⟩ := hD
      unfold RD
      rw [s60, SK 49 rfl, SK 86 rfl, SK 50 rfl, SK 84 rfl, SK 51 rfl, SK 85 rfl, SK 47 rfl]
      exact ⟨e4883, d⟩
    · show r.1 48 0 = s.1
      rw [s1, r48, if_pos (by decide), rk 86 (by decide), RD_knotes hD]
/-! ===== tickets from a row ===== -/
def VT (q : SS) (E : Nat → Int32) (i : Nat) : Nat → SS
  | 0 => q
  | k + 1 => mAT (xAT (VT q E i k) (E (i + 3 * k)) (E (i + 3 * k + 1)) (E (i + 3 * k + 2))) (E (i + 3 * k)) (E (i + 3 * k + 1)) (E (i + 3 * k + 2))
/-- the k-th three comes -/
def okT (q : SS) (E : Nat → Int32) (n : Int) (i k : Nat) : Prop := ((i + 3 * k + 3 : Nat) : Int) ≤ n ∧ (0 ≤ (E (i + 3 * k)).toInt ∧ (E (i + 3 * k)).toInt < (q.1 60 1).toInt) ∧ (0 ≤ (E (i + 3 * k + 1)).toInt ∧ (E (i + 3 * k + 1)).toInt ≤ 1) ∧ (0 ≤ (E (i + 3 * k + 2)).toInt ∧ (E (i + 3 * k + 2)).toInt ≤ 4) ∧ (q.1 60 6).toInt + (k : Int) < 12
theorem VT_o (q : SS) (E : Nat → Int32) (i : Nat) : ∀ k, (VT q E i k).2 = q.2 ∧ (∀ z, z ≠ 1 → z ≠ 7 → z ≠ 8 → z ≠ 9 → z ≠ 60 → z ≠ 65 → z ≠ 66 → z ≠ 67 → (VT q E i k).1 z = q.1 z) ∧ (VT q E i k).1 1 1 = q.1 1 1 ∧ (∀ j, j ≠ 6 → (VT q E i k).1 60 j = q.1 60 j)
  | 0 => ⟨rfl, fun _ _ _ _ _ _ _ _ _ => rfl, rfl, fun _ _ => rfl⟩
  | k + 1 => by
    obtain ⟨h1, h2, h3, h4⟩ := VT_o q E i k
    refine ⟨h1, fun z a b c d e f g h => ?_, h3, fun j hj => ?_⟩
    · show (mAT _ _ _ _).1 z = _
      unfold mAT xAT
      rw [sI_ro e, sI_ro h, sI_ro g, sI_ro f, sI_ro d, sI_ro c, sI_ro b, sI_ro a]
      exact h2 z a b c d e f g h
    · show (mAT _ _ _ _).1 60 j = _
      unfold mAT xAT
      rw [sI_rd, if_neg (fun x => hj x.2), sI_ro (by decide), sI_ro (by decide), sI_ro (by decide), sI_ro (by decide), sI_ro (by decide), sI_ro (by decide), sI_ro (by decide)]
      exact h4 j hj
theorem VT_I {q : SS} (h : INV q) (E : Nat → Int32) (n : Int) (i : Nat) : ∀ k, (∀ j, j < k → okT q E n i j) → INV (VT q E i k) ∧ ((VT q E i k).1 60 6).toInt = (q.1 60 6).toInt + (k : Int)
  | 0, _ => ⟨h, by show (q.1 60 6).toInt = _; omega⟩
  | k + 1, ok => by
    obtain ⟨h1, h2⟩ := VT_I h E n i k (fun j hj => ok j (by omega))
    obtain ⟨o1, o2, o3, o4⟩ := VT_o q E i k
    obtain ⟨_, c1, c2, c3, c4⟩ := ok k (by omega)
    have hK : ((VT q E i k).1 60 6).toInt < 12 := by omega
    refine ⟨INV_AT h1 (by rw [o4 1 (by decide)]; exact c1) c2 c3 hK, ?_⟩
    have e : (VT q E i (k + 1)).1 60 6 = (VT q E i k).1 60 6 + 1 := rfl
    have k0 := RY_k0 (INV_RY h1)
    rw [e, inc1 (by omega) (by omega), h2]
    omega
theorem t32 {x : Int64} (h0 : 0 ≤ x.toInt) (h : x.toInt < 2147483648) : x.toInt32.toInt = x.toInt := by
  rw [Int64.toInt_toInt32]
  exact Int.bmod_eq_of_le (by omega) (by omega)
/-- of the class's state behind k of them -/
def loT (q v z : SS) : Prop := (∀ k, k < 60 → z.1 k = v.1 k) ∧ (∀ k, 60 ≤ k → z.1 k = q.1 k) ∧ z.2 = q.2
theorem x_tk {q : SS} (h : INV q) {s i n : Int32} (hs : 0 ≤ s.toInt ∧ s.toInt < 6) (h0 : q.1 27 s.toNatClampNeg = 0) (hi : 0 ≤ i.toInt) (hn : 1 ≤ n.toInt ∧ n.toInt ≤ 12) {E : Nat → Int32} (hE : ∀ z : Nat, (z : Int) < (q.1 90 s.toNatClampNeg).toInt → E z = (q.2 91 (60 * s.toNatClampNeg + z)).toInt32) :
    T (b_X11_tickets_63 q s i n 0 0) (fun r => ∃ c : Nat, r.1 = Int32.ofNat c ∧ (c : Int) ≤ n.toInt ∧ (∀ j, j < c → okT q E (q.1 90 s.toNatClampNeg).toInt i.toNatClampNeg j) ∧ ((c : Int) < n.toInt → ¬ okT q E (q.1 90 s.toNatClampNeg).toInt i.toNatClampNeg c) ∧ loT q (VT q E i.toNatClampNeg c) r.2) := by
  have hS := INV_RS h
  have hY := INV_RY h
  have ss := cnL hs.1 hs.2
  have zs := RS_size0 hS _ ss
  have ci := cnI hi
  have bi := Int32.toInt_lt i
  unfold b_X11_tickets_63
  refine T_fx6 (fun z l1 l2 l3 l5 l6 => l1 = s ∧ l2 = i ∧ l3 = n ∧ l5 = l6 ∧ ∃ k : Nat, l6 = Int32.ofNat k ∧ (k : Int) ≤ n.toInt ∧ (∀ j, j < k → okT q E (q.1 90 s.toNatClampNeg).toInt i.toNatClampNeg j) ∧ loT q (VT q E i.toNatClampNeg k) z) (fun _ _ _ _ _ l6 => (12 - l6.toInt).toNat) ?_ _ _ _ _ _ _ _ ⟨rfl, rfl, rfl, rfl, 0, rfl, by omega, fun j hj => absurd hj (by omega), fun _ _ => rfl, fun _ _ => rfl, rfl⟩ (by unfold FU; decide)
  rintro rec z l1 l2 l3 l5 l6 ⟨rfl, rfl, rfl, rfl, k, rfl, hk, ok, z1, z2, z3⟩ hr
  have ek : (Int32.ofNat k).toInt = (k : Int) := Int32.toInt_ofNat_of_lt (by omega)
  refine T_le (fun g => T_some.mpr ⟨k, rfl, hk, ok, fun g2 => absurd g2 (by omega), z1, z2, z3⟩) (fun g => ?_)
  obtain ⟨hV, hK⟩ := VT_I h E _ l2.toNatClampNeg k ok
  obtain ⟨o1, o2, o3, o4⟩ := VT_o q E l2.toNatClampNeg k
  have hVY := INV_RY hV
  generalize hv : VT q E l2.toNatClampNeg k = V at *
  have w1 : z.1 1 = V.1 1 := z1 1 (by decide)
  have w27 : z.1 27 l1.toNatClampNeg = 0 := by rw [z1 27 (by decide), o2 27 (by decide) (by decide) (by decide) (by decide) (by decide) (by decide) (by decide) (by decide)]; exact h0
  have w28 : z.1 28 l1.toNatClampNeg = q.1 90 l1.toNatClampNeg := by rw [z1 28 (by decide), o2 28 (by decide) (by decide) (by decide) (by decide) (by decide) (by decide) (by decide) (by decide), RS_size hS]
  have w2 : z.1 1 2 = V.1 60 6 := by rw [w1]; exact RY_k hVY
  have wp : z.1 1 1 = q.1 60 1 := by rw [w1, o3]; exact RY_p hY
  have row : 0 ≤ l1.toInt ∧ l1.toInt < 6 ∧ 0 ≤ (z.1 27 l1.toNatClampNeg).toInt ∧ (z.1 27 l1.toNatClampNeg).toInt ≤ 4 := by rw [w27]; exact ⟨hs.1, hs.2, by decide, by decide⟩
  have sz := x_sizeOf z l1
  rw [if_pos row, w28] at sz
  have szx : szX z l1 = (q.1 90 l1.toNatClampNeg).toInt := by
    unfold szX
    rw [if_pos row, w28]
  have c3 : (3 : Int64).toInt = 3 := rfl
  have e3 : ((3 : Int64) * (Int32.ofNat k).toInt64).toInt = 3 * (k : Int) := by rw [lmul (by rw [c3, i64, ek]; omega) (by rw [c3, i64, ek]; omega), c3, i64, ek]
  have e4 : (l2.toInt64 + (3 : Int64) * (Int32.ofNat k).toInt64).toInt = l2.toInt + 3 * (k : Int) := by rw [ladd (by rw [e3, i64]; omega) (by rw [e3, i64]; omega), e3, i64]
  generalize hA : l2.toInt64 + (3 : Int64) * (Int32.ofNat k).toInt64 = A at *
  have e5 : (A + 3).toInt = l2.toInt + 3 * (k : Int) + 3 := by rw [ladd (by rw [e4, c3]; omega) (by rw [e4, c3]; omega), e4, c3]
  have e1 : (Int32.ofNat k + 1) = Int32.ofNat (k + 1) := (Int32.ofNat_add k 1).symm
  -- what the step tells
  have key : T (f_X11_addFromRow z l1 l2 (Int32.ofNat k)) (fun r => (r.1 = 0 ∧ ¬ okT q E (q.1 90 l1.toNatClampNeg).toInt l2.toNatClampNeg k ∧ r.2 = z) ∨ (r.1 = 1 ∧ okT q E (q.1 90 l1.toNatClampNeg).toInt l2.toNatClampNeg k ∧ r.2 = xAT z (E (l2.toNatClampNeg + 3 * k)) (E (l2.toNatClampNeg + 3 * k + 1)) (E (l2.toNatClampNeg + 3 * k + 2)))) := by
    unfold f_X11_addFromRow
    rw [hA]
    refine T_nm (T_rw sz ?_)
    by_cases g1 : ((l2.toNatClampNeg + 3 * k + 3 : Nat) : Int) ≤ (q.1 90 l1.toNatClampNeg).toInt
    · have a0 : A.toInt32.toInt = l2.toInt + 3 * (k : Int) := by rw [t32 (by omega) (by omega), e4]
      have l1' : (1 : Int32).toInt = 1 := rfl
      have l2' : (2 : Int32).toInt = 2 := rfl
      have a1 : (A.toInt32 + 1).toInt = l2.toInt + 3 * (k : Int) + 1 := by rw [tadd (by rw [a0, l1']; omega) (by rw [a0, l1']; omega), a0, l1']
      have a2 : (A.toInt32 + 2).toInt = l2.toInt + 3 * (k : Int) + 2 := by rw [tadd (by rw [a0, l2']; omega) (by rw [a0, l2']; omega), a0, l2']
      have rd : ∀ (x : Int32) (m : Nat), x.toInt = (m : Int) → (m : Int) < (q.1 90 l1.toNatClampNeg).toInt → f_X7_get z l1 x = some (q.2 91 (60 * l1.toNatClampNeg + m)) := by
        intro x m hx hm
        have cx : x.toNatClampNeg = m := by
          simp only [cn_eq, hx]
          omega
        rw [x_get7 z l1 x (by rw [szx]; exact zs.2), szx, if_pos ⟨by omega, by omega⟩, cx, z3]
        exact congrArg some (RS_el hS _ ss (by rw [h0]; decide) _ hm)
      have f0 : (q.2 91 (60 * l1.toNatClampNeg + (l2.toNatClampNeg + 3 * k))).toInt32 = E (l2.toNatClampNeg + 3 * k) := (hE _ (by omega)).symm
      have f1 : (q.2 91 (60 * l1.toNatClampNeg + (l2.toNatClampNeg + 3 * k + 1))).toInt32 = E (l2.toNatClampNeg + 3 * k + 1) := (hE _ (by omega)).symm
      have f2 : (q.2 91 (60 * l1.toNatClampNeg + (l2.toNatClampNeg + 3 * k + 2))).toInt32 = E (l2.toNatClampNeg + 3 * k + 2) := (hE _ (by omega)).symm
      refine T_p (by rw [lgc_le, e5, i64]; omega) ?_
      refine T_rw (rd _ (l2.toNatClampNeg + 3 * k) (by omega) (by omega)) (T_nm (T_rw (rd _ (l2.toNatClampNeg + 3 * k + 1) (by omega) (by omega)) (T_nm (T_rw (rd _ (l2.toNatClampNeg + 3 * k + 2) (by omega) (by omega)) (T_nm ?_)))))
      rw [f0, f1, f2]
      generalize hE0 : E (l2.toNatClampNeg + 3 * k) = v0 at *
      generalize hE1 : E (l2.toNatClampNeg + 3 * k + 1) = v1 at *
      generalize hE2 : E (l2.toNatClampNeg + 3 * k + 2) = v2 at *
      have oT : okT q E (q.1 90 l1.toNatClampNeg).toInt l2.toNatClampNeg k ↔ ((0 ≤ v0.toInt ∧ v0.toInt < (q.1 60 1).toInt) ∧ (0 ≤ v1.toInt ∧ v1.toInt ≤ 1) ∧ (0 ≤ v2.toInt ∧ v2.toInt ≤ 4) ∧ (q.1 60 6).toInt + (k : Int) < 12) := by
        unfold okT
        rw [hE0, hE1, hE2]
        exact ⟨fun x => x.2, fun x => ⟨g1, x⟩⟩
      refine T_rw (x_mayBe 4 v0 (by decide) (by decide)) ?_
      rw [wp]
      refine T_bi (fun c => T_some.mpr (Or.inl ⟨rfl, fun x => ?_, rfl⟩)) (fun c => T_rw (x_mayBe 5 v1 (by decide) (by decide)) ?_)
      · apply c
        have := (oT.mp x).1
        unfold okV
        simp only [Int32.reduceToInt]
        omega
      · have c0 : 0 ≤ v0.toInt ∧ v0.toInt < (q.1 60 1).toInt := ⟨c.1, c.2.2.2.2.2.1 (by decide)⟩
        rw [wp]
        refine T_bi (fun c => T_some.mpr (Or.inl ⟨rfl, fun x => ?_, rfl⟩)) (fun c => T_rw (x_mayBe 6 v2 (by decide) (by decide)) ?_)
        · apply c
          have := (oT.mp x).2.1
          unfold okV
          simp only [Int32.reduceToInt]
          omega
        · have c1 : 0 ≤ v1.toInt ∧ v1.toInt ≤ 1 := ⟨c.1, c.2.2.2.2.2.2.1 (by decide)⟩
          rw [wp]
          refine T_bi (fun c => T_some.mpr (Or.inl ⟨rfl, fun x => ?_, rfl⟩)) (fun c => ?_)
          · apply c
            have := (oT.mp x).2.2.1
            unfold okV
            simp only [Int32.reduceToInt]
            omega
          · have c2 : 0 ≤ v2.toInt ∧ v2.toInt ≤ 4 := ⟨c.1, c.2.2.2.2.2.2.2.1 (by decide)⟩
            have kv12 := RY_k12 hVY
            have kv0 := RY_k0 hVY
            refine T_rw (x_addTicket (q := z) (by rw [wp]; exact RY_p6 hY) (by rw [w2]; exact kv0) (by rw [w2]; exact kv12) v0 v1 v2) ?_
            rw [w2]
            by_cases g2 : V.1 60 6 = 12
            · rw [if_pos g2]
              refine T_p rfl (T_some.mpr (Or.inl ⟨rfl, fun x => ?_, rfl⟩))
              have := (oT.mp x).2.2.2
              rw [g2] at hK
              have : (12 : Int32).toInt = 12 := rfl
              omega
            · rw [if_neg g2]
              have := ne12 kv12 g2
              refine T_q (by show ¬ V.1 60 6 = -3; intro x; rw [x] at kv0; exact absurd kv0 (by decide)) (T_some.mpr (Or.inr ⟨rfl, oT.mpr ⟨c0, c1, c2, by omega⟩, rfl⟩))
    · refine T_q (fun x => ?_) (T_some.mpr (Or.inl ⟨rfl, fun x => g1 x.1, rfl⟩))
      rw [lgc_le, e5, i64] at x
      omega
  refine T_b key (fun r hr1 => ?_)
  rcases hr1 with ⟨r1, r2, r3⟩ | ⟨r1, r2, r3⟩
  · refine T_p r1 (T_some.mpr ⟨k, rfl, hk, ok, fun _ => r2, ?_⟩)
    show loT q (VT q E l2.toNatClampNeg k) r.2
    rw [r3, hv]
    exact ⟨z1, z2, z3⟩
  · refine T_q (by rw [r1]; decide) (hr _ _ _ _ _ _ ⟨rfl, rfl, rfl, rfl, k + 1, e1, by omega, fun j hj => ?_, ?_⟩ ?_)
    · by_cases e : j = k
      · subst e; exact r2
      · exact ok j (by omega)
    · rw [r3]
      show loT q (mAT (xAT (VT q E l2.toNatClampNeg k) _ _ _) _ _ _) _
      rw [hv]
      refine ⟨fun j hj => ?_, fun j hj => ?_, z3⟩
      · unfold mAT
        rw [sI_ro (by omega), sI_ro (by omega), sI_ro (by omega), sI_ro (by omega)]
        unfold xAT
        rw [w1]
        by_cases j9 : j = 9
        · subst j9; funext u; simp only [sI_rd, z1 9 (by decide)]
        by_cases j8 : j = 8
        · subst j8; funext u; simp only [sI_rd, z1 8 (by decide)]
        by_cases j7 : j = 7
        · subst j7; funext u; simp only [sI_rd, z1 7 (by decide)]
        by_cases j1 : j = 1
        · subst j1; funext u; simp only [sI_rd, z1 1 (by decide)]
        rw [sI_ro j9, sI_ro j8, sI_ro j7, sI_ro j1, sI_ro j9, sI_ro j8, sI_ro j7, sI_ro j1]
        exact z1 j hj
      · unfold xAT
        rw [sI_ro (by omega), sI_ro (by omega), sI_ro (by omega), sI_ro (by omega)]
        exact z2 j hj
    · rw [e1, Int32.toInt_ofNat_of_lt (by omega), ek]
      omega
def hiT (v x z : SS) : Prop := (∀ k, 60 ≤ k → z.1 k = v.1 k) ∧ (∀ k, k < 60 → z.1 k = x.1 k) ∧ z.2 = v.2
set_option maxHeartbeats 8000000 in
theorem m_tk {q x : SS} (h : INV q) (hx : ∀ k, 60 ≤ k → x.1 k = q.1 k) (hx2 : x.2 = q.2) {s i n : Int32} (hs : 0 ≤ s.toInt ∧ s.toInt < 6) (hi : 0 ≤ i.toInt) (hn : 1 ≤ n.toInt ∧ n.toInt ≤ 12) {E : Nat → Int32} (hE : ∀ z : Nat, (z : Int) < (q.1 90 s.toNatClampNeg).toInt → E z = (q.2 91 (60 * s.toNatClampNeg + z)).toInt32) :
    T (b_X12_tickets_58 x s i n 0) (fun r => ∃ c : Nat, r.1 = Int32.ofNat c ∧ (c : Int) ≤ n.toInt ∧ (∀ j, j < c → okT q E (q.1 90 s.toNatClampNeg).toInt i.toNatClampNeg j) ∧ ((c : Int) < n.toInt → ¬ okT q E (q.1 90 s.toNatClampNeg).toInt i.toNatClampNeg c) ∧ hiT (VT q E i.toNatClampNeg c) x r.2) := by
  have hS := INV_RS h
  have hY := INV_RY h
  have p0 := RY_p0 hY
  have ss := cnL hs.1 hs.2
  have zs := RS_size0 hS _ ss
  have ci := cnI hi
  have cs := cnI hs.1
  have bi := Int32.toInt_lt i
  unfold b_X12_tickets_58
  refine T_fx5 (fun z l1 l2 l3 l4 => l1 = s ∧ l2 = i ∧ l3 = n ∧ ∃ k : Nat, l4 = Int32.ofNat k ∧ (k : Int) ≤ n.toInt ∧ (∀ j, j < k → okT q E (q.1 90 s.toNatClampNeg).toInt i.toNatClampNeg j) ∧ hiT (VT q E i.toNatClampNeg k) x z) (fun _ _ _ _ l4 => (12 - l4.toInt).toNat) ?_ _ _ _ _ _ _ ⟨rfl, rfl, rfl, 0, rfl, by omega, fun j hj => absurd hj (by omega), hx, fun _ _ => rfl, hx2⟩ (by unfold FU; decide)
  rintro rec z l1 l2 l3 l4 ⟨rfl, rfl, rfl, k, rfl, hk, ok, hz⟩ hr
  have ek : (Int32.ofNat k).toInt = (k : Int) := Int32.toInt_ofNat_of_lt (by omega)
  refine T_le (fun g => T_some.mpr ⟨k, Int32.toInt_inj.mp (by show l3.toInt = _; omega), hk, ok, fun g2 => absurd g2 (by omega), hz⟩) (fun g => ?_)
  obtain ⟨hV, hK⟩ := VT_I h E _ l2.toNatClampNeg k ok
  obtain ⟨o1, o2, o3, o4⟩ := VT_o q E l2.toNatClampNeg k
  have hVY := INV_RY hV
  have stop : ¬ okT q E (q.1 90 l1.toNatClampNeg).toInt l2.toNatClampNeg k → T (some (Int32.ofNat k, z)) (fun r => ∃ c : Nat, r.1 = Int32.ofNat c ∧ (c : Int) ≤ l3.toInt ∧ (∀ j, j < c → okT q E (q.1 90 l1.toNatClampNeg).toInt l2.toNatClampNeg j) ∧ ((c : Int) < l3.toInt → ¬ okT q E (q.1 90 l1.toNatClampNeg).toInt l2.toNatClampNeg c) ∧ hiT (VT q E l2.toNatClampNeg c) x r.2) := fun n => T_some.mpr ⟨k, rfl, hk, ok, fun _ => n, hz⟩
  obtain ⟨z1, z2, z3⟩ := hz
  generalize hv : VT q E l2.toNatClampNeg k = V at *
  have w60 : z.1 60 = V.1 60 := z1 60 (by decide)
  have wp : z.1 60 1 = q.1 60 1 := by rw [w60, o4 1 (by decide)]
  have w90 : z.1 90 = q.1 90 := by rw [z1 90 (by decide), o2 90 (by decide) (by decide) (by decide) (by decide) (by decide) (by decide) (by decide) (by decide)]
  have w91 : z.2 = q.2 := z3.trans o1
  have l3' : (3 : Int32).toInt = 3 := rfl
  have e3 : ((3 : Int32) * Int32.ofNat k).toInt = 3 * (k : Int) := by rw [tmul (by rw [l3', ek]; omega) (by rw [l3', ek]; omega), l3', ek]
  have e4 : (l2.toInt64 + ((3 : Int32) * Int32.ofNat k).toInt64).toInt = l2.toInt + 3 * (k : Int) := by rw [i64add, e3]
  generalize hA : l2.toInt64 + ((3 : Int32) * Int32.ofNat k).toInt64 = A at *
  have c2 : (2 : Int64).toInt = 2 := rfl
  have c0 : (0 : Int64).toInt = 0 := rfl
  have e5 : (A + 2).toInt = l2.toInt + 3 * (k : Int) + 2 := by rw [ladd (by rw [e4, c2]; omega) (by rw [e4, c2]; omega), e4, c2]
  have e1 : (Int32.ofNat k + 1) = Int32.ofNat (k + 1) := (Int32.ofNat_add k 1).symm
  refine T_nm (T_q (fun y => by rw [lgc_neg, e4, c0] at y; omega) (T_vp hs.1 hs.2 ?_))
  rw [w90]
  by_cases g1 : ((l2.toNatClampNeg + 3 * k + 3 : Nat) : Int) ≤ (q.1 90 l1.toNatClampNeg).toInt
  · refine T_q (fun y => by rw [lgc_ge, e5, i64] at y; omega) ?_
    by_cases g2 : z.1 60 6 = 12
    · refine T_p g2 (stop (fun y => ?_))
      have := y.2.2.2.2
      rw [w60] at g2
      rw [g2] at hK
      have : (12 : Int32).toInt = 12 := rfl
      omega
    · refine T_q g2 (T_nm ?_)
      have kv0 := RY_k0 hVY
      have kv12 := RY_k12 hVY
      have kz : (z.1 60 6).toInt < 12 := ne12 (by rw [w60]; exact kv12) g2
      have a0 : A.toInt32.toInt = l2.toInt + 3 * (k : Int) := by rw [t32 (by omega) (by omega), e4]
      have m0 := mul60 (a := l1) (b := A.toInt32) hs (by omega)
      rw [a0] at m0
      generalize hB : (60 : Int32) * l1 + A.toInt32 = B at *
      have l1' : (1 : Int32).toInt = 1 := rfl
      have l2' : (2 : Int32).toInt = 2 := rfl
      have m1 : (B + 1).toInt = 60 * l1.toInt + (l2.toInt + 3 * (k : Int)) + 1 := by rw [tadd (by rw [m0, l1']; omega) (by rw [m0, l1']; omega), m0, l1']
      have m2 : (B + 2).toInt = 60 * l1.toInt + (l2.toInt + 3 * (k : Int)) + 2 := by rw [tadd (by rw [m0, l2']; omega) (by rw [m0, l2']; omega), m0, l2']
      clear hB
      generalize B + 1 = B1 at *
      generalize B + 2 = B2 at *
      have v0 : vin B 360 := ⟨by omega, by show B.toInt < 360; omega⟩
      have v1 : vin (B1) 360 := ⟨by omega, by show (B1).toInt < 360; omega⟩
      have v2 : vin (B2) 360 := ⟨by omega, by show (B2).toInt < 360; omega⟩
      have n0 : B.toNatClampNeg = 60 * l1.toNatClampNeg + (l2.toNatClampNeg + 3 * k) := by have u := cnI v0.1; omega
      have n1 : (B1).toNatClampNeg = 60 * l1.toNatClampNeg + (l2.toNatClampNeg + 3 * k + 1) := by have u := cnI v1.1; omega
      have n2 : (B2).toNatClampNeg = 60 * l1.toNatClampNeg + (l2.toNatClampNeg + 3 * k + 2) := by have u := cnI v2.1; omega
      have f0 : (q.2 91 (60 * l1.toNatClampNeg + (l2.toNatClampNeg + 3 * k))).toInt32 = E (l2.toNatClampNeg + 3 * k) := (hE _ (by omega)).symm
      have f1 : (q.2 91 (60 * l1.toNatClampNeg + (l2.toNatClampNeg + 3 * k + 1))).toInt32 = E (l2.toNatClampNeg + 3 * k + 1) := (hE _ (by omega)).symm
      have f2 : (q.2 91 (60 * l1.toNatClampNeg + (l2.toNatClampNeg + 3 * k + 2))).toInt32 = E (l2.toNatClampNeg + 3 * k + 2) := (hE _ (by omega)).symm
      rw [w91, n0, n1, n2, f0, f1, f2]
      generalize hE0 : E (l2.toNatClampNeg + 3 * k) = b0 at *
      generalize hE1 : E (l2.toNatClampNeg + 3 * k + 1) = b1 at *
      generalize hE2 : E (l2.toNatClampNeg + 3 * k + 2) = b2 at *
      refine T_p v0 (T_p v1 (T_rw (m_areTicket (q := z) (by rw [wp]; exact p0) b0 b1) ?_))
      rw [wp]
      refine T_bi (fun c => stop (fun y => c ?_)) (fun c => T_p v2 (T_rw (m_in z b2 0 4) (T_bi (fun d => stop (fun y => d ?_)) (fun d => T_p v0 (T_p v1 (T_p v2 (T_rw (m_addTicket (q := z) (by rw [w60]; exact kv0) kz b0 b1 b2) (hr _ _ _ _ _ ⟨rfl, rfl, rfl, k + 1, e1, by omega, fun j hj => ?_, ?_⟩ ?_))))))))
      · have y2 := y.2.1
        have y3 := y.2.2.1
        rw [hE0] at y2
        rw [hE1] at y3
        exact ⟨y2, y3⟩
      · have y4 := y.2.2.2.1
        rw [hE2] at y4
        exact y4
      · by_cases e : j = k
        · subst e
          refine ⟨g1, ?_, ?_, ?_, ?_⟩
          · rw [hE0]; exact c.1
          · rw [hE1]; exact c.2
          · rw [hE2]; exact d
          · rw [w60] at kz; omega
        · exact ok j (by omega)
      · show hiT (mAT (xAT (VT q E l2.toNatClampNeg k) _ _ _) _ _ _) x _
        rw [hE0, hE1, hE2, hv]
        refine ⟨fun j hj => ?_, fun j hj => ?_, z3⟩
        · unfold mAT
          show _ = (sI (sI (sI (sI (xAT V b0 b1 b2) 65 (V.1 60 6).toNatClampNeg b0) 66 (V.1 60 6).toNatClampNeg b1) 67 (V.1 60 6).toNatClampNeg b2) 60 6 (V.1 60 6 + 1)).1 j
          have xo : ∀ u, 60 ≤ u → (xAT V b0 b1 b2).1 u = V.1 u := fun u hu => by
            unfold xAT
            rw [sI_ro (by omega), sI_ro (by omega), sI_ro (by omega), sI_ro (by omega)]
          rw [w60]
          by_cases j0 : j = 60
          · subst j0; funext u; simp only [sI_rd, z1 60 (by decide), xo 60 (by decide)]
          by_cases j7 : j = 67
          · subst j7; funext u; simp only [sI_rd, z1 67 (by decide), xo 67 (by decide)]
          by_cases j6 : j = 66
          · subst j6; funext u; simp only [sI_rd, z1 66 (by decide), xo 66 (by decide)]
          by_cases j5 : j = 65
          · subst j5; funext u; simp only [sI_rd, z1 65 (by decide), xo 65 (by decide)]
          rw [sI_ro j0, sI_ro j7, sI_ro j6, sI_ro j5, sI_ro j0, sI_ro j7, sI_ro j6, sI_ro j5, xo j hj]
          exact z1 j hj
        · unfold mAT
          rw [sI_ro (by omega), sI_ro (by omega), sI_ro (by omega), sI_ro (by omega)]
          exact z2 j hj
      · rw [e1, Int32.toInt_ofNat_of_lt (by omega), ek]
        omega
  · exact T_p (by rw [lgc_ge, e5, i64]; omega) (stop (fun y => g1 y.1))
theorem op_tickets {q : SS} (h : INV q) (s i n : Int32) : T (f_X11_tickets q s i n) (fun r => T (f_X12_tickets r.2 s i n) (fun t => INV t.2 ∧ r.1 = t.1)) := by
  have hS := INV_RS h
  have l1' : (1 : Int32).toInt = 1 := rfl
  have l12 : (12 : Int32).toInt = 12 := rfl
  have l0 : (0 : Int32).toInt = 0 := rfl
  have m1 : ∀ r, f_X12_in r n 1 12 = some (bI (1 ≤ n.toInt ∧ n.toInt ≤ 12)) := fun r => m_in r n 1 12
  unfold f_X11_tickets
  refine T_rw (x_isShelf q s) ?_
  by_cases c : 0 ≤ s.toInt ∧ s.toInt < 6
  · refine T_bp c ?_
    have ss := cnL c.1 c.2
    by_cases d : 1 ≤ n.toInt ∧ n.toInt ≤ 12
    · refine T_ltn (by omega) (T_lep (by omega) (T_rw (x_refBytes q s) ?_))
      rw [if_pos c]
      rcases RS_shelf hS _ ss with ⟨k1, k2⟩ | ⟨k1, k2, k3, k4⟩ | ⟨k1, k2, k3⟩
      · rw [if_pos k1]
        refine T_q (by decide) (T_p rfl (T_some.mpr ?_))
        unfold f_X12_tickets b_X12_tickets_43
        exact T_rw (m_isShelf _ s) (T_bp c (T_rw (m1 _) (T_bp d (T_vp c.1 c.2 (T_p k2 (T_vp c.1 c.2 (T_p k2 (T_some.mpr ⟨h, rfl⟩))))))))
      · have n1 : ¬ q.1 27 s.toNatClampNeg = -2 := by rw [k1]; decide
        have n2 : ¬ q.1 27 s.toNatClampNeg = 0 := by rw [k1]; decide
        have n3 : ¬ q.1 89 s.toNatClampNeg = -1 := by rintro k; rw [k] at k3; exact absurd k3 (by decide)
        have n4 : ¬ q.1 89 s.toNatClampNeg = -2 := by rintro k; rw [k] at k3; exact absurd k3 (by decide)
        rw [if_neg n1, if_neg n2]
        refine T_p rfl (T_some.mpr ?_)
        unfold f_X12_tickets
        exact T_rw (m_isShelf _ s) (T_bp c (T_rw (m1 _) (T_bp d (T_vp c.1 c.2 (T_q n3 (T_vp c.1 c.2 (T_q n4 (T_some.mpr ⟨h, rfl⟩))))))))
      · have n1 : ¬ q.1 27 s.toNatClampNeg = -2 := by rintro k; rw [k] at k1; exact absurd k1 (by decide)
        have n3 : ¬ q.1 89 s.toNatClampNeg = -1 := by rintro k; rw [k] at k3; have := lm1; omega
        rw [if_neg n1]
        by_cases e : q.1 27 s.toNatClampNeg = 0
        · have n4 : q.1 89 s.toNatClampNeg = -2 := Int32.toInt_inj.mp (by rw [k3, e, lm2]; rfl)
          rw [if_pos e]
          have mod : ∀ {P : Int32 × SS → Prop} (x : SS), x.1 89 = q.1 89 → T (b_X12_tickets_58 x s i n 0) P → T (f_X12_tickets x s i n) P := by
            intro P x hx k
            unfold f_X12_tickets b_X12_tickets_43
            refine T_rw (m_isShelf _ s) (T_bp c (T_rw (m1 _) (T_bp d (T_vp c.1 c.2 (T_q (by rw [hx]; exact n3) (T_vp c.1 c.2 (T_p (by rw [hx]; exact n4) (T_vp c.1 c.2 (T_q (by rw [hx]; exact n3) k)))))))))
          have hE : ∀ z : Nat, (z : Int) < (q.1 90 s.toNatClampNeg).toInt → (fun z : Nat => (q.2 91 (60 * s.toNatClampNeg + z)).toInt32) z = (q.2 91 (60 * s.toNatClampNeg + z)).toInt32 := fun _ _ => rfl
          refine T_q (by decide) (T_q (by decide) (T_le (fun g => T_mono (x_tk h c e g d hE) (fun r hr => ?_)) (fun g => T_some.mpr (mod q rfl ?_))))
          · obtain ⟨k, r1, r2, r3, r4, r5, r6, r7⟩ := hr
            refine mod r.2 (r6 89 (by decide)) (T_mono (m_tk h r6 r7 c g d hE) (fun t ht => ?_))
            obtain ⟨m, t1, t2, t3, t4, t5, t6, t7⟩ := ht
            have ekm : k = m := by
              rcases Nat.lt_trichotomy k m with x | x | x
              · exact absurd (t3 k x) (r4 (by omega))
              · exact x
              · exact absurd (r3 m x) (t4 (by omega))
            subst ekm
            refine ⟨?_, r1.trans t1.symm⟩
            have hV := (VT_I h _ _ _ k r3).1
            have : t.2 = VT q (fun z : Nat => (q.2 91 (60 * s.toNatClampNeg + z)).toInt32) i.toNatClampNeg k := by
              refine Prod.ext (funext fun j => ?_) t7
              by_cases hj : j < 60
              · exact (t6 j hj).trans (r5 j hj)
              · exact t5 j (by omega)
            rw [this]
            exact hV
          · unfold b_X12_tickets_58
            rw [fx5_s]
            have e3 : ((3 : Int32) * 0).toInt = 0 := rfl
            have e4 : (i.toInt64 + ((3 : Int32) * 0).toInt64).toInt = i.toInt := by rw [i64add, e3]; omega
            have c0 : (0 : Int64).toInt = 0 := rfl
            exact T_len (by omega) (T_nm (T_p (by rw [lgc_neg, e4, c0]; exact g) (T_some.mpr ⟨h, rfl⟩)))
        · have n4 : ¬ q.1 89 s.toNatClampNeg = -2 := by
            intro k
            rw [k, lm2] at k3
            exact e (Int32.toInt_inj.mp (by rw [l0]; omega))
          rw [if_neg e]
          refine T_p rfl (T_some.mpr ?_)
          unfold f_X12_tickets
          exact T_rw (m_isShelf _ s) (T_bp c (T_rw (m1 _) (T_bp d (T_vp c.1 c.2 (T_q n3 (T_vp c.1 c.2 (T_q n4 (T_some.mpr ⟨h, rfl⟩))))))))
    · have key : T (f_X12_tickets q s i n) (fun t => INV t.2 ∧ -1 = t.1) := by
        unfold f_X12_tickets
        exact T_rw (m_isShelf _ s) (T_bp c (T_rw (m1 _) (T_bn d (T_some.mpr ⟨h, rfl⟩))))
      exact T_lt (fun _ => T_some.mpr key) (fun g => T_le (fun g2 => absurd ⟨by omega, by omega⟩ d) (fun _ => T_some.mpr key))
  · refine T_bn c (T_some.mpr ?_)
    unfold f_X12_tickets
    exact T_rw (m_isShelf _ s) (T_bn c (T_some.mpr ⟨h, rfl⟩))

def LAY (q : SS) (w n v : Int32) : SS := if w.toInt = 7 then sI q 68 0 v else if w.toInt = 8 then sI q 68 1 v else sI q (61 + w.toNatClampNeg) n.toNatClampNeg v
theorem m_lays {q : SS} {P K : Int} (hP : P ≤ 6) (hK : K ≤ 12) {w n : Int32} (v : Int32) (hn : okN P K w.toInt n.toInt) : f_X12_lays q w n v = some (LAY q w n v) := by
  have h0 : 0 ≤ w.toInt := by omega
  have h8 : w.toInt ≤ 8 := by omega
  unfold f_X12_lays LAY
  rcases w08 h0 h8 with rfl | rfl | rfl | rfl | rfl | rfl | rfl | rfl | rfl
  · have z : (0 : Int32).toInt = 0 := rfl
    have v1 : vin n 6 := ⟨by omega, by show n.toInt < 6; omega⟩
    simp only [sw, Int32.reduceToInt]
    exact if_pos v1
  · have z : (1 : Int32).toInt = 1 := rfl
    have v1 : vin n 6 := ⟨by omega, by show n.toInt < 6; omega⟩
    simp only [sw, Int32.reduceToInt]
    exact if_pos v1
  · have z : (2 : Int32).toInt = 2 := rfl
    have v1 : vin n 6 := ⟨by omega, by show n.toInt < 6; omega⟩
    simp only [sw, Int32.reduceToInt]
    exact if_pos v1
  · have z : (3 : Int32).toInt = 3 := rfl
    have v1 : vin n 6 := ⟨by omega, by show n.toInt < 6; omega⟩
    simp only [sw, Int32.reduceToInt]
    exact if_pos v1
  · have z : (4 : Int32).toInt = 4 := rfl
    have v1 : vin n 12 := ⟨by omega, by show n.toInt < 12; omega⟩
    simp only [sw, Int32.reduceToInt]
    exact if_pos v1
  · have z : (5 : Int32).toInt = 5 := rfl
    have v1 : vin n 12 := ⟨by omega, by show n.toInt < 12; omega⟩
    simp only [sw, Int32.reduceToInt]
    exact if_pos v1
  · have z : (6 : Int32).toInt = 6 := rfl
    have v1 : vin n 12 := ⟨by omega, by show n.toInt < 12; omega⟩
    simp only [sw, Int32.reduceToInt]
    exact if_pos v1
  · rfl
  · rfl

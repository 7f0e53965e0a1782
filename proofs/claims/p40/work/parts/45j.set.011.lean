theorem RY_set {q : SS} (h : RY q) {w n v : Int32} (hn : okN (q.1 60 1).toInt (q.1 60 6).toInt w.toInt n.toInt) (hv : okV (q.1 60 1).toInt w.toInt v.toInt) : RY (LAY (sI q (3 + w.toNatClampNeg) n.toNatClampNeg v) w n v) := by
  have h0 : 0 ≤ w.toInt := by omega
  have h8 : w.toInt ≤ 8 := by omega
  have v0 := hv.1
  rcases w08 h0 h8 with rfl | rfl | rfl | rfl | rfl | rfl | rfl | rfl | rfl
  · have z : (0 : Int32).toInt = 0 := rfl
    exact RY_set0 h (by rw [cnI (by omega)]; omega) v0 (hv.2.1 (by decide))
  · have z : (1 : Int32).toInt = 1 := rfl
    exact RY_set1 h (by rw [cnI (by omega)]; omega) v0 (hv.2.2.1 (by decide))
  · have z : (2 : Int32).toInt = 2 := rfl
    exact RY_set2 h (by rw [cnI (by omega)]; omega) v0 (hv.2.2.2.1 (by decide))
  · have z : (3 : Int32).toInt = 3 := rfl
    exact RY_set3 h (by rw [cnI (by omega)]; omega) v0 (hv.2.2.2.2.1 (by decide))
  · have z : (4 : Int32).toInt = 4 := rfl
    exact RY_set4 h (by rw [cnI (by omega)]; omega) v0 (hv.2.2.2.2.2.1 (by decide))
  · have z : (5 : Int32).toInt = 5 := rfl
    exact RY_set5 h (by rw [cnI (by omega)]; omega) v0 (hv.2.2.2.2.2.2.1 (by decide))
  · have z : (6 : Int32).toInt = 6 := rfl
    exact RY_set6 h (by rw [cnI (by omega)]; omega) v0 (hv.2.2.2.2.2.2.2.1 (by decide))
  · have z : (7 : Int32).toInt = 7 := rfl
    have e : n = 0 := eq0.mpr (by omega)
    subst e
    exact RY_set7 h v0 (hv.2.2.2.2.2.2.2.2.1 (by decide))
  · have z : (8 : Int32).toInt = 8 := rfl
    have e : n = 0 := eq0.mpr (by omega)
    subst e
    exact RY_set8 h v0 (hv.2.2.2.2.2.2.2.2.2 (by decide))

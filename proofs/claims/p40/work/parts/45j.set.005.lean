theorem RY_set5 {q : SS} (h : RY q) {n : Nat} {v : Int32} (hn : (n : Int) < (q.1 60 6).toInt) (h0 : 0 ≤ v.toInt) (h1 : (v.toInt ≤ 1)) : RY (sI (sI q 8 n v) 66 n v) := by
  have p6 := RY_p6 h
  unfold RY
  refine ⟨?_, ?_, ?_, ?_, ?_, ?_, ?_, ?_, ?_, ?_, ?_, ?_, ?_, ?_, ?_, ?_, ?_, ?_, ?_, ?_, ?_, ?_, ?_, ?_, ?_, ?_, ?_, ?_, ?_⟩
  · have a := RY_p0 h; exact a
  · have a := RY_p6 h; exact a
  · have a := RY_k0 h; exact a
  · have a := RY_k12 h; exact a
  · have a := RY_p h; exact a
  · have a := RY_k h; exact a
  · have a := RY_wary h; exact a
  · have a := RY_child h; exact a
  · have a := RY_takes h; exact a
  · have a := RY_holder h; exact a
  · have a := RY_forged h; funext j; have a := congrFun a j; simp [sI_rd] <;> grind
  · have a := RY_folds h; exact a
  · have a := RY_hour h; exact a
  · have a := RY_seen h; exact a
  · have a := RY_price h; exact a
  · have a := RY_price10 h; exact a
  · have a := RY_child0 h; exact a
  · have a := RY_takes0 h; exact a
  · have a := RY_rwary h; exact a
  · have a := RY_rchild h; exact a
  · have a := RY_rprice h; exact a
  · have a := RY_rtakes h; exact a
  · have a := RY_rholder h; exact a
  · have a := RY_rforged h; intro i hi; simp [sI_rd] at hi ⊢ <;> (try split) <;> grind
  · have a := RY_rfolds h; exact a
  · have a := RY_h0 h; exact a
  · have a := RY_h11 h; exact a
  · have a := RY_s0 h; exact a
  · have a := RY_s9 h; exact a

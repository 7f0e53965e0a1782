def wFl1 (q : Nat × Nat × Nat × Nat) : Cond := wFl q.1 q.2
def wSk1 (q : Nat × Nat × Nat) : Cond := wSk q.1 q.2
def wNw1 (q : Nat × Nat × Nat) : Cond := wNw q.1 q.2
def wMn1 (q : Nat × Nat × Nat) : Cond := wMn q.1 q.2
def wKi (q : Nat × Nat × Int32) : Cond := .constant (cnm q.1) q.2.1 q.2.2
def wKl (q : Nat × Nat × Int64) : Cond := .constantLong (cnm q.1) q.2.1 q.2.2
def mmN (j : Nat) : MethodName := bif Nat.beq j 0 then Lib.Math.max.name else Lib.Math.min.name
def wMm (q : Nat × Nat × Nat) : Cond := .methodLink (cnm q.1) q.2.1 (mmN q.2.2)
def sgMm : List (Nat × (Nat × Nat × Nat)) := [(708, (8, 77, 1)), (2, (8, 82, 0)), (13, (2, 34, 1)), (119, (6, 83, 1)), (20, (6, 106, 0)), (24, (11, 253, 1)), (237, (3, 35, 1))]
set_option maxRecDepth 100000 in
theorem sgMm_ok : chk (sgMm.map fun q => (q.1, wMm q.2)) lw_tbl = true := by decide +kernel

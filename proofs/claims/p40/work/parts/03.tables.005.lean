def wOi (q : Nat × Nat) : Cond := .methodLink (cnm q.1) q.2 objectInit
def wAc (q : Nat × Nat) : Cond := .methodLink (cnm q.1) q.2 arraycopyName
def sgOi : List (Nat × (Nat × Nat)) := [(104, (11, 1)), (7, (10, 3)), (18, (4, 3)), (24, (5, 3)), (20, (8, 3)), (15, (7, 3)), (21, (2, 3)), (30, (9, 3)), (42, (6, 3)), (36, (1, 3)), (30, (0, 1)), (27, (3, 3)), (838, (12, 3))]
set_option maxRecDepth 100000 in
theorem sgOi_ok : chk (sgOi.map fun q => (q.1, wOi q.2)) lw_tbl = true := by decide +kernel

def sgIs : List (Nat × Nat) := [(100, 11), (7, 10), (18, 4), (24, 5), (20, 8), (15, 7), (21, 2), (30, 9), (42, 6), (36, 1), (30, 0), (27, 3), (838, 12)]
set_option maxRecDepth 100000 in
theorem sgIs_ok : chk (sgIs.map fun q => (q.1, wIns q.2)) lw_tbl = true := by decide +kernel

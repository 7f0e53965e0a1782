def sgIn : List (Nat × Nat) := [(82, 13), (0, 11), (0, 10), (0, 4), (0, 5), (0, 8), (0, 7), (0, 2), (0, 9), (0, 6), (0, 1), (0, 0), (0, 3), (0, 12), (2, 14)]
set_option maxRecDepth 100000 in
theorem sgIn_ok : chk (sgIn.map fun q => (q.1, wInit q.2)) lw_tbl = true := by decide +kernel

def sgLs : List (Nat × Nat) := [(449, 3), (664, 2), (1, 1)]
set_option maxRecDepth 100000 in
theorem sgLs_ok : chk (sgLs.map fun q => (q.1, wLs q.2)) lw_tbl = true := by decide +kernel

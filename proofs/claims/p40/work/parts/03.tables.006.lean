def sgAc : List (Nat × (Nat × Nat)) := [(533, (0, 36)), (112, (4, 28)), (392, (1, 48)), (149, (7, 54))]
set_option maxRecDepth 100000 in
theorem sgAc_ok : chk (sgAc.map fun q => (q.1, wAc q.2)) lw_tbl = true := by decide +kernel

def sgKi : List (Nat × (Nat × Nat × Int32)) := [(915, (14, 265, (1431655765))), (0, (14, 266, (858993459))), (0, (14, 267, (252645135))), (73, (11, 304, (1103515245))), (711, (12, 352, (1103515245)))]
set_option maxRecDepth 100000 in
theorem sgKi_ok : chk (sgKi.map fun q => (q.1, wKi q.2)) lw_tbl = true := by decide +kernel

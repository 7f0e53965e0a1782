def sgSk : List (Nat × (Nat × Nat × Nat)) := [(448, (10, 34, 3)), (664, (3, 56, 2)), (1, (3, 22, 1))]
set_option maxRecDepth 100000 in
theorem sgSk_ok : chk (sgSk.map fun q => (q.1, wSk1 q.2)) lw_tbl = true := by decide +kernel

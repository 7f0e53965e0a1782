def sgMn : List (Nat × (Nat × Nat × Nat)) := [(113, (10, 9, 5)), (80, (7, 21, 6))]
set_option maxRecDepth 100000 in
theorem sgMn_ok : chk (sgMn.map fun q => (q.1, wMn1 q.2)) lw_tbl = true := by decide +kernel

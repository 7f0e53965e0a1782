def wEx (w : Cond) : Cond := w
def sgEx : List (Nat × Cond) := [(96, .initialized "java/lang/System"), (0, .initialized "java/lang/Math"), (7, .instanceMethod objectInit), (8, .arrayOver (.array .int)), (10, .arrayClass .int), (69, .arrayOver (.array .long)), (13, .arrayClass .long), (324, .static arraycopyName), (0, .native arraycopyName), (173, .static Lib.Math.min.name), (2, .static Lib.Math.max.name), (692, .arrayClass .byte), (0, .arrayClass .short)]
set_option maxRecDepth 100000 in
theorem sgEx_ok : chk (sgEx.map fun q => (q.1, wEx q.2)) lw_tbl = true := by decide +kernel

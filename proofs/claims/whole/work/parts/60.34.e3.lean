/-! .. -/
set_option maxRecDepth 100000 in
theorem zmM7 : ((List.range 4).all fun i => (zix (zix zCs 219) (128 + i)).all (fun r => zokB 219 r.1 r.2)) = true := by decide +kernel
set_option maxRecDepth 100000 in
theorem zmM8 : ((List.range 4).all fun i => (zix (zix zCs 219) (132 + i)).all (fun r => zokB 219 r.1 r.2)) = true := by decide +kernel

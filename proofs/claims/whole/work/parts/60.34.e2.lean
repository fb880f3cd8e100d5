/-! .. -/
set_option maxRecDepth 100000 in
theorem zmM4 : ((List.range 4).all fun i => (zix (zix zCs 219) (116 + i)).all (fun r => zokB 219 r.1 r.2)) = true := by decide +kernel
set_option maxRecDepth 100000 in
theorem zmM5 : ((List.range 4).all fun i => (zix (zix zCs 219) (120 + i)).all (fun r => zokB 219 r.1 r.2)) = true := by decide +kernel
set_option maxRecDepth 100000 in
theorem zmM6 : ((List.range 4).all fun i => (zix (zix zCs 219) (124 + i)).all (fun r => zokB 219 r.1 r.2)) = true := by decide +kernel

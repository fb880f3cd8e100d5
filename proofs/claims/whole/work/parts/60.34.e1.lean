/-! .. -/
set_option maxRecDepth 100000 in
theorem zmM0 : ((List.range 4).all fun i => (zix (zix zCs 219) (100 + i)).all (fun r => zokB 219 r.1 r.2)) = true := by decide +kernel
set_option maxRecDepth 100000 in
theorem zmM1 : ((List.range 4).all fun i => (zix (zix zCs 219) (104 + i)).all (fun r => zokB 219 r.1 r.2)) = true := by decide +kernel
set_option maxRecDepth 100000 in
theorem zmM2 : ((List.range 4).all fun i => (zix (zix zCs 219) (108 + i)).all (fun r => zokB 219 r.1 r.2)) = true := by decide +kernel
set_option maxRecDepth 100000 in
theorem zmM3 : ((List.range 4).all fun i => (zix (zix zCs 219) (112 + i)).all (fun r => zokB 219 r.1 r.2)) = true := by decide +kernel

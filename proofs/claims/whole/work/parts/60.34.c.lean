/-! .. -/
set_option maxRecDepth 100000 in
theorem zmL0 : ((List.range 10).all fun i => (zix (zix zCs 219) (10*0 + i)).all (fun r => zokB 219 r.1 r.2)) = true := by decide +kernel
set_option maxRecDepth 100000 in
theorem zmL1 : ((List.range 10).all fun i => (zix (zix zCs 219) (10*1 + i)).all (fun r => zokB 219 r.1 r.2)) = true := by decide +kernel
set_option maxRecDepth 100000 in
theorem zmL2 : ((List.range 10).all fun i => (zix (zix zCs 219) (10*2 + i)).all (fun r => zokB 219 r.1 r.2)) = true := by decide +kernel
set_option maxRecDepth 100000 in
theorem zmL3 : ((List.range 10).all fun i => (zix (zix zCs 219) (10*3 + i)).all (fun r => zokB 219 r.1 r.2)) = true := by decide +kernel
set_option maxRecDepth 100000 in
theorem zmL4 : ((List.range 10).all fun i => (zix (zix zCs 219) (10*4 + i)).all (fun r => zokB 219 r.1 r.2)) = true := by decide +kernel

/-! .. -/
set_option maxRecDepth 100000 in
theorem zmL10 : ((List.range 10).all fun i => (zix (zix zCs 219) (10*10 + i)).all (fun r => zokB 219 r.1 r.2)) = true := by decide +kernel
set_option maxRecDepth 100000 in
theorem zmL11 : ((List.range 10).all fun i => (zix (zix zCs 219) (10*11 + i)).all (fun r => zokB 219 r.1 r.2)) = true := by decide +kernel
set_option maxRecDepth 100000 in
theorem zmL12 : ((List.range 10).all fun i => (zix (zix zCs 219) (10*12 + i)).all (fun r => zokB 219 r.1 r.2)) = true := by decide +kernel
set_option maxRecDepth 100000 in
theorem zmL13 : ((List.range 10).all fun i => (zix (zix zCs 219) (10*13 + i)).all (fun r => zokB 219 r.1 r.2)) = true := by decide +kernel
set_option maxRecDepth 100000 in
theorem zmL14 : ((List.range 10).all fun i => (zix (zix zCs 219) (10*14 + i)).all (fun r => zokB 219 r.1 r.2)) = true := by decide +kernel

/-! .. -/
set_option maxRecDepth 100000 in
theorem zmL5 : ((List.range 10).all fun i => (zix (zix zCs 219) (10*5 + i)).all (fun r => zokB 219 r.1 r.2)) = true := by decide +kernel
set_option maxRecDepth 100000 in
theorem zmL6 : ((List.range 10).all fun i => (zix (zix zCs 219) (10*6 + i)).all (fun r => zokB 219 r.1 r.2)) = true := by decide +kernel
set_option maxRecDepth 100000 in
theorem zmL7 : ((List.range 10).all fun i => (zix (zix zCs 219) (10*7 + i)).all (fun r => zokB 219 r.1 r.2)) = true := by decide +kernel
set_option maxRecDepth 100000 in
theorem zmL8 : ((List.range 10).all fun i => (zix (zix zCs 219) (10*8 + i)).all (fun r => zokB 219 r.1 r.2)) = true := by decide +kernel
set_option maxRecDepth 100000 in
theorem zmL9 : ((List.range 10).all fun i => (zix (zix zCs 219) (10*9 + i)).all (fun r => zokB 219 r.1 r.2)) = true := by decide +kernel

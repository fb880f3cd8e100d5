/-! .. -/
set_option maxRecDepth 100000 in
theorem zmL243_0 : ((List.range 8).all fun i => (zix (zix zCs 243) (0 + i)).all (fun r => zokB 243 r.1 r.2)) = true := by decide +kernel
set_option maxRecDepth 100000 in
theorem zmL243_8 : ((List.range 8).all fun i => (zix (zix zCs 243) (8 + i)).all (fun r => zokB 243 r.1 r.2)) = true := by decide +kernel
set_option maxRecDepth 100000 in
theorem zmL243_16 : ((List.range 8).all fun i => (zix (zix zCs 243) (16 + i)).all (fun r => zokB 243 r.1 r.2)) = true := by decide +kernel
set_option maxRecDepth 100000 in
theorem zmL243_24 : ((List.range 8).all fun i => (zix (zix zCs 243) (24 + i)).all (fun r => zokB 243 r.1 r.2)) = true := by decide +kernel
set_option maxRecDepth 100000 in
theorem zmL243_32 : ((List.range 8).all fun i => (zix (zix zCs 243) (32 + i)).all (fun r => zokB 243 r.1 r.2)) = true := by decide +kernel

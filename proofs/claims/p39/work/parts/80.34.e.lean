/-! .. -/
set_option maxRecDepth 100000 in
theorem zmL243_40 : ((List.range 8).all fun i => (zix (zix zCs 243) (40 + i)).all (fun r => zokB 243 r.1 r.2)) = true := by decide +kernel
set_option maxRecDepth 100000 in
theorem zmL243_48 : ((List.range 8).all fun i => (zix (zix zCs 243) (48 + i)).all (fun r => zokB 243 r.1 r.2)) = true := by decide +kernel
set_option maxRecDepth 100000 in
theorem zmL243_56 : ((List.range 8).all fun i => (zix (zix zCs 243) (56 + i)).all (fun r => zokB 243 r.1 r.2)) = true := by decide +kernel
set_option maxRecDepth 100000 in
theorem zmL243_64 : ((List.range 4).all fun i => (zix (zix zCs 243) (64 + i)).all (fun r => zokB 243 r.1 r.2)) = true := by decide +kernel

/-! .. -/
set_option maxRecDepth 100000 in
theorem zmL240_0 : ((List.range 8).all fun i => (zix (zix zCs 240) (0 + i)).all (fun r => zokB 240 r.1 r.2)) = true := by decide +kernel
set_option maxRecDepth 100000 in
theorem zmL240_8 : ((List.range 6).all fun i => (zix (zix zCs 240) (8 + i)).all (fun r => zokB 240 r.1 r.2)) = true := by decide +kernel
set_option maxRecDepth 100000 in
theorem zmL241_0 : ((List.range 8).all fun i => (zix (zix zCs 241) (0 + i)).all (fun r => zokB 241 r.1 r.2)) = true := by decide +kernel
set_option maxRecDepth 100000 in
theorem zmL241_8 : ((List.range 8).all fun i => (zix (zix zCs 241) (8 + i)).all (fun r => zokB 241 r.1 r.2)) = true := by decide +kernel
set_option maxRecDepth 100000 in
theorem zmL241_16 : ((List.range 8).all fun i => (zix (zix zCs 241) (16 + i)).all (fun r => zokB 241 r.1 r.2)) = true := by decide +kernel
set_option maxRecDepth 100000 in
theorem zmL241_24 : ((List.range 2).all fun i => (zix (zix zCs 241) (24 + i)).all (fun r => zokB 241 r.1 r.2)) = true := by decide +kernel

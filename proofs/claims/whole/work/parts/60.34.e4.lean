/-! .. -/
set_option maxRecDepth 100000 in
theorem zmM9 : ((List.range 4).all fun i => (zix (zix zCs 219) (136 + i)).all (fun r => zokB 219 r.1 r.2)) = true := by decide +kernel
set_option maxRecDepth 100000 in
theorem zmM10 : ((List.range 4).all fun i => (zix (zix zCs 219) (140 + i)).all (fun r => zokB 219 r.1 r.2)) = true := by decide +kernel

/-! .. -/
set_option maxRecDepth 100000 in
theorem zmG10 : ((List.range 10).all fun i => zmB (10*10 + i)) = true := by decide +kernel
set_option maxRecDepth 100000 in
theorem zmG11 : ((List.range 10).all fun i => zmB (10*11 + i)) = true := by decide +kernel
set_option maxRecDepth 100000 in
theorem zmG12 : ((List.range 10).all fun i => zmB (10*12 + i)) = true := by decide +kernel
set_option maxRecDepth 100000 in
theorem zmG13 : ((List.range 10).all fun i => zmB (10*13 + i)) = true := by decide +kernel
set_option maxRecDepth 100000 in
theorem zmG14 : ((List.range 10).all fun i => zmB (10*14 + i)) = true := by decide +kernel
set_option maxRecDepth 100000 in
theorem zmG15 : ((List.range 10).all fun i => zmB (10*15 + i)) = true := by decide +kernel
set_option maxRecDepth 100000 in
theorem zmG16 : ((List.range 10).all fun i => zmB (10*16 + i)) = true := by decide +kernel
set_option maxRecDepth 100000 in
theorem zmG17 : ((List.range 10).all fun i => zmB (10*17 + i)) = true := by decide +kernel
set_option maxRecDepth 100000 in
theorem zmG18 : ((List.range 10).all fun i => zmB (10*18 + i)) = true := by decide +kernel
set_option maxRecDepth 100000 in
theorem zmG19 : ((List.range 10).all fun i => zmB (10*19 + i)) = true := by decide +kernel
set_option maxRecDepth 100000 in
theorem zmG20 : ((List.range 10).all fun i => zmB (10*20 + i)) = true := by decide +kernel
set_option maxRecDepth 100000 in
theorem zmG21 : ((List.range 9).all fun i => zmB (210 + i)) = true := by decide +kernel

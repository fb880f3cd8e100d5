/-! every entry of the table of code is right -/
set_option maxRecDepth 100000 in
theorem zmG0 : ((List.range 10).all fun i => zmB (10*0 + i)) = true := by decide +kernel
set_option maxRecDepth 100000 in
theorem zmG1 : ((List.range 10).all fun i => zmB (10*1 + i)) = true := by decide +kernel
set_option maxRecDepth 100000 in
theorem zmG2 : ((List.range 10).all fun i => zmB (10*2 + i)) = true := by decide +kernel
set_option maxRecDepth 100000 in
theorem zmG3 : ((List.range 10).all fun i => zmB (10*3 + i)) = true := by decide +kernel
set_option maxRecDepth 100000 in
theorem zmG4 : ((List.range 10).all fun i => zmB (10*4 + i)) = true := by decide +kernel
set_option maxRecDepth 100000 in
theorem zmG5 : ((List.range 10).all fun i => zmB (10*5 + i)) = true := by decide +kernel
set_option maxRecDepth 100000 in
theorem zmG6 : ((List.range 10).all fun i => zmB (10*6 + i)) = true := by decide +kernel
set_option maxRecDepth 100000 in
theorem zmG7 : ((List.range 10).all fun i => zmB (10*7 + i)) = true := by decide +kernel
set_option maxRecDepth 100000 in
theorem zmG8 : ((List.range 10).all fun i => zmB (10*8 + i)) = true := by decide +kernel
set_option maxRecDepth 100000 in
theorem zmG9 : ((List.range 10).all fun i => zmB (10*9 + i)) = true := by decide +kernel

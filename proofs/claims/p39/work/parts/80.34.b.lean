/-! .. -/
set_option maxRecDepth 100000 in
theorem zmG8 : (([80, 81, 82, 83, 84, 85, 86, 87, 88, 89] : List Nat).all zmB) = true := by decide +kernel
set_option maxRecDepth 100000 in
theorem zmG9 : (([90, 91, 92, 93, 94, 95, 96, 97, 98, 99] : List Nat).all zmB) = true := by decide +kernel
set_option maxRecDepth 100000 in
theorem zmG10 : (([100, 101, 164, 165, 166, 167, 168, 169, 170, 171] : List Nat).all zmB) = true := by decide +kernel
set_option maxRecDepth 100000 in
theorem zmG11 : (([172, 173, 174, 175, 176, 177, 178, 179, 180, 181] : List Nat).all zmB) = true := by decide +kernel
set_option maxRecDepth 100000 in
theorem zmG12 : (([182, 186, 187, 220, 221, 222, 223, 224, 225, 226] : List Nat).all zmB) = true := by decide +kernel
set_option maxRecDepth 100000 in
theorem zmG13 : (([227, 228, 229, 230, 231, 232, 233, 234, 235, 236] : List Nat).all zmB) = true := by decide +kernel
set_option maxRecDepth 100000 in
theorem zmG14 : (([237, 238, 239, 242] : List Nat).all zmB) = true := by decide +kernel

/-! every entry of the table of code is right -/
set_option maxRecDepth 100000 in
theorem zmG0 : (([0, 1, 2, 3, 4, 5, 6, 7, 8, 9] : List Nat).all zmB) = true := by decide +kernel
set_option maxRecDepth 100000 in
theorem zmG1 : (([10, 11, 12, 13, 14, 15, 16, 17, 18, 19] : List Nat).all zmB) = true := by decide +kernel
set_option maxRecDepth 100000 in
theorem zmG2 : (([20, 21, 22, 23, 24, 25, 26, 27, 28, 29] : List Nat).all zmB) = true := by decide +kernel
set_option maxRecDepth 100000 in
theorem zmG3 : (([30, 31, 32, 33, 34, 35, 36, 37, 38, 39] : List Nat).all zmB) = true := by decide +kernel
set_option maxRecDepth 100000 in
theorem zmG4 : (([40, 41, 42, 43, 44, 45, 46, 47, 48, 49] : List Nat).all zmB) = true := by decide +kernel
set_option maxRecDepth 100000 in
theorem zmG5 : (([50, 51, 52, 53, 54, 55, 56, 57, 58, 59] : List Nat).all zmB) = true := by decide +kernel
set_option maxRecDepth 100000 in
theorem zmG6 : (([60, 61, 62, 63, 64, 65, 66, 67, 68, 69] : List Nat).all zmB) = true := by decide +kernel
set_option maxRecDepth 100000 in
theorem zmG7 : (([70, 71, 72, 73, 74, 75, 76, 77, 78, 79] : List Nat).all zmB) = true := by decide +kernel

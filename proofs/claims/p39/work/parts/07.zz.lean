/-! rows for the instructions that the elder machine has not -/
theorem zg_idiv (k nx tg : Nat) (aux : List Nat) (ls : zL) (st : zS) (h : zH) (x y : Int32) : zgo k (zpure .idiv nx tg aux ls (.int y :: .int x :: st) h) = if y = 0 then none else zx k nx ls (.int (x / y) :: st) h := by
  simp only [zpure, zgo_if, zgo_some, zgo_none]
theorem zg_irem (k nx tg : Nat) (aux : List Nat) (ls : zL) (st : zS) (h : zH) (x y : Int32) : zgo k (zpure .irem nx tg aux ls (.int y :: .int x :: st) h) = if y = 0 then none else zx k nx ls (.int (x - x / y * y) :: st) h := by
  simp only [zpure, zgo_if, zgo_some, zgo_none]
theorem zg_lmul (k nx tg : Nat) (aux : List Nat) (ls : zL) (st : zS) (h : zH) (x y : Int64) : zgo k (zpure .lmul nx tg aux ls (.long y :: .long x :: st) h) = zx k nx ls (.long (x * y) :: st) h := rfl
theorem zg_ldc2 (k n nx tg v : Nat) (ls : zL) (st : zS) (h : zH) : zgo k (zpure (.ldc2_w n) nx tg [v] ls st h) = zx k nx ls (.long (Int64.ofNat v) :: st) h := rfl
theorem zg_ldc3 (k n nx tg v : Nat) (ls : zL) (st : zS) (h : zH) (w : Int32) (hw : lget ls v = some (.int w)) (h0 : 0 ≤ w.toInt) (hs : st.length ≤ 3) : zgo k (zpure (.ldc n) nx tg [3, v] ls st h) = zx k nx ls (.int (zfc w.toInt) :: st) h := by
  simp only [zpure, hw, h0, hs, and_self, if_true, zgo_some]

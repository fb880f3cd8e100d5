/-! rows that run the machine by rewriting -/
theorem zgo_if {c : Prop} [Decidable c] (k : Nat) (a b : Option (Nat × zL × zS × zH)) : zgo k (if c then a else b) = if c then zgo k a else zgo k b := by by_cases hc : c <;> simp [hc]
theorem zgo_some (k : Nat) (nx : Nat) (ls : zL) (st : zS) (h : zH) : zgo k (some (nx, ls, st, h)) = zx k nx ls st h := rfl
theorem zgo_none (k : Nat) : zgo k none = none := rfl
set_option maxRecDepth 20000 in
theorem zs0 :
  (∀ (k nx tg : Nat) (aux : List Nat) (ls : zL) (st : zS) (h : zH) (n : Nat), zgo k (zpure (.iload n) nx tg aux ls st h) = zgo k (zlo 0 n nx ls st h)) ∧
  (∀ (k nx tg : Nat) (aux : List Nat) (ls : zL) (st : zS) (h : zH), zgo k (zpure (.iload_n 0) nx tg aux ls st h) = zgo k (zlo 0 0 nx ls st h)) ∧
  (∀ (k nx tg : Nat) (aux : List Nat) (ls : zL) (st : zS) (h : zH), zgo k (zpure (.iload_n 1) nx tg aux ls st h) = zgo k (zlo 0 1 nx ls st h)) ∧
  (∀ (k nx tg : Nat) (aux : List Nat) (ls : zL) (st : zS) (h : zH), zgo k (zpure (.iload_n 2) nx tg aux ls st h) = zgo k (zlo 0 2 nx ls st h)) ∧
  (∀ (k nx tg : Nat) (aux : List Nat) (ls : zL) (st : zS) (h : zH), zgo k (zpure (.iload_n 3) nx tg aux ls st h) = zgo k (zlo 0 3 nx ls st h)) ∧
  (∀ (k nx tg : Nat) (aux : List Nat) (ls : zL) (st : zS) (h : zH) (n : Nat), zgo k (zpure (.lload n) nx tg aux ls st h) = zgo k (zlo 1 n nx ls st h)) ∧
  (∀ (k nx tg : Nat) (aux : List Nat) (ls : zL) (st : zS) (h : zH), zgo k (zpure (.lload_n 0) nx tg aux ls st h) = zgo k (zlo 1 0 nx ls st h)) ∧
  (∀ (k nx tg : Nat) (aux : List Nat) (ls : zL) (st : zS) (h : zH), zgo k (zpure (.lload_n 1) nx tg aux ls st h) = zgo k (zlo 1 1 nx ls st h)) ∧
  (∀ (k nx tg : Nat) (aux : List Nat) (ls : zL) (st : zS) (h : zH), zgo k (zpure (.lload_n 2) nx tg aux ls st h) = zgo k (zlo 1 2 nx ls st h)) ∧
  (∀ (k nx tg : Nat) (aux : List Nat) (ls : zL) (st : zS) (h : zH), zgo k (zpure (.lload_n 3) nx tg aux ls st h) = zgo k (zlo 1 3 nx ls st h)) ∧
  (∀ (k nx tg : Nat) (aux : List Nat) (ls : zL) (st : zS) (h : zH) (n : Nat), zgo k (zpure (.fload n) nx tg aux ls st h) = zgo k (zlo 2 n nx ls st h)) ∧
  (∀ (k nx tg : Nat) (aux : List Nat) (ls : zL) (st : zS) (h : zH), zgo k (zpure (.fload_n 0) nx tg aux ls st h) = zgo k (zlo 2 0 nx ls st h)) ∧
  (∀ (k nx tg : Nat) (aux : List Nat) (ls : zL) (st : zS) (h : zH), zgo k (zpure (.fload_n 1) nx tg aux ls st h) = zgo k (zlo 2 1 nx ls st h)) ∧
  (∀ (k nx tg : Nat) (aux : List Nat) (ls : zL) (st : zS) (h : zH), zgo k (zpure (.fload_n 2) nx tg aux ls st h) = zgo k (zlo 2 2 nx ls st h)) ∧
  (∀ (k nx tg : Nat) (aux : List Nat) (ls : zL) (st : zS) (h : zH), zgo k (zpure (.fload_n 3) nx tg aux ls st h) = zgo k (zlo 2 3 nx ls st h)) ∧
  (∀ (k nx tg : Nat) (aux : List Nat) (ls : zL) (st : zS) (h : zH) (n : Nat), zgo k (zpure (.aload n) nx tg aux ls st h) = zgo k (zlo 4 n nx ls st h)) ∧
  (∀ (k nx tg : Nat) (aux : List Nat) (ls : zL) (st : zS) (h : zH), zgo k (zpure (.aload_n 0) nx tg aux ls st h) = zgo k (zlo 4 0 nx ls st h)) ∧
  (∀ (k nx tg : Nat) (aux : List Nat) (ls : zL) (st : zS) (h : zH), zgo k (zpure (.aload_n 1) nx tg aux ls st h) = zgo k (zlo 4 1 nx ls st h)) ∧
  (∀ (k nx tg : Nat) (aux : List Nat) (ls : zL) (st : zS) (h : zH), zgo k (zpure (.aload_n 2) nx tg aux ls st h) = zgo k (zlo 4 2 nx ls st h)) ∧
  (∀ (k nx tg : Nat) (aux : List Nat) (ls : zL) (st : zS) (h : zH), zgo k (zpure (.aload_n 3) nx tg aux ls st h) = zgo k (zlo 4 3 nx ls st h)) ∧
  (∀ (k nx tg : Nat) (aux : List Nat) (ls : zL) (st : zS) (h : zH) (n : Nat), zgo k (zpure (.istore n) nx tg aux ls st h) = zgo k (zsto 0 n nx ls st h)) ∧
  (∀ (k nx tg : Nat) (aux : List Nat) (ls : zL) (st : zS) (h : zH), zgo k (zpure (.istore_n 0) nx tg aux ls st h) = zgo k (zsto 0 0 nx ls st h)) ∧
  (∀ (k nx tg : Nat) (aux : List Nat) (ls : zL) (st : zS) (h : zH), zgo k (zpure (.istore_n 1) nx tg aux ls st h) = zgo k (zsto 0 1 nx ls st h)) ∧
  (∀ (k nx tg : Nat) (aux : List Nat) (ls : zL) (st : zS) (h : zH), zgo k (zpure (.istore_n 2) nx tg aux ls st h) = zgo k (zsto 0 2 nx ls st h)) ∧
  (∀ (k nx tg : Nat) (aux : List Nat) (ls : zL) (st : zS) (h : zH), zgo k (zpure (.istore_n 3) nx tg aux ls st h) = zgo k (zsto 0 3 nx ls st h)) ∧
  (∀ (k nx tg : Nat) (aux : List Nat) (ls : zL) (st : zS) (h : zH) (n : Nat), zgo k (zpure (.fstore n) nx tg aux ls st h) = zgo k (zsto 2 n nx ls st h)) ∧
  (∀ (k nx tg : Nat) (aux : List Nat) (ls : zL) (st : zS) (h : zH), zgo k (zpure (.fstore_n 0) nx tg aux ls st h) = zgo k (zsto 2 0 nx ls st h)) ∧
  (∀ (k nx tg : Nat) (aux : List Nat) (ls : zL) (st : zS) (h : zH), zgo k (zpure (.fstore_n 1) nx tg aux ls st h) = zgo k (zsto 2 1 nx ls st h)) ∧
  (∀ (k nx tg : Nat) (aux : List Nat) (ls : zL) (st : zS) (h : zH), zgo k (zpure (.fstore_n 2) nx tg aux ls st h) = zgo k (zsto 2 2 nx ls st h)) ∧
  (∀ (k nx tg : Nat) (aux : List Nat) (ls : zL) (st : zS) (h : zH), zgo k (zpure (.fstore_n 3) nx tg aux ls st h) = zgo k (zsto 2 3 nx ls st h)) ∧
  (∀ (k nx tg : Nat) (aux : List Nat) (ls : zL) (st : zS) (h : zH) (n : Nat), zgo k (zpure (.astore n) nx tg aux ls st h) = zgo k (zsto 4 n nx ls st h)) ∧
  (∀ (k nx tg : Nat) (aux : List Nat) (ls : zL) (st : zS) (h : zH), zgo k (zpure (.astore_n 0) nx tg aux ls st h) = zgo k (zsto 4 0 nx ls st h)) ∧
  (∀ (k nx tg : Nat) (aux : List Nat) (ls : zL) (st : zS) (h : zH), zgo k (zpure (.astore_n 1) nx tg aux ls st h) = zgo k (zsto 4 1 nx ls st h)) ∧
  (∀ (k nx tg : Nat) (aux : List Nat) (ls : zL) (st : zS) (h : zH), zgo k (zpure (.astore_n 2) nx tg aux ls st h) = zgo k (zsto 4 2 nx ls st h)) ∧
  (∀ (k nx tg : Nat) (aux : List Nat) (ls : zL) (st : zS) (h : zH), zgo k (zpure (.astore_n 3) nx tg aux ls st h) = zgo k (zsto 4 3 nx ls st h)) := by
  refine ⟨?_, ?_, ?_, ?_, ?_, ?_, ?_, ?_, ?_, ?_, ?_, ?_, ?_, ?_, ?_, ?_, ?_, ?_, ?_, ?_, ?_, ?_, ?_, ?_, ?_, ?_, ?_, ?_, ?_, ?_, ?_, ?_, ?_, ?_, ?_⟩
  · intros; rfl
  · intros; rfl
  · intros; rfl
  · intros; rfl
  · intros; rfl
  · intros; rfl
  · intros; rfl
  · intros; rfl
  · intros; rfl
  · intros; rfl
  · intros; rfl
  · intros; rfl
  · intros; rfl
  · intros; rfl
  · intros; rfl
  · intros; rfl
  · intros; rfl
  · intros; rfl
  · intros; rfl
  · intros; rfl
  · intros; rfl
  · intros; rfl
  · intros; rfl
  · intros; rfl
  · intros; rfl
  · intros; rfl
  · intros; rfl
  · intros; rfl
  · intros; rfl
  · intros; rfl
  · intros; rfl
  · intros; rfl
  · intros; rfl
  · intros; rfl
  · intros; rfl
set_option maxRecDepth 20000 in
theorem zs1 :
  (∀ (k nx tg : Nat) (aux : List Nat) (ls : zL) (st : zS) (h : zH) (n : Nat), zgo k (zpure (.lstore n) nx tg aux ls st h) = zgo k (zsto2 1 n nx ls st h)) ∧
  (∀ (k nx tg : Nat) (aux : List Nat) (ls : zL) (st : zS) (h : zH), zgo k (zpure (.lstore_n 0) nx tg aux ls st h) = zgo k (zsto2 1 0 nx ls st h)) ∧
  (∀ (k nx tg : Nat) (aux : List Nat) (ls : zL) (st : zS) (h : zH), zgo k (zpure (.lstore_n 1) nx tg aux ls st h) = zgo k (zsto2 1 1 nx ls st h)) ∧
  (∀ (k nx tg : Nat) (aux : List Nat) (ls : zL) (st : zS) (h : zH), zgo k (zpure (.lstore_n 2) nx tg aux ls st h) = zgo k (zsto2 1 2 nx ls st h)) ∧
  (∀ (k nx tg : Nat) (aux : List Nat) (ls : zL) (st : zS) (h : zH), zgo k (zpure (.lstore_n 3) nx tg aux ls st h) = zgo k (zsto2 1 3 nx ls st h)) ∧
  (∀ (k nx tg : Nat) (aux : List Nat) (ls : zL) (st : zS) (h : zH), zgo k (zpure .aconst_null nx tg aux ls st h) = zx k nx ls (.null :: st) h) ∧
  (∀ (k nx tg : Nat) (aux : List Nat) (ls : zL) (st : zS) (h : zH) (n : Int), zgo k (zpure (.iconst n) nx tg aux ls st h) = zx k nx ls (.int (Int32.ofInt n) :: st) h) ∧
  (∀ (k nx tg : Nat) (aux : List Nat) (ls : zL) (st : zS) (h : zH) (n : Int), zgo k (zpure (.bipush n) nx tg aux ls st h) = zx k nx ls (.int (Int32.ofInt n) :: st) h) ∧
  (∀ (k nx tg : Nat) (aux : List Nat) (ls : zL) (st : zS) (h : zH) (n : Int), zgo k (zpure (.sipush n) nx tg aux ls st h) = zx k nx ls (.int (Int32.ofInt n) :: st) h) ∧
  (∀ (k nx tg : Nat) (aux : List Nat) (ls : zL) (st : zS) (h : zH), zgo k (zpure (.lconst 0) nx tg aux ls st h) = zx k nx ls (.long 0 :: st) h) ∧
  (∀ (k nx tg : Nat) (aux : List Nat) (ls : zL) (st : zS) (h : zH), zgo k (zpure (.lconst 1) nx tg aux ls st h) = zx k nx ls (.long 1 :: st) h) ∧
  (∀ (k nx tg : Nat) (aux : List Nat) (ls : zL) (st : zS) (h : zH), zgo k (zpure (.fconst 0) nx tg aux ls st h) = zx k nx ls (.float FP.fconst0 :: st) h) ∧
  (∀ (k nx tg : Nat) (aux : List Nat) (ls : zL) (st : zS) (h : zH), zgo k (zpure (.fconst 1) nx tg aux ls st h) = zx k nx ls (.float FP.fconst1 :: st) h) ∧
  (∀ (k nx tg : Nat) (aux : List Nat) (ls : zL) (st : zS) (h : zH), zgo k (zpure (.fconst 2) nx tg aux ls st h) = zx k nx ls (.float FP.fconst2 :: st) h) ∧
  (∀ (k nx tg : Nat) (ls : zL) (st : zS) (h : zH) (n v : Nat), zgo k (zpure (.ldc n) nx tg [0, v] ls st h) = zx k nx ls (.int (Int32.ofNat v) :: st) h) ∧
  (∀ (k nx tg : Nat) (ls : zL) (st : zS) (h : zH) (n v : Nat), zgo k (zpure (.ldc n) nx tg [1, v] ls st h) = zx k nx ls (.float (UInt32.ofNat v) :: st) h) ∧
  (∀ (k nx tg : Nat) (ls : zL) (st : zS) (h : zH) (n v : Nat), zgo k (zpure (.ldc n) nx tg [2, v] ls st h) = zx k nx ls (.ref 2 :: st) h) ∧
  (∀ (k nx tg : Nat) (ls : zL) (st : zS) (h : zH) (n v : Nat), zgo k (zpure (.ldc_w n) nx tg [0, v] ls st h) = zx k nx ls (.int (Int32.ofNat v) :: st) h) ∧
  (∀ (k nx tg : Nat) (ls : zL) (st : zS) (h : zH) (n v : Nat), zgo k (zpure (.ldc_w n) nx tg [1, v] ls st h) = zx k nx ls (.float (UInt32.ofNat v) :: st) h) ∧
  (∀ (k nx tg : Nat) (aux : List Nat) (ls : zL) (st : zS) (h : zH) (x y : Int32), zgo k (zpure .iadd nx tg aux ls (.int y :: .int x :: st) h) = zx k nx ls (.int (x + y) :: st) h) ∧
  (∀ (k nx tg : Nat) (aux : List Nat) (ls : zL) (st : zS) (h : zH) (x y : Int32), zgo k (zpure .isub nx tg aux ls (.int y :: .int x :: st) h) = zx k nx ls (.int (x - y) :: st) h) ∧
  (∀ (k nx tg : Nat) (aux : List Nat) (ls : zL) (st : zS) (h : zH) (x y : Int32), zgo k (zpure .imul nx tg aux ls (.int y :: .int x :: st) h) = zx k nx ls (.int (x * y) :: st) h) ∧
  (∀ (k nx tg : Nat) (aux : List Nat) (ls : zL) (st : zS) (h : zH) (x y : Int32), zgo k (zpure .iand nx tg aux ls (.int y :: .int x :: st) h) = zx k nx ls (.int (x &&& y) :: st) h) ∧
  (∀ (k nx tg : Nat) (aux : List Nat) (ls : zL) (st : zS) (h : zH) (x y : Int32), zgo k (zpure .ior nx tg aux ls (.int y :: .int x :: st) h) = zx k nx ls (.int (x ||| y) :: st) h) ∧
  (∀ (k nx tg : Nat) (aux : List Nat) (ls : zL) (st : zS) (h : zH) (x y : Int32), zgo k (zpure .ixor nx tg aux ls (.int y :: .int x :: st) h) = zx k nx ls (.int (x ^^^ y) :: st) h) ∧
  (∀ (k nx tg : Nat) (aux : List Nat) (ls : zL) (st : zS) (h : zH) (x y : Int32), zgo k (zpure .ishl nx tg aux ls (.int y :: .int x :: st) h) = zx k nx ls (.int (x <<< (y &&& 31)) :: st) h) ∧
  (∀ (k nx tg : Nat) (aux : List Nat) (ls : zL) (st : zS) (h : zH) (x y : Int32), zgo k (zpure .ishr nx tg aux ls (.int y :: .int x :: st) h) = zx k nx ls (.int (x >>> (y &&& 31)) :: st) h) ∧
  (∀ (k nx tg : Nat) (aux : List Nat) (ls : zL) (st : zS) (h : zH) (x y : Int32), zgo k (zpure .iushr nx tg aux ls (.int y :: .int x :: st) h) = zx k nx ls (.int ((x.toUInt32 >>> (y.toUInt32 &&& Int32.toUInt32 31)).toInt32) :: st) h) ∧
  (∀ (k nx tg : Nat) (aux : List Nat) (ls : zL) (st : zS) (h : zH) (x : Int32), zgo k (zpure .ineg nx tg aux ls (.int x :: st) h) = zx k nx ls (.int (-x) :: st) h) ∧
  (∀ (k nx tg : Nat) (aux : List Nat) (ls : zL) (st : zS) (h : zH) (x y : Int64), zgo k (zpure .ladd nx tg aux ls (.long y :: .long x :: st) h) = zx k nx ls (.long (x + y) :: st) h) ∧
  (∀ (k nx tg : Nat) (aux : List Nat) (ls : zL) (st : zS) (h : zH) (x y : Int64), zgo k (zpure .lcmp nx tg aux ls (.long y :: .long x :: st) h) = zx k nx ls (.int (if y < x then 1 else if x = y then 0 else -1) :: st) h) ∧
  (∀ (k nx tg : Nat) (aux : List Nat) (ls : zL) (st : zS) (h : zH) (x : Int32), zgo k (zpure .i2l nx tg aux ls (.int x :: st) h) = zx k nx ls (.long (x.toInt64) :: st) h) ∧
  (∀ (k nx tg : Nat) (aux : List Nat) (ls : zL) (st : zS) (h : zH) (x : Int32), zgo k (zpure .i2b nx tg aux ls (.int x :: st) h) = zx k nx ls (.int (zbyte x) :: st) h) ∧
  (∀ (k nx tg : Nat) (aux : List Nat) (ls : zL) (st : zS) (h : zH) (x : Int32), zgo k (zpure .i2c nx tg aux ls (.int x :: st) h) = zx k nx ls (.int (zchar x) :: st) h) ∧
  (∀ (k nx tg : Nat) (aux : List Nat) (ls : zL) (st : zS) (h : zH) (x : Int32), zgo k (zpure .i2f nx tg aux ls (.int x :: st) h) = zx k nx ls (.float (FP.i2f x) :: st) h) := by
  refine ⟨?_, ?_, ?_, ?_, ?_, ?_, ?_, ?_, ?_, ?_, ?_, ?_, ?_, ?_, ?_, ?_, ?_, ?_, ?_, ?_, ?_, ?_, ?_, ?_, ?_, ?_, ?_, ?_, ?_, ?_, ?_, ?_, ?_, ?_, ?_⟩
  · intros; rfl
  · intros; rfl
  · intros; rfl
  · intros; rfl
  · intros; rfl
  · intros; rfl
  · intros; rfl
  · intros; rfl
  · intros; rfl
  · intros; rfl
  · intros; rfl
  · intros; rfl
  · intros; rfl
  · intros; rfl
  · intros; rfl
  · intros; rfl
  · intros; rfl
  · intros; rfl
  · intros; rfl
  · intros; rfl
  · intros; rfl
  · intros; rfl
  · intros; rfl
  · intros; rfl
  · intros; rfl
  · intros; rfl
  · intros; rfl
  · intros; rfl
  · intros; rfl
  · intros; rfl
  · intros; first | rfl | (simp only [zpure, zat, zgo_if, zgo_some, zgo_none]; done) | (simp [zpure, zat, zgo_if, zgo_some, zgo_none]; done) | (simp only [zpure, zgo_if, zgo_some, zgo_none, zka, zkt, zdef]; rfl) | (simp [zpure, zgo_if, zgo_some, zgo_none, zka, zkt, zdef]; done)
  · intros; rfl
  · intros; rfl
  · intros; rfl
  · intros; rfl
set_option maxRecDepth 20000 in
theorem zs2 :
  (∀ (k nx tg : Nat) (aux : List Nat) (ls : zL) (st : zS) (h : zH) (x : UInt32), zgo k (zpure .f2i nx tg aux ls (.float x :: st) h) = zx k nx ls (.int (FP.f2i x) :: st) h) ∧
  (∀ (k nx tg : Nat) (aux : List Nat) (ls : zL) (st : zS) (h : zH) (x : UInt32), zgo k (zpure .fneg nx tg aux ls (.float x :: st) h) = zx k nx ls (.float (FP.fneg x) :: st) h) ∧
  (∀ (k nx tg : Nat) (aux : List Nat) (ls : zL) (st : zS) (h : zH) (x y : UInt32) (op : CmpOp), zgo k (zpure (.fcmp op) nx tg aux ls (.float y :: .float x :: st) h) = zx k nx ls (.int (Op.cmpValue (FP.fcmp x y) op) :: st) h) ∧
  (∀ (k nx tg : Nat) (aux : List Nat) (ls : zL) (st : zS) (h : zH) (x y : UInt64) (op : CmpOp), zgo k (zpure (.dcmp op) nx tg aux ls (.double y :: .double x :: st) h) = zx k nx ls (.int (Op.cmpValue (FP.dcmp x y) op) :: st) h) ∧
  (∀ (k nx tg : Nat) (aux : List Nat) (ls : zL) (st : zS) (h : zH) (v : Int32), zgo k (zpure .pop nx tg aux ls (.int v :: st) h) = zx k nx ls st h) ∧
  (∀ (k nx tg : Nat) (aux : List Nat) (ls : zL) (st : zS) (h : zH) (v : Int32), zgo k (zpure .dup nx tg aux ls (.int v :: st) h) = zx k nx ls (.int v :: .int v :: st) h) ∧
  (∀ (k nx tg : Nat) (aux : List Nat) (ls : zL) (st : zS) (h : zH) (v : Int32) (w : Int32), zgo k (zpure .dup_x1 nx tg aux ls (.int v :: .int w :: st) h) = zx k nx ls (.int v :: .int w :: .int v :: st) h) ∧
  (∀ (k nx tg : Nat) (aux : List Nat) (ls : zL) (st : zS) (h : zH) (v : Int32) (w : UInt32), zgo k (zpure .dup_x1 nx tg aux ls (.int v :: .float w :: st) h) = zx k nx ls (.int v :: .float w :: .int v :: st) h) ∧
  (∀ (k nx tg : Nat) (aux : List Nat) (ls : zL) (st : zS) (h : zH) (v : Int32) (w : Nat), zgo k (zpure .dup_x1 nx tg aux ls (.int v :: .ref w :: st) h) = zx k nx ls (.int v :: .ref w :: .int v :: st) h) ∧
  (∀ (k nx tg : Nat) (aux : List Nat) (ls : zL) (st : zS) (h : zH) (v : UInt32), zgo k (zpure .pop nx tg aux ls (.float v :: st) h) = zx k nx ls st h) ∧
  (∀ (k nx tg : Nat) (aux : List Nat) (ls : zL) (st : zS) (h : zH) (v : UInt32), zgo k (zpure .dup nx tg aux ls (.float v :: st) h) = zx k nx ls (.float v :: .float v :: st) h) ∧
  (∀ (k nx tg : Nat) (aux : List Nat) (ls : zL) (st : zS) (h : zH) (v : UInt32) (w : Int32), zgo k (zpure .dup_x1 nx tg aux ls (.float v :: .int w :: st) h) = zx k nx ls (.float v :: .int w :: .float v :: st) h) ∧
  (∀ (k nx tg : Nat) (aux : List Nat) (ls : zL) (st : zS) (h : zH) (v : UInt32) (w : UInt32), zgo k (zpure .dup_x1 nx tg aux ls (.float v :: .float w :: st) h) = zx k nx ls (.float v :: .float w :: .float v :: st) h) ∧
  (∀ (k nx tg : Nat) (aux : List Nat) (ls : zL) (st : zS) (h : zH) (v : UInt32) (w : Nat), zgo k (zpure .dup_x1 nx tg aux ls (.float v :: .ref w :: st) h) = zx k nx ls (.float v :: .ref w :: .float v :: st) h) ∧
  (∀ (k nx tg : Nat) (aux : List Nat) (ls : zL) (st : zS) (h : zH) (v : Nat), zgo k (zpure .pop nx tg aux ls (.ref v :: st) h) = zx k nx ls st h) ∧
  (∀ (k nx tg : Nat) (aux : List Nat) (ls : zL) (st : zS) (h : zH) (v : Nat), zgo k (zpure .dup nx tg aux ls (.ref v :: st) h) = zx k nx ls (.ref v :: .ref v :: st) h) ∧
  (∀ (k nx tg : Nat) (aux : List Nat) (ls : zL) (st : zS) (h : zH) (v : Nat) (w : Int32), zgo k (zpure .dup_x1 nx tg aux ls (.ref v :: .int w :: st) h) = zx k nx ls (.ref v :: .int w :: .ref v :: st) h) ∧
  (∀ (k nx tg : Nat) (aux : List Nat) (ls : zL) (st : zS) (h : zH) (v : Nat) (w : UInt32), zgo k (zpure .dup_x1 nx tg aux ls (.ref v :: .float w :: st) h) = zx k nx ls (.ref v :: .float w :: .ref v :: st) h) ∧
  (∀ (k nx tg : Nat) (aux : List Nat) (ls : zL) (st : zS) (h : zH) (v : Nat) (w : Nat), zgo k (zpure .dup_x1 nx tg aux ls (.ref v :: .ref w :: st) h) = zx k nx ls (.ref v :: .ref w :: .ref v :: st) h) ∧
  (∀ (k nx tg : Nat) (aux : List Nat) (ls : zL) (st : zS) (h : zH) (v : Int32) (w : Nat), zgo k (zpure .dup2 nx tg aux ls (.int v :: .ref w :: st) h) = zx k nx ls (.int v :: .ref w :: .int v :: .ref w :: st) h) ∧
  (∀ (k nx tg : Nat) (aux : List Nat) (ls : zL) (st : zS) (h : zH) (o : Int), zgo k (zpure (.goto o) nx tg aux ls st h) = zx k tg ls st h) ∧
  (∀ (k nx tg : Nat) (aux : List Nat) (ls : zL) (st : zS) (h : zH) (o : Int) (x : Int32), zgo k (zpure (.ifCond .eq o) nx tg aux ls (.int x :: st) h) = if x.toInt = 0 then zx k tg ls st h else zx k nx ls st h) ∧
  (∀ (k nx tg : Nat) (aux : List Nat) (ls : zL) (st : zS) (h : zH) (o : Int) (x y : Int32), zgo k (zpure (.if_icmp .eq o) nx tg aux ls (.int y :: .int x :: st) h) = if x.toInt = y.toInt then zx k tg ls st h else zx k nx ls st h) ∧
  (∀ (k nx tg : Nat) (aux : List Nat) (ls : zL) (st : zS) (h : zH) (o : Int) (x : Int32), zgo k (zpure (.ifCond .ne o) nx tg aux ls (.int x :: st) h) = if x.toInt = 0 then zx k nx ls st h else zx k tg ls st h) ∧
  (∀ (k nx tg : Nat) (aux : List Nat) (ls : zL) (st : zS) (h : zH) (o : Int) (x y : Int32), zgo k (zpure (.if_icmp .ne o) nx tg aux ls (.int y :: .int x :: st) h) = if x.toInt = y.toInt then zx k nx ls st h else zx k tg ls st h) ∧
  (∀ (k nx tg : Nat) (aux : List Nat) (ls : zL) (st : zS) (h : zH) (o : Int) (x : Int32), zgo k (zpure (.ifCond .lt o) nx tg aux ls (.int x :: st) h) = if x.toInt < 0 then zx k tg ls st h else zx k nx ls st h) ∧
  (∀ (k nx tg : Nat) (aux : List Nat) (ls : zL) (st : zS) (h : zH) (o : Int) (x y : Int32), zgo k (zpure (.if_icmp .lt o) nx tg aux ls (.int y :: .int x :: st) h) = if x.toInt < y.toInt then zx k tg ls st h else zx k nx ls st h) ∧
  (∀ (k nx tg : Nat) (aux : List Nat) (ls : zL) (st : zS) (h : zH) (o : Int) (x : Int32), zgo k (zpure (.ifCond .ge o) nx tg aux ls (.int x :: st) h) = if x.toInt < 0 then zx k nx ls st h else zx k tg ls st h) ∧
  (∀ (k nx tg : Nat) (aux : List Nat) (ls : zL) (st : zS) (h : zH) (o : Int) (x y : Int32), zgo k (zpure (.if_icmp .ge o) nx tg aux ls (.int y :: .int x :: st) h) = if x.toInt < y.toInt then zx k nx ls st h else zx k tg ls st h) ∧
  (∀ (k nx tg : Nat) (aux : List Nat) (ls : zL) (st : zS) (h : zH) (o : Int) (x : Int32), zgo k (zpure (.ifCond .gt o) nx tg aux ls (.int x :: st) h) = if 0 < x.toInt then zx k tg ls st h else zx k nx ls st h) ∧
  (∀ (k nx tg : Nat) (aux : List Nat) (ls : zL) (st : zS) (h : zH) (o : Int) (x y : Int32), zgo k (zpure (.if_icmp .gt o) nx tg aux ls (.int y :: .int x :: st) h) = if y.toInt < x.toInt then zx k tg ls st h else zx k nx ls st h) ∧
  (∀ (k nx tg : Nat) (aux : List Nat) (ls : zL) (st : zS) (h : zH) (o : Int) (x : Int32), zgo k (zpure (.ifCond .le o) nx tg aux ls (.int x :: st) h) = if 0 < x.toInt then zx k nx ls st h else zx k tg ls st h) ∧
  (∀ (k nx tg : Nat) (aux : List Nat) (ls : zL) (st : zS) (h : zH) (o : Int) (x y : Int32), zgo k (zpure (.if_icmp .le o) nx tg aux ls (.int y :: .int x :: st) h) = if y.toInt < x.toInt then zx k nx ls st h else zx k tg ls st h) ∧
  (∀ (k nx tg : Nat) (aux : List Nat) (ls : zL) (st : zS) (h : zH) (o : Int) (x y : Nat), zgo k (zpure (.if_acmp .eq o) nx tg aux ls (.ref y :: .ref x :: st) h) = if x = y then zx k tg ls st h else if zapt x y then zx k nx ls st h else none) ∧
  (∀ (k nx tg : Nat) (aux : List Nat) (ls : zL) (st : zS) (h : zH) (o : Int) (x y : Nat), zgo k (zpure (.if_acmp .ne o) nx tg aux ls (.ref y :: .ref x :: st) h) = if x = y then zx k nx ls st h else if zapt x y then zx k tg ls st h else none) := by
  refine ⟨?_, ?_, ?_, ?_, ?_, ?_, ?_, ?_, ?_, ?_, ?_, ?_, ?_, ?_, ?_, ?_, ?_, ?_, ?_, ?_, ?_, ?_, ?_, ?_, ?_, ?_, ?_, ?_, ?_, ?_, ?_, ?_, ?_, ?_, ?_⟩
  · intros; rfl
  · intros; rfl
  · intros; rfl
  · intros; rfl
  · intros; rfl
  · intros; rfl
  · intros; rfl
  · intros; rfl
  · intros; rfl
  · intros; rfl
  · intros; rfl
  · intros; rfl
  · intros; rfl
  · intros; rfl
  · intros; rfl
  · intros; rfl
  · intros; rfl
  · intros; rfl
  · intros; rfl
  · intros; rfl
  · intros; rfl
  · intros; first | rfl | (simp only [zpure, zat, zgo_if, zgo_some, zgo_none]; done) | (simp [zpure, zat, zgo_if, zgo_some, zgo_none]; done) | (simp only [zpure, zgo_if, zgo_some, zgo_none, zka, zkt, zdef]; rfl) | (simp [zpure, zgo_if, zgo_some, zgo_none, zka, zkt, zdef]; done)
  · intros; first | rfl | (simp only [zpure, zat, zgo_if, zgo_some, zgo_none]; done) | (simp [zpure, zat, zgo_if, zgo_some, zgo_none]; done) | (simp only [zpure, zgo_if, zgo_some, zgo_none, zka, zkt, zdef]; rfl) | (simp [zpure, zgo_if, zgo_some, zgo_none, zka, zkt, zdef]; done)
  · intros; first | rfl | (simp only [zpure, zat, zgo_if, zgo_some, zgo_none]; done) | (simp [zpure, zat, zgo_if, zgo_some, zgo_none]; done) | (simp only [zpure, zgo_if, zgo_some, zgo_none, zka, zkt, zdef]; rfl) | (simp [zpure, zgo_if, zgo_some, zgo_none, zka, zkt, zdef]; done)
  · intros; first | rfl | (simp only [zpure, zat, zgo_if, zgo_some, zgo_none]; done) | (simp [zpure, zat, zgo_if, zgo_some, zgo_none]; done) | (simp only [zpure, zgo_if, zgo_some, zgo_none, zka, zkt, zdef]; rfl) | (simp [zpure, zgo_if, zgo_some, zgo_none, zka, zkt, zdef]; done)
  · intros; first | rfl | (simp only [zpure, zat, zgo_if, zgo_some, zgo_none]; done) | (simp [zpure, zat, zgo_if, zgo_some, zgo_none]; done) | (simp only [zpure, zgo_if, zgo_some, zgo_none, zka, zkt, zdef]; rfl) | (simp [zpure, zgo_if, zgo_some, zgo_none, zka, zkt, zdef]; done)
  · intros; first | rfl | (simp only [zpure, zat, zgo_if, zgo_some, zgo_none]; done) | (simp [zpure, zat, zgo_if, zgo_some, zgo_none]; done) | (simp only [zpure, zgo_if, zgo_some, zgo_none, zka, zkt, zdef]; rfl) | (simp [zpure, zgo_if, zgo_some, zgo_none, zka, zkt, zdef]; done)
  · intros; first | rfl | (simp only [zpure, zat, zgo_if, zgo_some, zgo_none]; done) | (simp [zpure, zat, zgo_if, zgo_some, zgo_none]; done) | (simp only [zpure, zgo_if, zgo_some, zgo_none, zka, zkt, zdef]; rfl) | (simp [zpure, zgo_if, zgo_some, zgo_none, zka, zkt, zdef]; done)
  · intros; first | rfl | (simp only [zpure, zat, zgo_if, zgo_some, zgo_none]; done) | (simp [zpure, zat, zgo_if, zgo_some, zgo_none]; done) | (simp only [zpure, zgo_if, zgo_some, zgo_none, zka, zkt, zdef]; rfl) | (simp [zpure, zgo_if, zgo_some, zgo_none, zka, zkt, zdef]; done)
  · intros; first | rfl | (simp only [zpure, zat, zgo_if, zgo_some, zgo_none]; done) | (simp [zpure, zat, zgo_if, zgo_some, zgo_none]; done) | (simp only [zpure, zgo_if, zgo_some, zgo_none, zka, zkt, zdef]; rfl) | (simp [zpure, zgo_if, zgo_some, zgo_none, zka, zkt, zdef]; done)
  · intros; first | rfl | (simp only [zpure, zat, zgo_if, zgo_some, zgo_none]; done) | (simp [zpure, zat, zgo_if, zgo_some, zgo_none]; done) | (simp only [zpure, zgo_if, zgo_some, zgo_none, zka, zkt, zdef]; rfl) | (simp [zpure, zgo_if, zgo_some, zgo_none, zka, zkt, zdef]; done)
  · intros; first | rfl | (simp only [zpure, zat, zgo_if, zgo_some, zgo_none]; done) | (simp [zpure, zat, zgo_if, zgo_some, zgo_none]; done) | (simp only [zpure, zgo_if, zgo_some, zgo_none, zka, zkt, zdef]; rfl) | (simp [zpure, zgo_if, zgo_some, zgo_none, zka, zkt, zdef]; done)
  · intros; first | rfl | (simp only [zpure, zat, zgo_if, zgo_some, zgo_none]; done) | (simp [zpure, zat, zgo_if, zgo_some, zgo_none]; done) | (simp only [zpure, zgo_if, zgo_some, zgo_none, zka, zkt, zdef]; rfl) | (simp [zpure, zgo_if, zgo_some, zgo_none, zka, zkt, zdef]; done)
  · intros; first | rfl | (simp only [zpure, zat, zgo_if, zgo_some, zgo_none]; done) | (simp [zpure, zat, zgo_if, zgo_some, zgo_none]; done) | (simp only [zpure, zgo_if, zgo_some, zgo_none, zka, zkt, zdef]; rfl) | (simp [zpure, zgo_if, zgo_some, zgo_none, zka, zkt, zdef]; done)
  · intros; first | rfl | (simp only [zpure, zat, zgo_if, zgo_some, zgo_none]; done) | (simp [zpure, zat, zgo_if, zgo_some, zgo_none]; done) | (simp only [zpure, zgo_if, zgo_some, zgo_none, zka, zkt, zdef]; rfl) | (simp [zpure, zgo_if, zgo_some, zgo_none, zka, zkt, zdef]; done)
set_option maxRecDepth 20000 in
theorem zs3 :
  (∀ (k nx tg : Nat) (ls : zL) (st : zS) (h : zH) (n ci f a : Nat), zgo k (zpure (.getfield n) nx tg [ci, f] ls (.ref a :: st) h) = if zk h a = ci then zx k nx ls (zm h a f :: st) h else none) ∧
  (∀ (k nx tg : Nat) (ls : zL) (st : zS) (h : zH) (n ci f t a : Nat) (v : Value), zgo k (zpure (.putfield n) nx tg [ci, f, t] ls (v :: .ref a :: st) h) = if zk h a = ci ∧ zfit t v = true then zx k nx ls st (zput h a f v) else none) ∧
  (∀ (k nx tg : Nat) (ls : zL) (st : zS) (h : zH) (n : Nat), zgo k (zpure (.getstatic n) nx tg [1] ls st h) = zx k nx ls (.ref 1 :: st) h) ∧
  (∀ (k nx tg : Nat) (ls : zL) (st : zS) (h : zH) (n ci m : Nat), zgo k (zpure (.new n) nx tg [ci, m] ls st h) = zx k nx ls (.ref (zn h) :: st) (znew h ci m (fun k => zdef (zty ci k)))) ∧
  (∀ (k nx tg : Nat) (aux : List Nat) (ls : zL) (st : zS) (h : zH) (n : Nat) (x : Int32), zgo k (zpure (.anewarray n) nx tg aux ls (.int x :: st) h) = if 0 ≤ x.toInt ∧ x.toInt ≤ 67108864 then zx k nx ls (.ref (zn h) :: st) (znew h 26 x.toInt.toNat (fun _ => .null)) else none) ∧
  (∀ (k nx tg : Nat) (aux : List Nat) (ls : zL) (st : zS) (h : zH) (x : Int32), zgo k (zpure (.newarray .int) nx tg aux ls (.int x :: st) h) = if 0 ≤ x.toInt ∧ x.toInt ≤ 67108864 then zx k nx ls (.ref (zn h) :: st) (znew h 20 x.toInt.toNat (fun _ => .int 0)) else none) ∧
  (∀ (k nx tg : Nat) (aux : List Nat) (ls : zL) (st : zS) (h : zH) (x : Int32), zgo k (zpure (.newarray .byte) nx tg aux ls (.int x :: st) h) = if 0 ≤ x.toInt ∧ x.toInt ≤ 67108864 then zx k nx ls (.ref (zn h) :: st) (znew h 21 x.toInt.toNat (fun _ => .int 0)) else none) ∧
  (∀ (k nx tg : Nat) (aux : List Nat) (ls : zL) (st : zS) (h : zH) (x : Int32), zgo k (zpure (.newarray .char) nx tg aux ls (.int x :: st) h) = if 0 ≤ x.toInt ∧ x.toInt ≤ 67108864 then zx k nx ls (.ref (zn h) :: st) (znew h 22 x.toInt.toNat (fun _ => .int 0)) else none) ∧
  (∀ (k nx tg : Nat) (aux : List Nat) (ls : zL) (st : zS) (h : zH) (x : Int32), zgo k (zpure (.newarray .boolean) nx tg aux ls (.int x :: st) h) = if 0 ≤ x.toInt ∧ x.toInt ≤ 67108864 then zx k nx ls (.ref (zn h) :: st) (znew h 23 x.toInt.toNat (fun _ => .int 0)) else none) ∧
  (∀ (k nx tg : Nat) (aux : List Nat) (ls : zL) (st : zS) (h : zH) (x : Int32), zgo k (zpure (.newarray .long) nx tg aux ls (.int x :: st) h) = if 0 ≤ x.toInt ∧ x.toInt ≤ 67108864 then zx k nx ls (.ref (zn h) :: st) (znew h 24 x.toInt.toNat (fun _ => .long 0)) else none) ∧
  (∀ (k nx tg : Nat) (aux : List Nat) (ls : zL) (st : zS) (h : zH) (x : Int32), zgo k (zpure (.newarray .double) nx tg aux ls (.int x :: st) h) = if 0 ≤ x.toInt ∧ x.toInt ≤ 67108864 then zx k nx ls (.ref (zn h) :: st) (znew h 25 x.toInt.toNat (fun _ => .double 0)) else none) ∧
  (∀ (k nx tg : Nat) (aux : List Nat) (ls : zL) (st : zS) (h : zH) (a : Nat), zgo k (zpure .arraylength nx tg aux ls (.ref a :: st) h) = if 20 ≤ zk h a then (if zk h a < 40 then zx k nx ls (.int (Int32.ofNat (zl h a)) :: st) h else none) else none) ∧
  (∀ (k nx tg : Nat) (aux : List Nat) (ls : zL) (st : zS) (h : zH) (i : Int32) (a : Nat), zgo k (zpure .iaload nx tg aux ls (.int i :: .ref (a + 1) :: st) h) = zgo k (zald 20 0 nx ls (.int i :: .ref (a + 1) :: st) h)) ∧
  (∀ (k nx tg : Nat) (aux : List Nat) (ls : zL) (st : zS) (h : zH), zgo k (zpure .caload nx tg aux ls st h) = zgo k (zald 22 0 nx ls st h)) ∧
  (∀ (k nx tg : Nat) (aux : List Nat) (ls : zL) (st : zS) (h : zH), zgo k (zpure .laload nx tg aux ls st h) = zgo k (zald 24 1 nx ls st h)) ∧
  (∀ (k nx tg : Nat) (aux : List Nat) (ls : zL) (st : zS) (h : zH), zgo k (zpure .daload nx tg aux ls st h) = zgo k (zald 25 3 nx ls st h)) ∧
  (∀ (k nx tg : Nat) (aux : List Nat) (ls : zL) (st : zS) (h : zH) (i : Int32) (a : Nat), zgo k (zpure .baload nx tg aux ls (.int i :: .ref a :: st) h) = if zk h a = 23 then zgo k (zald 23 0 nx ls (.int i :: .ref a :: st) h) else zgo k (zald 21 0 nx ls (.int i :: .ref a :: st) h)) ∧
  (∀ (k nx tg : Nat) (aux : List Nat) (ls : zL) (st : zS) (h : zH) (i : Int32) (a : Nat), zgo k (zpure .aaload nx tg aux ls (.int i :: .ref a :: st) h) = if zk h a = 26 ∨ zk h a = 27 ∨ zk h a = 28 then zgo k (zald (zk h a) 4 nx ls (.int i :: .ref a :: st) h) else none) ∧
  (∀ (k nx tg : Nat) (aux : List Nat) (ls : zL) (st : zS) (h : zH) (x i : Int32) (a : Nat), zgo k (zpure .iastore nx tg aux ls (.int x :: .int i :: .ref a :: st) h) = zgo k (zast 20 nx (.int x) i a ls st h)) ∧
  (∀ (k nx tg : Nat) (aux : List Nat) (ls : zL) (st : zS) (h : zH) (x i : Int32) (a : Nat), zgo k (zpure .castore nx tg aux ls (.int x :: .int i :: .ref a :: st) h) = zgo k (zast 22 nx (.int (zchar x)) i a ls st h)) ∧
  (∀ (k nx tg : Nat) (aux : List Nat) (ls : zL) (st : zS) (h : zH) (x : Int64) (i : Int32) (a : Nat), zgo k (zpure .lastore nx tg aux ls (.long x :: .int i :: .ref a :: st) h) = zgo k (zast 24 nx (.long x) i a ls st h)) ∧
  (∀ (k nx tg : Nat) (aux : List Nat) (ls : zL) (st : zS) (h : zH) (x : UInt64) (i : Int32) (a : Nat), zgo k (zpure .dastore nx tg aux ls (.double x :: .int i :: .ref a :: st) h) = zgo k (zast 25 nx (.double x) i a ls st h)) ∧
  (∀ (k nx tg : Nat) (aux : List Nat) (ls : zL) (st : zS) (h : zH) (x i : Int32) (a : Nat), zgo k (zpure .bastore nx tg aux ls (.int x :: .int i :: .ref a :: st) h) = if zk h a = 23 then (if x = 0 ∨ x = 1 then zgo k (zast 23 nx (.int x) i a ls st h) else none) else zgo k (zast 21 nx (.int (zbyte x)) i a ls st h)) ∧
  (∀ (k nx tg : Nat) (aux : List Nat) (ls : zL) (st : zS) (h : zH) (v : Nat) (i : Int32) (a : Nat), zgo k (zpure .aastore nx tg aux ls (.ref v :: .int i :: .ref a :: st) h) = if zk h v < 20 then zgo k (zast 26 nx (.ref v) i a ls st h) else none) ∧
  (∀ (k nx tg : Nat) (aux : List Nat) (ls : zL) (st : zS) (h : zH) (i : Int32) (a : Nat), zgo k (zpure .aastore nx tg aux ls (.null :: .int i :: .ref a :: st) h) = zgo k (zast 26 nx .null i a ls st h)) ∧
  (∀ (k nx tg : Nat) (ls : zL) (st : zS) (h : zH) (n ci a : Nat), zgo k (zpure (.checkcast n) nx tg [ci] ls (.ref a :: st) h) = if zk h a = ci then zx k nx ls (.ref a :: st) h else none) ∧
  (∀ (k nx tg : Nat) (ls : zL) (st : zS) (h : zH) (n a : Nat), zgo k (zpure (.invokespecial n) nx tg [] ls (.ref a :: st) h) = if st.length ≤ 4 then zx k nx ls st h else none) ∧
  (∀ (k nx tg : Nat) (aux : List Nat) (ls : zL) (st : zS) (h : zH) (n : Nat), zgo k (zpure (.invokestatic n) nx tg aux ls st h) = zgo k (zint aux nx ls st h)) ∧
  (∀ (k nx tg : Nat) (aux : List Nat) (ls : zL) (st : zS) (h : zH) (n : Nat), zgo k (zpure (.invokevirtual n) nx tg aux ls st h) = zgo k (zinv aux nx ls st h)) ∧
  (∀ (k nx tg : Nat) (aux : List Nat) (ls : zL) (st : zS) (h : zH) (x y : UInt32), zgo k (zpure .fadd nx tg aux ls (.float y :: .float x :: st) h) = if zn32 (FP.fadd x y) then zx k nx ls (.float (FP.fadd x y) :: st) h else none) ∧
  (∀ (k nx tg : Nat) (aux : List Nat) (ls : zL) (st : zS) (h : zH) (x y : UInt32), zgo k (zpure .fsub nx tg aux ls (.float y :: .float x :: st) h) = if zn32 (FP.fsub x y) then zx k nx ls (.float (FP.fsub x y) :: st) h else none) ∧
  (∀ (k nx tg : Nat) (aux : List Nat) (ls : zL) (st : zS) (h : zH) (x y : UInt32), zgo k (zpure .fmul nx tg aux ls (.float y :: .float x :: st) h) = if zn32 (FP.fmul x y) then zx k nx ls (.float (FP.fmul x y) :: st) h else none) ∧
  (∀ (k nx tg : Nat) (aux : List Nat) (ls : zL) (st : zS) (h : zH) (x y : UInt32), zgo k (zpure .fdiv nx tg aux ls (.float y :: .float x :: st) h) = if zn32 (FP.fdiv x y) then zx k nx ls (.float (FP.fdiv x y) :: st) h else none) ∧
  (∀ (k nx tg : Nat) (aux : List Nat) (ls : zL) (st : zS) (h : zH) (x : UInt32), zgo k (zpure .f2d nx tg aux ls (.float x :: st) h) = if zn64 (FP.f2d x) then zx k nx ls (.double (FP.f2d x) :: st) h else none) := by
  refine ⟨?_, ?_, ?_, ?_, ?_, ?_, ?_, ?_, ?_, ?_, ?_, ?_, ?_, ?_, ?_, ?_, ?_, ?_, ?_, ?_, ?_, ?_, ?_, ?_, ?_, ?_, ?_, ?_, ?_, ?_, ?_, ?_, ?_, ?_⟩
  · intros; first | rfl | (simp only [zpure, zat, zgo_if, zgo_some, zgo_none]; done) | (simp [zpure, zat, zgo_if, zgo_some, zgo_none]; done) | (simp only [zpure, zgo_if, zgo_some, zgo_none, zka, zkt, zdef]; rfl) | (simp [zpure, zgo_if, zgo_some, zgo_none, zka, zkt, zdef]; done)
  · intros; first | rfl | (simp only [zpure, zat, zgo_if, zgo_some, zgo_none]; done) | (simp [zpure, zat, zgo_if, zgo_some, zgo_none]; done) | (simp only [zpure, zgo_if, zgo_some, zgo_none, zka, zkt, zdef]; rfl) | (simp [zpure, zgo_if, zgo_some, zgo_none, zka, zkt, zdef]; done)
  · intros; rfl
  · intros; rfl
  · intros; first | rfl | (simp only [zpure, zat, zgo_if, zgo_some, zgo_none]; done) | (simp [zpure, zat, zgo_if, zgo_some, zgo_none]; done) | (simp only [zpure, zgo_if, zgo_some, zgo_none, zka, zkt, zdef]; rfl) | (simp [zpure, zgo_if, zgo_some, zgo_none, zka, zkt, zdef]; done)
  · intros; first | rfl | (simp only [zpure, zat, zgo_if, zgo_some, zgo_none]; done) | (simp [zpure, zat, zgo_if, zgo_some, zgo_none]; done) | (simp only [zpure, zgo_if, zgo_some, zgo_none, zka, zkt, zdef]; rfl) | (simp [zpure, zgo_if, zgo_some, zgo_none, zka, zkt, zdef]; done)
  · intros; first | rfl | (simp only [zpure, zat, zgo_if, zgo_some, zgo_none]; done) | (simp [zpure, zat, zgo_if, zgo_some, zgo_none]; done) | (simp only [zpure, zgo_if, zgo_some, zgo_none, zka, zkt, zdef]; rfl) | (simp [zpure, zgo_if, zgo_some, zgo_none, zka, zkt, zdef]; done)
  · intros; first | rfl | (simp only [zpure, zat, zgo_if, zgo_some, zgo_none]; done) | (simp [zpure, zat, zgo_if, zgo_some, zgo_none]; done) | (simp only [zpure, zgo_if, zgo_some, zgo_none, zka, zkt, zdef]; rfl) | (simp [zpure, zgo_if, zgo_some, zgo_none, zka, zkt, zdef]; done)
  · intros; first | rfl | (simp only [zpure, zat, zgo_if, zgo_some, zgo_none]; done) | (simp [zpure, zat, zgo_if, zgo_some, zgo_none]; done) | (simp only [zpure, zgo_if, zgo_some, zgo_none, zka, zkt, zdef]; rfl) | (simp [zpure, zgo_if, zgo_some, zgo_none, zka, zkt, zdef]; done)
  · intros; first | rfl | (simp only [zpure, zat, zgo_if, zgo_some, zgo_none]; done) | (simp [zpure, zat, zgo_if, zgo_some, zgo_none]; done) | (simp only [zpure, zgo_if, zgo_some, zgo_none, zka, zkt, zdef]; rfl) | (simp [zpure, zgo_if, zgo_some, zgo_none, zka, zkt, zdef]; done)
  · intros; first | rfl | (simp only [zpure, zat, zgo_if, zgo_some, zgo_none]; done) | (simp [zpure, zat, zgo_if, zgo_some, zgo_none]; done) | (simp only [zpure, zgo_if, zgo_some, zgo_none, zka, zkt, zdef]; rfl) | (simp [zpure, zgo_if, zgo_some, zgo_none, zka, zkt, zdef]; done)
  · intros; first | rfl | (simp only [zpure, zat, zgo_if, zgo_some, zgo_none]; done) | (simp [zpure, zat, zgo_if, zgo_some, zgo_none]; done) | (simp only [zpure, zgo_if, zgo_some, zgo_none, zka, zkt, zdef]; rfl) | (simp [zpure, zgo_if, zgo_some, zgo_none, zka, zkt, zdef]; done)
  · intros; rfl
  · intros; rfl
  · intros; rfl
  · intros; rfl
  · intros; first | rfl | (simp only [zpure, zat, zgo_if, zgo_some, zgo_none]; done) | (simp [zpure, zat, zgo_if, zgo_some, zgo_none]; done) | (simp only [zpure, zgo_if, zgo_some, zgo_none, zka, zkt, zdef]; rfl) | (simp [zpure, zgo_if, zgo_some, zgo_none, zka, zkt, zdef]; done)
  · intros; first | rfl | (simp only [zpure, zat, zgo_if, zgo_some, zgo_none]; done) | (simp [zpure, zat, zgo_if, zgo_some, zgo_none]; done) | (simp only [zpure, zgo_if, zgo_some, zgo_none, zka, zkt, zdef]; rfl) | (simp [zpure, zgo_if, zgo_some, zgo_none, zka, zkt, zdef]; done)
  · intros; rfl
  · intros; rfl
  · intros; rfl
  · intros; rfl
  · intros; first | rfl | (simp only [zpure, zat, zgo_if, zgo_some, zgo_none]; done) | (simp [zpure, zat, zgo_if, zgo_some, zgo_none]; done) | (simp only [zpure, zgo_if, zgo_some, zgo_none, zka, zkt, zdef]; rfl) | (simp [zpure, zgo_if, zgo_some, zgo_none, zka, zkt, zdef]; done)
  · intros; first | rfl | (simp only [zpure, zat, zgo_if, zgo_some, zgo_none]; done) | (simp [zpure, zat, zgo_if, zgo_some, zgo_none]; done) | (simp only [zpure, zgo_if, zgo_some, zgo_none, zka, zkt, zdef]; rfl) | (simp [zpure, zgo_if, zgo_some, zgo_none, zka, zkt, zdef]; done)
  · intros; rfl
  · intros; first | rfl | (simp only [zpure, zat, zgo_if, zgo_some, zgo_none]; done) | (simp [zpure, zat, zgo_if, zgo_some, zgo_none]; done) | (simp only [zpure, zgo_if, zgo_some, zgo_none, zka, zkt, zdef]; rfl) | (simp [zpure, zgo_if, zgo_some, zgo_none, zka, zkt, zdef]; done)
  · intros; first | rfl | (simp only [zpure, zat, zgo_if, zgo_some, zgo_none]; done) | (simp [zpure, zat, zgo_if, zgo_some, zgo_none]; done) | (simp only [zpure, zgo_if, zgo_some, zgo_none, zka, zkt, zdef]; rfl) | (simp [zpure, zgo_if, zgo_some, zgo_none, zka, zkt, zdef]; done)
  · intros; rfl
  · intros; rfl
  · intros; first | rfl | (simp only [zpure, zat, zgo_if, zgo_some, zgo_none]; done) | (simp [zpure, zat, zgo_if, zgo_some, zgo_none]; done) | (simp only [zpure, zgo_if, zgo_some, zgo_none, zka, zkt, zdef]; rfl) | (simp [zpure, zgo_if, zgo_some, zgo_none, zka, zkt, zdef]; done)
  · intros; first | rfl | (simp only [zpure, zat, zgo_if, zgo_some, zgo_none]; done) | (simp [zpure, zat, zgo_if, zgo_some, zgo_none]; done) | (simp only [zpure, zgo_if, zgo_some, zgo_none, zka, zkt, zdef]; rfl) | (simp [zpure, zgo_if, zgo_some, zgo_none, zka, zkt, zdef]; done)
  · intros; first | rfl | (simp only [zpure, zat, zgo_if, zgo_some, zgo_none]; done) | (simp [zpure, zat, zgo_if, zgo_some, zgo_none]; done) | (simp only [zpure, zgo_if, zgo_some, zgo_none, zka, zkt, zdef]; rfl) | (simp [zpure, zgo_if, zgo_some, zgo_none, zka, zkt, zdef]; done)
  · intros; first | rfl | (simp only [zpure, zat, zgo_if, zgo_some, zgo_none]; done) | (simp [zpure, zat, zgo_if, zgo_some, zgo_none]; done) | (simp only [zpure, zgo_if, zgo_some, zgo_none, zka, zkt, zdef]; rfl) | (simp [zpure, zgo_if, zgo_some, zgo_none, zka, zkt, zdef]; done)
  · intros; first | rfl | (simp only [zpure, zat, zgo_if, zgo_some, zgo_none]; done) | (simp [zpure, zat, zgo_if, zgo_some, zgo_none]; done) | (simp only [zpure, zgo_if, zgo_some, zgo_none, zka, zkt, zdef]; rfl) | (simp [zpure, zgo_if, zgo_some, zgo_none, zka, zkt, zdef]; done)

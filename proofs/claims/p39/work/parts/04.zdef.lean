/-! ===== A DETERMINISTIC MACHINE over numbered cells: what a method's code does, as a partial function ===== -/
/-- the type of field k of class ci, by its number -/
def zty (ci k : Nat) : Nat := (([[0, 1, 0, 0, 0, 0, 0, 4], [7, 3, 0, 7, 0, 1, 1, 0, 0, 0], [7, 7, 7, 0, 7, 1, 7, 7, 7, 7, 0], [3, 0, 0], [7, 7, 7, 0], [7, 7, 7, 7, 7, 0, 1, 1], [7, 7, 7, 7, 7, 7, 7, 0, 0, 7, 7, 7, 7, 7, 7, 0, 0, 7, 7, 7, 7, 0, 7, 7, 7, 7, 0, 5, 7, 7, 0, 1, 0], [0, 7, 0]] : List (List Nat)).getD ci []).getD k 9
abbrev zL : Type := List (Option Value)
abbrev zS : Type := List Value
/-- next address, cells and slots made; kinds, lengths, contents -/
abbrev zH : Type := (Nat × Nat × Nat) × (Nat → Nat) × (Nat → Nat) × (Nat → Nat → Value)
/-- an instruction: its sort, itself, the next place, the target, what it names -/
abbrev zE : Type := Nat × Instr × Nat × Nat × List Nat
abbrev zR : Type := Option Value ⊕ Nat
def zn (h : zH) : Nat := h.1.1
def zuc (h : zH) : Nat := h.1.2.1
def zus (h : zH) : Nat := h.1.2.2
def zk (h : zH) (a : Nat) : Nat := h.2.1 a
def zl (h : zH) (a : Nat) : Nat := h.2.2.1 a
def zm (h : zH) (a i : Nat) : Value := h.2.2.2 a i
def zput (h : zH) (a i : Nat) (v : Value) : zH := (h.1, h.2.1, h.2.2.1, fun b j => if b = a ∧ j = i then v else h.2.2.2 b j)
/-- the contents of a written anew -/
def zfil (h : zH) (a : Nat) (f : Nat → Value) : zH := (h.1, h.2.1, h.2.2.1, fun b j => if b = a then f j else h.2.2.2 b j)
def znew (h : zH) (k n : Nat) (f : Nat → Value) : zH := ((h.1.1 + 1, h.1.2.1 + 1, h.1.2.2 + n), fun b => if b = h.1.1 then k else h.2.1 b, fun b => if b = h.1.1 then n else h.2.2.1 b, fun b j => if b = h.1.1 then f j else h.2.2.2 b j)
/-- n rows of k places each, behind each other -/
def znews (h : zH) (kd k : Nat) (v : Value) (n : Nat) : zH := ((h.1.1 + n, h.1.2.1 + n, h.1.2.2 + n * k), fun b => if h.1.1 ≤ b ∧ b < h.1.1 + n then kd else h.2.1 b, fun b => if h.1.1 ≤ b ∧ b < h.1.1 + n then k else h.2.2.1 b, fun b j => if h.1.1 ≤ b ∧ b < h.1.1 + n then v else h.2.2.2 b j)
def zchg (h : zH) (c n : Nat) : zH := ((h.1.1, h.1.2.1 + c, h.1.2.2 + n), h.2.1, h.2.2.1, h.2.2.2)
def lget : zL → Nat → Option Value
  | [], _ => none
  | a :: _, 0 => a
  | _ :: l, n + 1 => lget l n
def lc2 : Option Value → Bool
  | some (.long _) => true
  | some (.double _) => true
  | _ => false
def lst : zL → Nat → Value → Option zL
  | [], _, _ => none
  | _ :: l, 0, v => some (some v :: l)
  | a :: l, n + 1, v => if n = 0 ∧ lc2 a = true then none else (lst l n v).map (fun l' => a :: l')
def lst2 : zL → Nat → Value → Option zL
  | [], _, _ => none
  | [_], 0, _ => none
  | _ :: _ :: l, 0, v => some (some v :: none :: l)
  | a :: l, n + 1, v => if n = 0 ∧ lc2 a = true then none else (lst2 l n v).map (fun l' => a :: l')
/-- the place holds nothing known -/
def lclr : zL → Nat → zL
  | [], _ => []
  | _ :: l, 0 => none :: l
  | a :: l, n + 1 => (if n = 0 ∧ lc2 a = true then none else a) :: lclr l n
/-- the locals at a method's entry -/
def zentry : Nat → List Value → zL
  | 0, _ => []
  | n + 1, [] => none :: zentry n []
  | n + 1, v :: r => some v :: zentry n r
/-- what a place of a type takes: 0 int, 1 boolean, 2 byte, 3 char, 4 long, 5 float, 6 double, 7 a reference -/
def zfit (t : Nat) (v : Value) : Bool := match v with
  | .int x => t == 0 || (t == 1 && (x == 0 || x == 1)) || (t == 2 && decide (-128 ≤ x.toInt ∧ x.toInt ≤ 127)) || (t == 3 && decide (0 ≤ x.toInt ∧ x.toInt ≤ 65535))
  | .long _ => t == 4
  | .float _ => t == 5
  | .double _ => t == 6
  | .ref _ => t == 7
  | .null => t == 7
  | .retAddr _ => false
def zc1 (v : Value) : Bool := match v with
  | .long _ => false
  | .double _ => false
  | .retAddr _ => false
  | _ => true
/-- a default of a type -/
def zdef (t : Nat) : Value := if t = 4 then .long 0 else if t = 5 then .float 0 else if t = 6 then .double 0 else if t = 7 then .null else .int 0
/-- a float, a double that is a number -/
abbrev zn32 (r : UInt32) : Prop := r &&& 0x7fffffff ≤ 0x7f800000
abbrev zn64 (r : UInt64) : Prop := r &&& 0x7fffffffffffffff ≤ 0x7ff0000000000000
noncomputable def zat (c : ClassFile.Cond) (x y : Int) (tg nx : Nat) (ls : zL) (r : zS) (h : zH) : Option (Nat × zL × zS × zH) := match c with
  | .eq => if x = y then some (tg, ls, r, h) else some (nx, ls, r, h)
  | .ne => if x = y then some (nx, ls, r, h) else some (tg, ls, r, h)
  | .lt => if x < y then some (tg, ls, r, h) else some (nx, ls, r, h)
  | .ge => if x < y then some (nx, ls, r, h) else some (tg, ls, r, h)
  | .gt => if y < x then some (tg, ls, r, h) else some (nx, ls, r, h)
  | .le => if y < x then some (nx, ls, r, h) else some (tg, ls, r, h)
/-- the place that an index names in an array of kind kd -/
abbrev zin (h : zH) (kd a : Nat) (i : Int32) : Prop := zk h a = kd ∧ 0 ≤ i.toInt ∧ i.toInt < zl h a
def zld (n : Nat) (nx : Nat) (ls : zL) (st : zS) (h : zH) : Option (Nat × zL × zS × zH) := (lget ls n).map (fun v => (nx, ls, v :: st, h))
/-- the sort of a value, as loads and stores name it: 0 int, 1 long, 2 float, 3 double, 4 a reference or null -/
def zso (v : Value) : Nat := match v with
  | .int _ => 0
  | .long _ => 1
  | .float _ => 2
  | .double _ => 3
  | .ref _ => 4
  | .null => 4
  | .retAddr _ => 5
def zlo (so n nx : Nat) (ls : zL) (st : zS) (h : zH) : Option (Nat × zL × zS × zH) := match lget ls n with
  | some v => if zso v = so then some (nx, ls, v :: st, h) else none
  | none => none
def zsto (so n nx : Nat) (ls : zL) (st : zS) (h : zH) : Option (Nat × zL × zS × zH) := match st with
  | v :: r => if zso v = so then (lst ls n v).map (fun l => (nx, l, r, h)) else none
  | [] => none
def zsto2 (so n nx : Nat) (ls : zL) (st : zS) (h : zH) : Option (Nat × zL × zS × zH) := match st with
  | v :: r => if zso v = so then (lst2 ls n v).map (fun l => (nx, l, r, h)) else none
  | [] => none
/-- an array's element comes; kd the kind, so the sort -/
noncomputable def zald (kd so nx : Nat) (ls : zL) (st : zS) (h : zH) : Option (Nat × zL × zS × zH) := match st with
  | .int i :: .ref a :: r => if zin h kd a i then (if zso (zm h a i.toInt.toNat) = so then some (nx, ls, zm h a i.toInt.toNat :: r, h) else none) else none
  | _ => none
/-- v goes into an array -/
noncomputable def zast (kd nx : Nat) (v : Value) (i : Int32) (a : Nat) (ls : zL) (r : zS) (h : zH) : Option (Nat × zL × zS × zH) :=
  if zin h kd a i then some (nx, ls, r, zput h a i.toInt.toNat v) else none
def zbyte (x : Int32) : Int32 := x.toInt8.toInt32
def zchar (x : Int32) : Int32 := (x.toUInt32 % 65536).toInt32
/-- the kind of an array of a type, and its elements' type by number -/
def zka (t : ArrayType) : Nat := match t with
  | .int => 20
  | .byte => 21
  | .char => 22
  | .boolean => 23
  | .long => 24
  | .double => 25
  | .float => 29
  | .short => 29
def zkt (t : ArrayType) : Nat := match t with
  | .int => 0
  | .byte => 2
  | .char => 3
  | .boolean => 1
  | .long => 4
  | .double => 6
  | .float => 5
  | .short => 8
/-- an object's address, or null -/
def zobj (h : zH) (v : Value) : Bool := match v with
  | .ref q => decide (zk h q < 20)
  | .null => true
  | _ => false
/-- static methods that are rows of the kit: 1 max, 2 min, 3 abs, 4 arraycopy of references, 5 and 6 the bits of a float -/
noncomputable def zint (aux : List Nat) (nx : Nat) (ls : zL) (st : zS) (h : zH) : Option (Nat × zL × zS × zH) := match aux, st with
  | [1], .int y :: .int x :: r => if r.length ≤ 4 then some (nx, ls, .int (if x.toInt < y.toInt then y else x) :: r, h) else none
  | [2], .int y :: .int x :: r => if r.length ≤ 4 then some (nx, ls, .int (if x.toInt < y.toInt then x else y) :: r, h) else none
  | [3], .int x :: r => if r.length ≤ 4 then some (nx, ls, .int (if x.toInt < 0 then 0 - x else x) :: r, h) else none
  | [4], .int n :: .int dp :: .ref b :: .int sp :: .ref a :: r =>
    if r.length ≤ 4 ∧ zk h a = 26 ∧ zk h b = 26 ∧ 0 ≤ sp.toInt ∧ 0 ≤ dp.toInt ∧ 0 ≤ n.toInt ∧ sp.toInt + n.toInt ≤ zl h a ∧ dp.toInt + n.toInt ≤ zl h b ∧ (List.range n.toInt.toNat).all (fun i => zobj h (zm h a (sp.toInt.toNat + i))) = true then
      some (nx, ls, r, zfil h b (fun j => if dp.toInt.toNat ≤ j ∧ j < dp.toInt.toNat + n.toInt.toNat then zm h a (sp.toInt.toNat + (j - dp.toInt.toNat)) else zm h b j))
    else none
  | [5], .float x :: r => if r.length ≤ 4 ∧ zn32 x then some (nx, ls, .int x.toInt32 :: r, h) else none
  | [11], .float x :: r => if r.length ≤ 4 ∧ zn32 x then some (nx, ls, .float (x &&& 0x7fffffff) :: r, h) else none
  | [6], .int x :: r => if r.length ≤ 4 ∧ zn32 x.toUInt32 then some (nx, ls, .float x.toUInt32 :: r, h) else none
  | _, _ => none
/-- .. and virtual ones: 1 getClass of an array of references -/
def zinv (aux : List Nat) (nx : Nat) (ls : zL) (st : zS) (h : zH) : Option (Nat × zL × zS × zH) := match aux, st with
  | [1], .ref a :: r => if r.length ≤ 4 ∧ zk h a = 26 then some (nx, ls, .ref 2 :: r, h) else none
  | _, _ => none
/-- neither is the script nor the class object: what they are is not known to differ from all else -/
abbrev zapt (x y : Nat) : Prop := x ≠ 0 ∧ x ≠ 2 ∧ y ≠ 0 ∧ y ≠ 2
/-- the law's "fcpj".charAt(w / 156 % 4) -/
def zfc (w : Int) : Int32 := if w / 156 % 4 = 0 then 102 else if w / 156 % 4 = 1 then 99 else if w / 156 % 4 = 2 then 112 else 106
noncomputable def zpure (i : Instr) (nx tg : Nat) (aux : List Nat) (ls : zL) (st : zS) (h : zH) : Option (Nat × zL × zS × zH) := match i with
  | .aconst_null => some (nx, ls, .null :: st, h)
  | .iconst n => some (nx, ls, .int (Int32.ofInt n) :: st, h)
  | .bipush n => some (nx, ls, .int (Int32.ofInt n) :: st, h)
  | .sipush n => some (nx, ls, .int (Int32.ofInt n) :: st, h)
  | .lconst n => some (nx, ls, .long (Int64.ofNat n) :: st, h)
  | .fconst n => if n = 0 then some (nx, ls, .float FP.fconst0 :: st, h) else if n = 1 then some (nx, ls, .float FP.fconst1 :: st, h) else some (nx, ls, .float FP.fconst2 :: st, h)
  | .ldc _ => match aux with
    | [0, v] => some (nx, ls, .int (Int32.ofNat v) :: st, h)
    | [1, v] => some (nx, ls, .float (UInt32.ofNat v) :: st, h)
    | [2, _] => some (nx, ls, .ref 2 :: st, h)
    | [3, n] => match lget ls n with
      | some (.int w) => if 0 ≤ w.toInt ∧ st.length ≤ 3 then some (nx, ls, .int (zfc w.toInt) :: st, h) else none
      | _ => none
    | _ => none
  | .ldc_w _ => match aux with
    | [0, v] => some (nx, ls, .int (Int32.ofNat v) :: st, h)
    | [1, v] => some (nx, ls, .float (UInt32.ofNat v) :: st, h)
    | _ => none
  | .iload n => zlo 0 n nx ls st h
  | .iload_n n => zlo 0 n nx ls st h
  | .lload n => zlo 1 n nx ls st h
  | .lload_n n => zlo 1 n nx ls st h
  | .fload n => zlo 2 n nx ls st h
  | .fload_n n => zlo 2 n nx ls st h
  | .aload n => zlo 4 n nx ls st h
  | .aload_n n => zlo 4 n nx ls st h
  | .istore n => zsto 0 n nx ls st h
  | .istore_n n => zsto 0 n nx ls st h
  | .fstore n => zsto 2 n nx ls st h
  | .fstore_n n => zsto 2 n nx ls st h
  | .astore n => zsto 4 n nx ls st h
  | .astore_n n => zsto 4 n nx ls st h
  | .lstore n => zsto2 1 n nx ls st h
  | .lstore_n n => zsto2 1 n nx ls st h
  | .iinc n k => match lget ls n with
    | some (.int x) => (lst ls n (.int (x + Int32.ofInt k))).map (fun l => (nx, l, st, h))
    | _ => none
  | .iadd => match st with
    | .int y :: .int x :: r => some (nx, ls, .int (x + y) :: r, h)
    | _ => none
  | .isub => match st with
    | .int y :: .int x :: r => some (nx, ls, .int (x - y) :: r, h)
    | _ => none
  | .imul => match st with
    | .int y :: .int x :: r => some (nx, ls, .int (x * y) :: r, h)
    | _ => none
  | .iand => match st with
    | .int y :: .int x :: r => some (nx, ls, .int (x &&& y) :: r, h)
    | _ => none
  | .ior => match st with
    | .int y :: .int x :: r => some (nx, ls, .int (x ||| y) :: r, h)
    | _ => none
  | .ixor => match st with
    | .int y :: .int x :: r => some (nx, ls, .int (x ^^^ y) :: r, h)
    | _ => none
  | .ishl => match st with
    | .int y :: .int x :: r => some (nx, ls, .int (x <<< (y &&& 31)) :: r, h)
    | _ => none
  | .ishr => match st with
    | .int y :: .int x :: r => some (nx, ls, .int (x >>> (y &&& 31)) :: r, h)
    | _ => none
  | .iushr => match st with
    | .int y :: .int x :: r => some (nx, ls, .int ((x.toUInt32 >>> (y.toUInt32 &&& Int32.toUInt32 31)).toInt32) :: r, h)
    | _ => none
  | .idiv => match st with
    | .int y :: .int x :: r => if y = 0 then none else some (nx, ls, .int (x / y) :: r, h)
    | _ => none
  | .irem => match st with
    | .int y :: .int x :: r => if y = 0 then none else some (nx, ls, .int (x - x / y * y) :: r, h)
    | _ => none
  | .lmul => match st with
    | .long y :: .long x :: r => some (nx, ls, .long (x * y) :: r, h)
    | _ => none
  | .ldc2_w _ => match aux with
    | [v] => some (nx, ls, .long (Int64.ofNat v) :: st, h)
    | _ => none
  | .ineg => match st with
    | .int x :: r => some (nx, ls, .int (-x) :: r, h)
    | _ => none
  | .ladd => match st with
    | .long y :: .long x :: r => some (nx, ls, .long (x + y) :: r, h)
    | _ => none
  | .lcmp => match st with
    | .long y :: .long x :: r => some (nx, ls, .int (if y < x then 1 else if x = y then 0 else -1) :: r, h)
    | _ => none
  | .i2l => match st with
    | .int x :: r => some (nx, ls, .long x.toInt64 :: r, h)
    | _ => none
  | .i2b => match st with
    | .int x :: r => some (nx, ls, .int (zbyte x) :: r, h)
    | _ => none
  | .i2c => match st with
    | .int x :: r => some (nx, ls, .int (zchar x) :: r, h)
    | _ => none
  | .i2f => match st with
    | .int x :: r => some (nx, ls, .float (FP.i2f x) :: r, h)
    | _ => none
  | .f2i => match st with
    | .float x :: r => some (nx, ls, .int (FP.f2i x) :: r, h)
    | _ => none
  | .f2d => match st with
    | .float x :: r => if zn64 (FP.f2d x) then some (nx, ls, .double (FP.f2d x) :: r, h) else none
    | _ => none
  | .fadd => match st with
    | .float y :: .float x :: r => if zn32 (FP.fadd x y) then some (nx, ls, .float (FP.fadd x y) :: r, h) else none
    | _ => none
  | .fsub => match st with
    | .float y :: .float x :: r => if zn32 (FP.fsub x y) then some (nx, ls, .float (FP.fsub x y) :: r, h) else none
    | _ => none
  | .fmul => match st with
    | .float y :: .float x :: r => if zn32 (FP.fmul x y) then some (nx, ls, .float (FP.fmul x y) :: r, h) else none
    | _ => none
  | .fdiv => match st with
    | .float y :: .float x :: r => if zn32 (FP.fdiv x y) then some (nx, ls, .float (FP.fdiv x y) :: r, h) else none
    | _ => none
  | .fneg => match st with
    | .float x :: r => some (nx, ls, .float (FP.fneg x) :: r, h)
    | _ => none
  | .fcmp op => match st with
    | .float y :: .float x :: r => some (nx, ls, .int (Op.cmpValue (FP.fcmp x y) op) :: r, h)
    | _ => none
  | .dcmp op => match st with
    | .double y :: .double x :: r => some (nx, ls, .int (Op.cmpValue (FP.dcmp x y) op) :: r, h)
    | _ => none
  | .pop => match st with
    | v :: r => if zc1 v = true then some (nx, ls, r, h) else none
    | _ => none
  | .dup => match st with
    | v :: r => if zc1 v = true then some (nx, ls, v :: v :: r, h) else none
    | _ => none
  | .dup_x1 => match st with
    | v :: w :: r => if zc1 v = true ∧ zc1 w = true then some (nx, ls, v :: w :: v :: r, h) else none
    | _ => none
  | .dup2 => match st with
    | v :: w :: r => if zc1 v = true ∧ zc1 w = true then some (nx, ls, v :: w :: v :: w :: r, h) else none
    | _ => none
  | .goto _ => some (tg, ls, st, h)
  | .ifCond c _ => match st with
    | .int x :: r => zat c x.toInt 0 tg nx ls r h
    | _ => none
  | .if_icmp c _ => match st with
    | .int y :: .int x :: r => zat c x.toInt y.toInt tg nx ls r h
    | _ => none
  | .if_acmp .eq _ => match st with
    | .ref y :: .ref x :: r => if x = y then some (tg, ls, r, h) else if zapt x y then some (nx, ls, r, h) else none
    | _ => none
  | .if_acmp .ne _ => match st with
    | .ref y :: .ref x :: r => if x = y then some (nx, ls, r, h) else if zapt x y then some (tg, ls, r, h) else none
    | _ => none
  | .tableswitch _ lo hi _ => match st with
    | .int x :: r => if x.toInt < lo ∨ hi < x.toInt then some (tg, ls, r, h) else (aux[(x.toInt - lo).toNat]?).map (fun t => (t, ls, r, h))
    | _ => none
  | .getfield _ => match aux, st with
    | [ci, k], .ref a :: r => if zk h a = ci then some (nx, ls, zm h a k :: r, h) else none
    | _, _ => none
  | .putfield _ => match aux, st with
    | [ci, k, t], v :: .ref a :: r => if zk h a = ci ∧ zfit t v = true then some (nx, ls, r, zput h a k v) else none
    | _, _ => none
  | .getstatic _ => match aux with
    | [b] => if b = 1 then some (nx, ls, .ref 1 :: st, h) else none
    | _ => none
  | .new _ => match aux with
    | [ci, n] => some (nx, ls, .ref (zn h) :: st, znew h ci n (fun k => zdef (zty ci k)))
    | _ => none
  | .newarray t => match st with
    | .int n :: r => if 0 ≤ n.toInt ∧ n.toInt ≤ 67108864 then some (nx, ls, .ref (zn h) :: r, znew h (zka t) n.toInt.toNat (fun _ => zdef (zkt t))) else none
    | _ => none
  | .anewarray _ => match st with
    | .int n :: r => if 0 ≤ n.toInt ∧ n.toInt ≤ 67108864 then some (nx, ls, .ref (zn h) :: r, znew h 26 n.toInt.toNat (fun _ => .null)) else none
    | _ => none
  | .multianewarray _ _ => match aux, st with
    | [kd, ke], .int k :: .int n :: r => if 0 ≤ n.toInt ∧ n.toInt ≤ 67108864 ∧ 0 ≤ k.toInt ∧ k.toInt ≤ 67108864 then some (nx, ls, .ref (zn h) :: r, znews (znew h kd n.toInt.toNat (fun i => if i < n.toInt.toNat then .ref (zn h + 1 + i) else .null)) ke k.toInt.toNat (.int 0) n.toInt.toNat) else none
    | _, _ => none
  | .arraylength => match st with
    | .ref a :: r => if 20 ≤ zk h a then (if zk h a < 40 then some (nx, ls, .int (Int32.ofNat (zl h a)) :: r, h) else none) else none
    | _ => none
  | .iaload => match st with
    | .int i :: .ref 0 :: r => if 0 ≤ i.toInt ∧ i.toInt < zl h 0 then (if zso (zm h 0 i.toInt.toNat) = 0 then some (nx, ls, zm h 0 i.toInt.toNat :: r, h) else none) else none
    | _ => zald 20 0 nx ls st h
  | .baload => match st with
    | .int i :: .ref a :: r => if zk h a = 23 then zald 23 0 nx ls (.int i :: .ref a :: r) h else zald 21 0 nx ls (.int i :: .ref a :: r) h
    | _ => none
  | .caload => zald 22 0 nx ls st h
  | .laload => zald 24 1 nx ls st h
  | .daload => zald 25 3 nx ls st h
  | .aaload => match st with
    | .int i :: .ref a :: r => if zk h a = 26 ∨ zk h a = 27 ∨ zk h a = 28 then zald (zk h a) 4 nx ls (.int i :: .ref a :: r) h else none
    | _ => none
  | .iastore => match st with
    | .int x :: .int i :: .ref a :: r => zast 20 nx (.int x) i a ls r h
    | _ => none
  | .bastore => match st with
    | .int x :: .int i :: .ref a :: r => if zk h a = 23 then (if x = 0 ∨ x = 1 then zast 23 nx (.int x) i a ls r h else none) else zast 21 nx (.int (zbyte x)) i a ls r h
    | _ => none
  | .castore => match st with
    | .int x :: .int i :: .ref a :: r => zast 22 nx (.int (zchar x)) i a ls r h
    | _ => none
  | .lastore => match st with
    | .long x :: .int i :: .ref a :: r => zast 24 nx (.long x) i a ls r h
    | _ => none
  | .dastore => match st with
    | .double x :: .int i :: .ref a :: r => zast 25 nx (.double x) i a ls r h
    | _ => none
  | .aastore => match st with
    | .ref v :: .int i :: .ref a :: r => if zk h v < 20 then zast 26 nx (.ref v) i a ls r h else none
    | .null :: .int i :: .ref a :: r => zast 26 nx .null i a ls r h
    | _ => none
  | .checkcast _ => match aux, st with
    | [ci], .ref a :: r => if zk h a = ci then some (nx, ls, .ref a :: r, h) else none
    | _, _ => none
  | .invokespecial _ => match st with
    | .ref _ :: r => if aux = [] ∧ r.length ≤ 4 then some (nx, ls, r, h) else none
    | _ => none
  | .invokestatic _ => zint aux nx ls st h
  | .invokevirtual _ => zinv aux nx ls st h
  | _ => none
/-- a call's arguments off the stack: n of them, this one first; each of one slot -/
def ztake (n : Nat) (st : zS) : Option (List Value × zS) :=
  if n ≤ st.length ∧ (st.take n).all zc1 = true ∧ (st.drop n).length ≤ 4 then some ((st.take n).reverse, st.drop n) else none
/-- the receiver is of a kind: 0 it has none, 100 any reference, k + 1 of the kind k -/
def zrcv (rk : Nat) (as : List Value) (h : zH) : Bool := match rk with
  | 0 => true
  | r + 1 => match as with
    | .ref a :: _ => r == 99 || zk h a == r
    | _ => false
/-- a return: 0..7 the type, 8 nothing -/
def zret (t : Nat) (st : zS) (h : zH) : Option (zR × zH) := match st with
  | [] => if t = 8 then some (.inl none, h) else none
  | [v] => if t ≠ 8 ∧ zfit t v = true then some (.inl (some v), h) else none
  | _ => none

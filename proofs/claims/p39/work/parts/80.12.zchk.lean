/-! what an entry of the table of code must be -/
def zSw (own : String) (idx j : Nat) : Jvm.Cond := match j with
  | 0 => .methodLink own idx Lib.objectInit
  | 1 => .methodLink own idx Lib.Math.max.name
  | 2 => .methodLink own idx Lib.Math.min.name
  | 3 => .methodLink own idx Lib.Math.abs.name
  | 4 => .methodLink own idx arraycopyName
  | 5 => .methodLink own idx ⟨"java/lang/Float", "floatToRawIntBits", "(F)I"⟩
  | 6 => .methodLink own idx ⟨"java/lang/Float", "intBitsToFloat", "(I)F"⟩
  | 7 => .methodLink own idx ⟨"java/lang/Object", "getClass", "()Ljava/lang/Class;"⟩
  | 8 => .classLink own idx "java/lang/Object"
  | 9 => .fieldLink own idx "java/util/ArrayList" "DEFAULTCAPACITY_EMPTY_ELEMENTDATA" "[Ljava/lang/Object;"
  | 10 => .classLink own idx "[Ljava/lang/Object;"
  | 11 => .methodLink own idx ⟨"java/lang/Math", "abs", "(F)F"⟩
  | 12 => .methodLink own idx ⟨"java/lang/String", "charAt", "(I)C"⟩
  | 27 => .classLink own idx ("[" ++ (FieldType.array .byte).toString)
  | 28 => .classLink own idx ("[" ++ (FieldType.array .int).toString)
  | _ => .initialized ""
def zSTab : List (Nat × Nat × Nat) := [(3, 2, 8), (3, 86, 7), (3, 110, 10), (3, 150, 4), (3, 304, 2), (4, 194, 1), (5, 7, 8), (5, 39, 9), (5, 79, 1), (5, 112, 4), (6, 1, 0), (8, 207, 1), (8, 222, 12), (9, 1, 0), (10, 3, 0), (10, 49, 2), (11, 3, 0), (11, 25, 27), (12, 3, 0), (12, 26, 1), (12, 31, 2), (13, 3, 0), (13, 46, 1), (13, 52, 2), (14, 3, 0), (14, 122, 3), (14, 376, 2)]
set_option maxRecDepth 20000 in
theorem zSTab_ok : ∀ x ∈ zSTab, zSw (zOwn.getD x.1 "") x.2.1 x.2.2 ∈ zW := by
  unfold zSTab
  refine List.forall_mem_cons.mpr ⟨zW_in 574 (by decide +kernel) (by decide +kernel), ?_⟩
  refine List.forall_mem_cons.mpr ⟨zW_in 551 (by decide +kernel) (by decide +kernel), ?_⟩
  refine List.forall_mem_cons.mpr ⟨zW_in 572 (by decide +kernel) (by decide +kernel), ?_⟩
  refine List.forall_mem_cons.mpr ⟨zW_in 576 (by decide +kernel) (by decide +kernel), ?_⟩
  refine List.forall_mem_cons.mpr ⟨zW_in 575 (by decide +kernel) (by decide +kernel), ?_⟩
  refine List.forall_mem_cons.mpr ⟨zW_in 541 (by decide +kernel) (by decide +kernel), ?_⟩
  refine List.forall_mem_cons.mpr ⟨zW_in 580 (by decide +kernel) (by decide +kernel), ?_⟩
  refine List.forall_mem_cons.mpr ⟨zW_in 87 (by decide +kernel) (by decide +kernel), ?_⟩
  refine List.forall_mem_cons.mpr ⟨zW_in 579 (by decide +kernel) (by decide +kernel), ?_⟩
  refine List.forall_mem_cons.mpr ⟨zW_in 952 (by decide +kernel) (by decide +kernel), ?_⟩
  refine List.forall_mem_cons.mpr ⟨zW_in 86 (by decide +kernel) (by decide +kernel), ?_⟩
  refine List.forall_mem_cons.mpr ⟨zW_in 1289 (by decide +kernel) (by decide +kernel), ?_⟩
  refine List.forall_mem_cons.mpr ⟨zW_in 1290 (by decide +kernel) (by decide +kernel), ?_⟩
  refine List.forall_mem_cons.mpr ⟨zW_in 486 (by decide +kernel) (by decide +kernel), ?_⟩
  refine List.forall_mem_cons.mpr ⟨zW_in 663 (by decide +kernel) (by decide +kernel), ?_⟩
  refine List.forall_mem_cons.mpr ⟨zW_in 338 (by decide +kernel) (by decide +kernel), ?_⟩
  refine List.forall_mem_cons.mpr ⟨zW_in 127 (by decide +kernel) (by decide +kernel), ?_⟩
  refine List.forall_mem_cons.mpr ⟨zW_in 128 (by decide +kernel) (by decide +kernel), ?_⟩
  refine List.forall_mem_cons.mpr ⟨zW_in 1011 (by decide +kernel) (by decide +kernel), ?_⟩
  refine List.forall_mem_cons.mpr ⟨zW_in 1074 (by decide +kernel) (by decide +kernel), ?_⟩
  refine List.forall_mem_cons.mpr ⟨zW_in 1079 (by decide +kernel) (by decide +kernel), ?_⟩
  refine List.forall_mem_cons.mpr ⟨zW_in 106 (by decide +kernel) (by decide +kernel), ?_⟩
  refine List.forall_mem_cons.mpr ⟨zW_in 1226 (by decide +kernel) (by decide +kernel), ?_⟩
  refine List.forall_mem_cons.mpr ⟨zW_in 1227 (by decide +kernel) (by decide +kernel), ?_⟩
  refine List.forall_mem_cons.mpr ⟨zW_in 72 (by decide +kernel) (by decide +kernel), ?_⟩
  refine List.forall_mem_cons.mpr ⟨zW_in 977 (by decide +kernel) (by decide +kernel), ?_⟩
  refine List.forall_mem_cons.mpr ⟨zW_in 250 (by decide +kernel) (by decide +kernel), ?_⟩
  exact fun x h => absurd h List.not_mem_nil
def zlen (i : Instr) : Nat := match i with
  | .bipush _ => 2
  | .sipush _ => 3
  | .ldc _ => 2
  | .ldc_w _ => 3
  | .ldc2_w _ => 3
  | .iload _ => 2
  | .lload _ => 2
  | .fload _ => 2
  | .aload _ => 2
  | .istore _ => 2
  | .lstore _ => 2
  | .fstore _ => 2
  | .astore _ => 2
  | .iinc _ _ => 3
  | .ifCond _ _ => 3
  | .if_icmp _ _ => 3
  | .if_acmp _ _ => 3
  | .goto _ => 3
  | .getfield _ => 3
  | .putfield _ => 3
  | .getstatic _ => 3
  | .new _ => 3
  | .newarray _ => 2
  | .anewarray _ => 3
  | .multianewarray _ _ => 4
  | .checkcast _ => 3
  | .invokevirtual _ => 3
  | .invokespecial _ => 3
  | .invokestatic _ => 3
  | _ => 1
def ztgt (i : Instr) : Option Int := match i with
  | .goto o => some o
  | .ifCond _ o => some o
  | .if_icmp _ o => some o
  | .if_acmp _ o => some o
  | _ => none
/-- the table's word on what an instruction names -/
def zaux (k pc : Nat) (i : Instr) (aux : List Nat) : Bool := match i, aux with
  | .getfield n, [ci, f] => zFTab.contains (zOI k, n, ci, f)
  | .putfield n, [ci, f, t] => zFTab.contains (zOI k, n, ci, f) && zty ci f == t && (!((zFq ci).2.1 f).2.2.2 || ((zY k).name == "<init>" && ((zFq ci).2.1 f).1 == (zY k).cls))
  | .getstatic n, [1] => zSTab.contains (zOI k, n, 9)
  | .new n, [ci, m] => zNTab.contains (zOI k, n, ci) && (zFq ci).2.2 == m
  | .checkcast n, [ci] => zKTab.contains (zOI k, n, ci)
  | .ldc_w n, [s, v] => if s < 2 then zLTab.contains (zOI k, n, s, v) else false
  | .ldc2_w n, [v] => zLTab.contains (zOI k, n, 4, v)
  | .ldc n, [s, v] => if s = 2 then zSTab.contains (zOI k, n, 10) else if s < 2 then zLTab.contains (zOI k, n, s, v) else false
  | .anewarray n, _ => zSTab.contains (zOI k, n, 8)
  | .multianewarray n d, [kd, ke] => d == 2 && zSTab.contains (zOI k, n, kd) && (kd == 27 && ke == 21)
  | .bipush n, _ => decide ((Int8.ofInt n).toInt32 = Int32.ofInt n)
  | .sipush n, _ => decide ((Int16.ofInt n).toInt32 = Int32.ofInt n)
  | .newarray t, _ => t == .int || t == .byte
  | .invokespecial n, [] => zSTab.contains (zOI k, n, 0)
  | .invokestatic n, [j] => (1 ≤ j && j ≤ 4) && zSTab.contains (zOI k, n, j)
  | .invokevirtual n, [1] => zSTab.contains (zOI k, n, 7)
  | .getfield _, _ => false
  | .putfield _, _ => false
  | .getstatic _, _ => false
  | .new _, _ => false
  | .checkcast _, _ => false
  | .ldc _, _ => false
  | .ldc_w _, _ => false
  | .ldc2_w _, _ => false
  | .caload, _ => false
  | .laload, _ => false
  | .daload, _ => false
  | .castore, _ => false
  | .lastore, _ => false
  | .dastore, _ => false
  | .dcmp _, _ => false
  | .multianewarray _ _, _ => false
  | .invokespecial _, _ => false
  | .invokestatic _, _ => false
  | .invokevirtual _, _ => false
  | _, _ => true
def zdec (k pc : Nat) (i : Instr) : Prop := decode (zB k) pc = .ok (i, zlen i)
def ztab (k pc : Nat) (dflt lo hi : Int) (offs : Array Int) (tg : Nat) (aux : List Nat) : Prop := (∃ len, decode (zB k) pc = .ok (.tableswitch dflt lo hi offs, len)) ∧ (pc : Int) + dflt = (tg : Int) ∧ offs.toList.map (fun o => (pc : Int) + o) = aux.map (fun (t : Nat) => (t : Int)) ∧ hi - lo + 1 = aux.length
/-- "fcpj".charAt(w / 156 % 4), w the local v: its instructions -/
def zch (k pc n v nx : Nat) : Prop := (zOI k, 222, 12) ∈ zSTab ∧ zOI k = 8 ∧ n = 220 ∧ decode (zB k) pc = .ok (.ldc n, 2) ∧ decode (zB k) (pc + 2) = .ok (.iload v, 2) ∧ decode (zB k) (pc + 4) = .ok (.sipush 156, 3) ∧ decode (zB k) (pc + 7) = .ok (.idiv, 1) ∧ decode (zB k) (pc + 8) = .ok (.iconst 4, 1) ∧ decode (zB k) (pc + 9) = .ok (.irem, 1) ∧ decode (zB k) (pc + 10) = .ok (.invokevirtual 222, 3) ∧ nx = pc + 13
/-- an entry that stays in the method -/
def zok0 (k pc : Nat) (i : Instr) (nx tg : Nat) (aux : List Nat) : Prop := match i with
  | .tableswitch dflt lo hi offs => ztab k pc dflt lo hi offs tg aux
  | .ldc n => (∃ v, aux = [3, v] ∧ zch k pc n v nx) ∨ (zdec k pc (.ldc n) ∧ nx = pc + zlen (.ldc n) ∧ (∀ o, ztgt (.ldc n) = some o → (pc : Int) + o = (tg : Int)) ∧ zaux k pc (.ldc n) aux = true)
  | i => zdec k pc i ∧ nx = pc + zlen i ∧ (∀ o, ztgt i = some o → (pc : Int) + o = (tg : Int)) ∧ zaux k pc i aux = true

/-! what an entry of the table of code must be -/
def zSw (own : String) (idx j : Nat) : Jvm.Cond := match j with
  | 0 => .methodLink own idx Lib.objectInit
  | 1 => .methodLink own idx Lib.Math.max.name
  | 2 => .methodLink own idx Lib.Math.min.name
  | 3 => .methodLink own idx Lib.Math.abs.name
  | 4 => .methodLink own idx arraycopyName
  | 5 => .methodLink own idx ⟨"java/lang/Float", "floatToRawIntBits", "(F)I"⟩
  | 6 => .methodLink own idx ⟨"java/lang/Float", "intBitsToFloat", "(I)F"⟩
  | 7 => .methodLink own idx ⟨"java/lang/Object", "getClass", "()Ljava/lang/Class;"⟩
  | 8 => .classLink own idx "java/lang/Object"
  | 9 => .fieldLink own idx "java/util/ArrayList" "DEFAULTCAPACITY_EMPTY_ELEMENTDATA" "[Ljava/lang/Object;"
  | 10 => .classLink own idx "[Ljava/lang/Object;"
  | 11 => .methodLink own idx ⟨"java/lang/Math", "abs", "(F)F"⟩
  | 27 => .classLink own idx ("[" ++ (FieldType.array .byte).toString)
  | 28 => .classLink own idx ("[" ++ (FieldType.array .int).toString)
  | _ => .initialized ""
def zSTab : List (Nat × Nat × Nat) := [(3, 2, 8), (3, 86, 7), (3, 110, 10), (3, 150, 4), (3, 304, 2), (4, 194, 1), (5, 68, 5), (5, 162, 6), (6, 7, 8), (6, 39, 9), (6, 79, 1), (6, 112, 4), (7, 1, 0), (9, 74, 5), (11, 1, 0), (12, 3, 0), (12, 49, 2), (13, 3, 0), (13, 25, 27), (14, 3, 0), (14, 26, 1), (14, 31, 2), (15, 3, 0), (15, 46, 1), (15, 52, 2), (16, 3, 0), (16, 122, 3), (16, 376, 2), (17, 1, 0), (17, 46, 28), (17, 119, 3), (17, 128, 11), (17, 210, 2), (17, 213, 1)]
set_option maxRecDepth 20000 in
theorem zSTab_ok : ∀ x ∈ zSTab, zSw (zOwn.getD x.1 "") x.2.1 x.2.2 ∈ zW := by
  unfold zSTab
  refine List.forall_mem_cons.mpr ⟨zW_in 588 (by decide +kernel) (by decide +kernel), ?_⟩
  refine List.forall_mem_cons.mpr ⟨zW_in 564 (by decide +kernel) (by decide +kernel), ?_⟩
  refine List.forall_mem_cons.mpr ⟨zW_in 586 (by decide +kernel) (by decide +kernel), ?_⟩
  refine List.forall_mem_cons.mpr ⟨zW_in 590 (by decide +kernel) (by decide +kernel), ?_⟩
  refine List.forall_mem_cons.mpr ⟨zW_in 589 (by decide +kernel) (by decide +kernel), ?_⟩
  refine List.forall_mem_cons.mpr ⟨zW_in 554 (by decide +kernel) (by decide +kernel), ?_⟩
  refine List.forall_mem_cons.mpr ⟨zW_in 1535 (by decide +kernel) (by decide +kernel), ?_⟩
  refine List.forall_mem_cons.mpr ⟨zW_in 1539 (by decide +kernel) (by decide +kernel), ?_⟩
  refine List.forall_mem_cons.mpr ⟨zW_in 594 (by decide +kernel) (by decide +kernel), ?_⟩
  refine List.forall_mem_cons.mpr ⟨zW_in 110 (by decide +kernel) (by decide +kernel), ?_⟩
  refine List.forall_mem_cons.mpr ⟨zW_in 593 (by decide +kernel) (by decide +kernel), ?_⟩
  refine List.forall_mem_cons.mpr ⟨zW_in 976 (by decide +kernel) (by decide +kernel), ?_⟩
  refine List.forall_mem_cons.mpr ⟨zW_in 109 (by decide +kernel) (by decide +kernel), ?_⟩
  refine List.forall_mem_cons.mpr ⟨zW_in 1673 (by decide +kernel) (by decide +kernel), ?_⟩
  refine List.forall_mem_cons.mpr ⟨zW_in 499 (by decide +kernel) (by decide +kernel), ?_⟩
  refine List.forall_mem_cons.mpr ⟨zW_in 687 (by decide +kernel) (by decide +kernel), ?_⟩
  refine List.forall_mem_cons.mpr ⟨zW_in 361 (by decide +kernel) (by decide +kernel), ?_⟩
  refine List.forall_mem_cons.mpr ⟨zW_in 150 (by decide +kernel) (by decide +kernel), ?_⟩
  refine List.forall_mem_cons.mpr ⟨zW_in 151 (by decide +kernel) (by decide +kernel), ?_⟩
  refine List.forall_mem_cons.mpr ⟨zW_in 1034 (by decide +kernel) (by decide +kernel), ?_⟩
  refine List.forall_mem_cons.mpr ⟨zW_in 1170 (by decide +kernel) (by decide +kernel), ?_⟩
  refine List.forall_mem_cons.mpr ⟨zW_in 1175 (by decide +kernel) (by decide +kernel), ?_⟩
  refine List.forall_mem_cons.mpr ⟨zW_in 129 (by decide +kernel) (by decide +kernel), ?_⟩
  refine List.forall_mem_cons.mpr ⟨zW_in 1317 (by decide +kernel) (by decide +kernel), ?_⟩
  refine List.forall_mem_cons.mpr ⟨zW_in 1318 (by decide +kernel) (by decide +kernel), ?_⟩
  refine List.forall_mem_cons.mpr ⟨zW_in 95 (by decide +kernel) (by decide +kernel), ?_⟩
  refine List.forall_mem_cons.mpr ⟨zW_in 1004 (by decide +kernel) (by decide +kernel), ?_⟩
  refine List.forall_mem_cons.mpr ⟨zW_in 273 (by decide +kernel) (by decide +kernel), ?_⟩
  refine List.forall_mem_cons.mpr ⟨zW_in 1331 (by decide +kernel) (by decide +kernel), ?_⟩
  refine List.forall_mem_cons.mpr ⟨zW_in 1332 (by decide +kernel) (by decide +kernel), ?_⟩
  refine List.forall_mem_cons.mpr ⟨zW_in 1491 (by decide +kernel) (by decide +kernel), ?_⟩
  refine List.forall_mem_cons.mpr ⟨zW_in 1532 (by decide +kernel) (by decide +kernel), ?_⟩
  refine List.forall_mem_cons.mpr ⟨zW_in 1652 (by decide +kernel) (by decide +kernel), ?_⟩
  refine List.forall_mem_cons.mpr ⟨zW_in 1653 (by decide +kernel) (by decide +kernel), ?_⟩
  exact fun x h => absurd h List.not_mem_nil
def zlen (i : Instr) : Nat := match i with
  | .bipush _ => 2
  | .sipush _ => 3
  | .ldc _ => 2
  | .ldc_w _ => 3
  | .iload _ => 2
  | .lload _ => 2
  | .fload _ => 2
  | .aload _ => 2
  | .istore _ => 2
  | .lstore _ => 2
  | .fstore _ => 2
  | .astore _ => 2
  | .iinc _ _ => 3
  | .ifCond _ _ => 3
  | .if_icmp _ _ => 3
  | .if_acmp _ _ => 3
  | .goto _ => 3
  | .getfield _ => 3
  | .putfield _ => 3
  | .getstatic _ => 3
  | .new _ => 3
  | .newarray _ => 2
  | .anewarray _ => 3
  | .multianewarray _ _ => 4
  | .checkcast _ => 3
  | .invokevirtual _ => 3
  | .invokespecial _ => 3
  | .invokestatic _ => 3
  | _ => 1
def ztgt (i : Instr) : Option Int := match i with
  | .goto o => some o
  | .ifCond _ o => some o
  | .if_icmp _ o => some o
  | .if_acmp _ o => some o
  | _ => none
/-- the table's word on what an instruction names -/
def zaux (k pc : Nat) (i : Instr) (aux : List Nat) : Bool := match i, aux with
  | .getfield n, [ci, f] => zFTab.contains (zOI k, n, ci, f)
  | .putfield n, [ci, f, t] => zFTab.contains (zOI k, n, ci, f) && zty ci f == t && (!((zFq ci).2.1 f).2.2.2 || ((zY k).name == "<init>" && ((zFq ci).2.1 f).1 == (zY k).cls))
  | .getstatic n, [1] => zSTab.contains (zOI k, n, 9)
  | .new n, [ci, m] => zNTab.contains (zOI k, n, ci) && (zFq ci).2.2 == m
  | .checkcast n, [ci] => zKTab.contains (zOI k, n, ci)
  | .ldc_w n, [s, v] => if s < 2 then zLTab.contains (zOI k, n, s, v) else false
  | .ldc n, [s, v] => if s = 2 then zSTab.contains (zOI k, n, 10) else if s < 2 then zLTab.contains (zOI k, n, s, v) else false
  | .anewarray n, _ => zSTab.contains (zOI k, n, 8)
  | .multianewarray n d, [kd, ke] => d == 2 && zSTab.contains (zOI k, n, kd) && ((kd == 27 && ke == 21) || (kd == 28 && ke == 20))
  | .bipush n, _ => decide ((Int8.ofInt n).toInt32 = Int32.ofInt n)
  | .sipush n, _ => decide ((Int16.ofInt n).toInt32 = Int32.ofInt n)
  | .newarray t, _ => !(t == .float) && !(t == .short)
  | .invokespecial n, [] => zSTab.contains (zOI k, n, 0)
  | .invokestatic n, [j] => ((1 ≤ j && j ≤ 6) || j == 11) && zSTab.contains (zOI k, n, j)
  | .invokevirtual n, [1] => zSTab.contains (zOI k, n, 7)
  | .getfield _, _ => false
  | .putfield _, _ => false
  | .getstatic _, _ => false
  | .new _, _ => false
  | .checkcast _, _ => false
  | .ldc _, _ => false
  | .ldc_w _, _ => false
  | .multianewarray _ _, _ => false
  | .invokespecial _, _ => false
  | .invokestatic _, _ => false
  | .invokevirtual _, _ => false
  | _, _ => true
def zdec (k pc : Nat) (i : Instr) : Prop := decode (zB k) pc = .ok (i, zlen i)
def ztab (k pc : Nat) (dflt lo hi : Int) (offs : Array Int) (tg : Nat) (aux : List Nat) : Prop := (∃ len, decode (zB k) pc = .ok (.tableswitch dflt lo hi offs, len)) ∧ (pc : Int) + dflt = (tg : Int) ∧ offs.toList.map (fun o => (pc : Int) + o) = aux.map (fun (t : Nat) => (t : Int)) ∧ hi - lo + 1 = aux.length
/-- an entry that stays in the method -/
def zok0 (k pc : Nat) (i : Instr) (nx tg : Nat) (aux : List Nat) : Prop := match i with
  | .tableswitch dflt lo hi offs => ztab k pc dflt lo hi offs tg aux
  | i => zdec k pc i ∧ nx = pc + zlen i ∧ (∀ o, ztgt i = some o → (pc : Int) + o = (tg : Int)) ∧ zaux k pc i aux = true

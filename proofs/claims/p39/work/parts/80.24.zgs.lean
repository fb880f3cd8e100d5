/-! what every method is given of the world: the script, the JDK's statics, words that stay -/
def zisND (w : Jvm.Cond) : Bool := match w with
  | .castable _ _ => true
  | .declares _ => true
  | _ => false
def zND : List Jvm.Cond := lw_tbl.filter zisND
theorem zND_in {w : Jvm.Cond} (i : Nat) (h : lw_tbl[i]? = some w) (g : zisND w = true) : w ∈ zND := List.mem_filter.mpr ⟨List.mem_of_getElem? h, g⟩
theorem zND_warm {s U : State} (hW : s.WarmedH U.vm) {w : Jvm.Cond} (hw : zisND w = true) (h : va_Nw w s) : va_Nw w U := by
  match w, hw, h with
  | .castable _ _, _, h => exact va_Nw.warmC hW h
  | .declares _, _, h => exact va_Nw.warmD hW h
theorem zAOA_moved {t : FieldType} {u U : State} (hvm : u.vm.Alike U.vm) (h : (Cond.arrayOver (.array t)).before #[] u = true) : (Cond.arrayOver (.array t)).before #[] U = true := by
  obtain ⟨comp, c, k, h1, h2, h3, h4, h5⟩ := Jvm.Stand.arrayOver_specB h
  obtain ⟨k', hk', he⟩ := hvm.2.2 _ _ h3
  have hi : (U.vm.classes.findIdx? fun (x : Class) => match x.kind with | .array component _ => component == comp | _ => false) = some c := by
    have e1 := va_idx_bare U.vm comp
    have e2 := va_idx_bare u.vm comp
    rw [hvm.bare_eq] at e1
    exact e1.symm.trans (e2.trans h2)
  have hkind : k'.kind = .array comp (.array t) := by rw [he]; exact h4
  have f1 : U.vm.findClass (FieldType.array t).toString = some comp := by rw [hvm.findClass]; exact h1
  have f2 : U.vm.findClass ("[" ++ (FieldType.array t).toString) = some c := by rw [hvm.findClass]; exact h5
  unfold Cond.before Cond.holds
  simp only [Cond.value]
  rw [f1, Option.bind_some]
  refine (congrArg (fun o : Option Nat => (o.bind (fun c => (U.vm.classes[c]?).map fun (k : Class) => match k.kind with | .array _ ty => decide (ty = FieldType.array t) && decide (U.vm.findClass ("[" ++ (FieldType.array t).toString) = some c) | _ => false) == some true)) hi).trans ?_
  simp [hk', hkind, f2]
def zExs : List String := ["java/lang/IllegalArgumentException", "java/lang/IllegalStateException", "java/lang/IndexOutOfBoundsException", "java/lang/UnsupportedOperationException", "java/util/NoSuchElementException"]
theorem zTX.moved {A : Nat → Prop} {s U : State} (hW : s.WarmedH U.vm) (hk : ∀ a : Nat, a < s.heap.size → ¬ A a → U.heap[a]? = s.heap[a]?) (h : zTX A s) : zTX A U := by
  have ha := hW.alike
  obtain ⟨⟨adK, adV, h1, h2⟩, h3, h4⟩ := h
  exact ⟨⟨adK, adV, (vk_S.moved ha h1).kept hk, vk_R.warm hW h2⟩, (va_Z.moved ha h3).kept hk, (vx_Zq.moved ha h4).kept hk⟩
/-- the world's constants, at a state -/
def zGS (D : va_G) (cs : Nat → ClassId) (A : Nat → Prop) (b e1 mi L : Nat) (xs : Nat → Int32) (s : State) : Prop :=
  va_K D zcl (ztys cs) s ∧ va_X b L xs s s.heap ∧ b < s.heap.size ∧ ¬ A b ∧ (∀ q, s.heap.size ≤ q → A q) ∧ L ≤ 3072 ∧
  va_Z "java/util/ArrayList" "DEFAULTCAPACITY_EMPTY_ELEMENTDATA" "[Ljava/lang/Object;" (.ref e1) A s s.heap ∧ (∃ f, va_T (.object "java/lang/Object") e1 0 f A s s.heap) ∧ va_Mi "[Ljava/lang/Object;" mi s ∧ va_Dc s ∧ va_AO "java/lang/Object" s ∧
  (Cond.arrayOver (.array .byte)).before #[] s = true ∧ zTX A s ∧ (∀ w ∈ zND, va_Nw w s) ∧ (∀ own is tx, (Cond.stringRef own is tx : Jvm.Cond) ∈ lw_tbl → ∃ sa, vk_R own is tx sa s) ∧ (∀ E ∈ zExs, ∀ F ∈ zExs, E ≠ F → va_Nc E F s) ∧ vx_Zq Bundle.tN "UNASSIGNED_STACK" Bundle.steD A s s.heap ∧ vx_Zq Bundle.tN "SUPPRESSED_SENTINEL" Bundle.listD A s s.heap ∧ ¬ A e1
theorem zGS.moved {D : va_G} {cs : Nat → ClassId} {A : Nat → Prop} {b e1 mi L : Nat} {xs : Nat → Int32} {s U : State} {H : Heap} {locs : List Loc} (h : zGS D cs A b e1 mi L xs s) (hH : U.heap = H) (hW : s.WarmedH U.vm) (hS : va_S A s.heap H locs) : zGS D cs A b e1 mi L xs U := by
  obtain ⟨h1, h2, h3, h4, h5, h6, h7, ⟨f, h8⟩, h9, h10, h11, h12, h13, h14, h14b, h15, h16, h17, h18⟩ := h
  subst hH
  have ha := hW.alike
  have hk : ∀ a : Nat, a < s.heap.size → ¬ A a → U.heap[a]? = s.heap[a]? := fun a h1 h2 => hS.2.1 a h1 h2
  refine ⟨va_K.moved ha h1, va_X.kept (va_X.moved ha h2) (hk b h3 h4), Nat.lt_of_lt_of_le h3 hS.1, h4, fun q hq => h5 q (Nat.le_trans hS.1 hq), h6, (va_Z.moved ha h7).kept hk, ⟨f, (va_T.moved ha h8).kept hk⟩, va_Mi.moved ha h9, va_Dc.moved ha h10, va_AO.moved ha h11, zAOA_moved ha h12, zTX.moved hW hk h13, fun w hw => zND_warm hW (List.mem_filter.mp hw).2 (h14 w hw), fun o i t ht => (h14b o i t ht).imp fun sa q => vk_R.warm hW q, fun E hE F hF hn => va_Nc.moved ha (h15 E hE F hF hn), (vx_Zq.moved ha h16).kept hk, (vx_Zq.moved ha h17).kept hk, h18⟩
theorem zGS.ctx {k : Nat} {D : va_G} {cs : Nat → ClassId} {A : Nat → Prop} {b e1 mi L : Nat} {xs : Nat → Int32} {p : Program} {R : Room} {s : State} {m : MethodId} {args : Array Value} {meth : Method} {c : Code} (h : zGS D cs A b e1 mi L xs s) (hx : p.tables.exec = Jvm.exec) (hb : c.code = zB k) (hown : s.vm.findClass (zY k).cls = some m.cls) (hts : ∀ w ∈ zW, w.before args s = true) (hml : c.maxLocals = zML k) (hn : meth.name = (zY k).name) (hR : 8 ≤ R.frames ∧ 128 ≤ R.locals) : zCtx k D cs A b e1 mi L xs p R s m args meth c := by
  obtain ⟨h1, h2, h3, h4, h5, h6, h7, h8, h9, h10, h11, h12, h13, h14, h15, h16⟩ := h
  refine ⟨hx, hb, hown, hts, hml, h1, h2, h3, h4, h5, h6, h7, h8, h9, h10, h11, h12, h13, fun q hq => h14 _ ?_, hn, hR⟩
  have : zcl.all (fun q => lw_tbl.contains (.castable q.1 "java/lang/Object")) = true := by decide +kernel
  exact List.mem_filter.mpr ⟨List.contains_iff_mem.mp (List.all_eq_true.mp this q hq), rfl⟩

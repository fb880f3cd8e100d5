/-! String.charAt on the law's text: the five methods of the JDK that it runs -/
abbrev jPc : MethodName := { cls := "jdk/internal/util/Preconditions", name := "checkIndex", desc := "(IILjava/util/function/BiFunction;)I" }
abbrev jCi : MethodName := { cls := "java/lang/String", name := "checkIndex", desc := "(II)V" }
abbrev jLc : MethodName := { cls := "java/lang/StringLatin1", name := "charAt", desc := "([BI)C" }
abbrev jIl : MethodName := { cls := "java/lang/String", name := "isLatin1", desc := "()Z" }
abbrev jCa : MethodName := { cls := "java/lang/String", name := "charAt", desc := "(I)C" }
abbrev jRm (f l : Nat) : Room := { frames := f, cells := 0, slots := 0, locals := l }
theorem jw_Pc : (Cond.code jPc prog_44_method_11_code 3 (some .int) : Jvm.Cond) ∈ zW := zW_in 224 (by decide +kernel) (by decide +kernel)
theorem jw_PcS : (Cond.static jPc : Jvm.Cond) ∈ zW := zW_in 223 (by decide +kernel) (by decide +kernel)
theorem jw_PcL : (Cond.methodLink "java/lang/String" 1059 jPc : Jvm.Cond) ∈ zW := zW_in 1304 (by decide +kernel) (by decide +kernel)
theorem jw_PcI : (Cond.initialized "jdk/internal/util/Preconditions" : Jvm.Cond) ∈ zW := zW_in 48 (by decide +kernel) (by decide +kernel)
theorem jw_Ci : (Cond.code jCi prog_24_method_155_code 2 none : Jvm.Cond) ∈ zW := zW_in 1303 (by decide +kernel) (by decide +kernel)
theorem jw_CiS : (Cond.static jCi : Jvm.Cond) ∈ zW := zW_in 1302 (by decide +kernel) (by decide +kernel)
theorem jw_CiL : (Cond.methodLink "java/lang/StringLatin1" 9 jCi : Jvm.Cond) ∈ zW := zW_in 1301 (by decide +kernel) (by decide +kernel)
theorem jw_StI : (Cond.initialized "java/lang/String" : Jvm.Cond) ∈ zW := zW_in 55 (by decide +kernel) (by decide +kernel)
theorem jw_L1I : (Cond.initialized "java/lang/StringLatin1" : Jvm.Cond) ∈ zW := zW_in 58 (by decide +kernel) (by decide +kernel)
theorem jw_Lc : (Cond.code jLc prog_26_method_2_code 2 (some .char) : Jvm.Cond) ∈ zW := zW_in 1300 (by decide +kernel) (by decide +kernel)
theorem jw_LcS : (Cond.static jLc : Jvm.Cond) ∈ zW := zW_in 1299 (by decide +kernel) (by decide +kernel)
theorem jw_LcL : (Cond.methodLink "java/lang/String" 495 jLc : Jvm.Cond) ∈ zW := zW_in 1298 (by decide +kernel) (by decide +kernel)
theorem jw_Il : (Cond.code jIl prog_24_method_154_code 1 (some .boolean) : Jvm.Cond) ∈ zW := zW_in 1297 (by decide +kernel) (by decide +kernel)
theorem jw_IlN : (Cond.instanceMethod jIl : Jvm.Cond) ∈ zW := zW_in 1295 (by decide +kernel) (by decide +kernel)
theorem jw_IlV : (Cond.selects "java/lang/String" jIl jIl : Jvm.Cond) ∈ zW := zW_in 1296 (by decide +kernel) (by decide +kernel)
theorem jw_IlL : (Cond.methodLink "java/lang/String" 492 jIl : Jvm.Cond) ∈ zW := zW_in 1294 (by decide +kernel) (by decide +kernel)
theorem jw_Ca : (Cond.code jCa prog_24_method_56_code 2 (some .char) : Jvm.Cond) ∈ zW := zW_in 1293 (by decide +kernel) (by decide +kernel)
theorem jw_CaN : (Cond.instanceMethod jCa : Jvm.Cond) ∈ zW := zW_in 1291 (by decide +kernel) (by decide +kernel)
theorem jw_CaV : (Cond.selects "java/lang/String" jCa jCa : Jvm.Cond) ∈ zW := zW_in 1292 (by decide +kernel) (by decide +kernel)
theorem jw_fS : (Cond.fieldLink "java/lang/String" 1053 "jdk/internal/util/Preconditions" "SIOOBE_FORMATTER" "Ljava/util/function/BiFunction;" : Jvm.Cond) ∈ zW := zW_in 800 (by decide +kernel) (by decide +kernel)
theorem jw_fC : (Cond.fieldLink "java/lang/String" 38 "java/lang/String" "COMPACT_STRINGS" "Z" : Jvm.Cond) ∈ zW := zW_in 822 (by decide +kernel) (by decide +kernel)
theorem jw_fV : (Cond.fieldLink "java/lang/String" 9 "java/lang/String" "value" "[B" : Jvm.Cond) ∈ zW := zW_in 940 (by decide +kernel) (by decide +kernel)
theorem jw_fK : (Cond.fieldLink "java/lang/String" 15 "java/lang/String" "coder" "B" : Jvm.Cond) ∈ zW := zW_in 941 (by decide +kernel) (by decide +kernel)
/-- what a call of one of them needs of the tables -/
theorem jB {R : Room} {s : State} {args : Array Value} {own : String} {index maxL n f lo : Nat} {y : MethodName} {bytes : ByteArray} {ret : Option FieldType} (hz : ∀ w ∈ zW, w.before args s = true) (hc : (Cond.code y bytes maxL ret : Jvm.Cond) ∈ zW) (hi : (Cond.initialized y.cls : Jvm.Cond) ∈ zW) (hl : (Cond.methodLink own index y : Jvm.Cond) ∈ zW) (hd : y.cls ≠ "java/lang/invoke/MethodHandle" ∧ y.cls ≠ "java/lang/invoke/VarHandle" ∧ (parseMethodDescriptor y.desc).map (fun d => d.parameters.length) = some n) (hR : f + 1 ≤ R.frames ∧ 8 + (maxL + 11) + lo ≤ R.locals) :
    CallB R s args own index y bytes maxL ret (Cond.code y bytes maxL ret :: zW) (jRm f lo) 0 0 n :=
  callB_of n hz (zW_GoodIn fun w hw => by
    rcases List.mem_cons.mp hw with rfl | hw
    · exact hc
    · exact hw) rfl rfl rfl (hz _ hi) (hz _ hl) hd hR
theorem jS {A : Nat → Prop} {H0 H : Heap} {locs : List Loc} (h : va_S (fun _ => False) H0 H locs) : va_S A H0 H locs := ⟨h.1, fun q h1 _ => h.2.1 q h1 (fun z => z), fun l hl => (h.2.2 l hl).elim⟩
abbrev jF : Nat → Prop := fun _ => False
theorem jc_Pc (l : Launch) (H0 : Heap) {i n : Int32} {f : Value} (hf : f = .null ∨ ∃ t, f = .ref t) (h1 : ¬ i < 0) (h2 : i < n) : Met l jPc (Cond.code jPc prog_44_method_11_code 3 (some .int) :: zW) (jRm 0 0) (va_Pc [.int i, .int n, f] (fun U => U.heap = H0)) (va_Qi (fun (r : Int32) (_ : Unit) => r = i) (fun _ t => t.heap = H0) jF) 0 0 jF := by
  rcases hf with rfl | ⟨t, rfl⟩
  · refine Met.ofW (cc := prog_44_method_11_code) (maxL := 3) (ret := some .int) (by decide) rfl ?_
    intro p e s m args below meth c s₁ B hml hv
    obtain ⟨rfl, hH⟩ := hv
    have hx := B.exec
    have hb := B.bytes
    have hr := B.returns
    have hlocks := B.notSynchronized
    have hS : va_S jF s.heap s.heap [] := va_S.rf
    have hl := lv_entry ([.int i, .int n, .null]) (n := 3) (Nat.le_of_ble_eq_true rfl)
    rw [lg_entry_eq]
    generalize (lg_sl ([.int i, .int n, .null]) ++ List.replicate (3 - (lg_sl ([.int i, .int n, .null])).length) Slot.unset).toArray = ls at hl ⊢
    have hl : lv_has ls 3 [(0, .int i), (1, .int n), (2, .null)] := hl
    refine lv_iload_n hx hb (by decide +kernel : decode prog_44_method_11_code 0 = .ok (.iload_n 0, 1)) rfl (lv_at hl 0 rfl) ?_
    refine lv_if_lt hx hb (by decide +kernel : decode prog_44_method_11_code 1 = .ok (.ifCond .lt 8, 3)) (tgt := 9) rfl (fun q => absurd q h1) (fun _ => ?_)
    refine lv_iload_n hx hb (by decide +kernel : decode prog_44_method_11_code 4 = .ok (.iload_n 0, 1)) rfl (lv_at hl 0 rfl) ?_
    refine lv_iload_n hx hb (by decide +kernel : decode prog_44_method_11_code 5 = .ok (.iload_n 1, 1)) rfl (lv_at hl 1 rfl) ?_
    refine lv_icmp_lt hx hb (by decide +kernel : decode prog_44_method_11_code 6 = .ok (.if_icmp .lt 10, 3)) (tgt := 16) rfl (fun _ => ?_) (fun q => absurd h2 q)
    refine lv_iload_n hx hb (by decide +kernel : decode prog_44_method_11_code 16 = .ok (.iload_n 0, 1)) rfl (lv_at hl 0 rfl) ?_
    exact W.iret (v := i) hx hb hr (fun t ht hW => ⟨⟨i, (), rfl, rfl, ht.trans hH⟩, hS.F ht⟩) hS.2.2 (by decide +kernel : decode prog_44_method_11_code 17 = .ok (.ireturn, 1))
  · refine Met.ofW (cc := prog_44_method_11_code) (maxL := 3) (ret := some .int) (by decide) rfl ?_
    intro p e s m args below meth c s₁ B hml hv
    obtain ⟨rfl, hH⟩ := hv
    have hx := B.exec
    have hb := B.bytes
    have hr := B.returns
    have hlocks := B.notSynchronized
    have hS : va_S jF s.heap s.heap [] := va_S.rf
    have hl := lv_entry ([.int i, .int n, .ref t]) (n := 3) (Nat.le_of_ble_eq_true rfl)
    rw [lg_entry_eq]
    generalize (lg_sl ([.int i, .int n, .ref t]) ++ List.replicate (3 - (lg_sl ([.int i, .int n, .ref t])).length) Slot.unset).toArray = ls at hl ⊢
    have hl : lv_has ls 3 [(0, .int i), (1, .int n), (2, .ref t)] := hl
    refine lv_iload_n hx hb (by decide +kernel : decode prog_44_method_11_code 0 = .ok (.iload_n 0, 1)) rfl (lv_at hl 0 rfl) ?_
    refine lv_if_lt hx hb (by decide +kernel : decode prog_44_method_11_code 1 = .ok (.ifCond .lt 8, 3)) (tgt := 9) rfl (fun q => absurd q h1) (fun _ => ?_)
    refine lv_iload_n hx hb (by decide +kernel : decode prog_44_method_11_code 4 = .ok (.iload_n 0, 1)) rfl (lv_at hl 0 rfl) ?_
    refine lv_iload_n hx hb (by decide +kernel : decode prog_44_method_11_code 5 = .ok (.iload_n 1, 1)) rfl (lv_at hl 1 rfl) ?_
    refine lv_icmp_lt hx hb (by decide +kernel : decode prog_44_method_11_code 6 = .ok (.if_icmp .lt 10, 3)) (tgt := 16) rfl (fun _ => ?_) (fun q => absurd h2 q)
    refine lv_iload_n hx hb (by decide +kernel : decode prog_44_method_11_code 16 = .ok (.iload_n 0, 1)) rfl (lv_at hl 0 rfl) ?_
    exact W.iret (v := i) hx hb hr (fun t ht hW => ⟨⟨i, (), rfl, rfl, ht.trans hH⟩, hS.F ht⟩) hS.2.2 (by decide +kernel : decode prog_44_method_11_code 17 = .ok (.ireturn, 1))
abbrev jQ (A : Nat → Prop) (U : State) (H : Heap) : Prop := vx_Zq "jdk/internal/util/Preconditions" "SIOOBE_FORMATTER" "Ljava/util/function/BiFunction;" A U H
theorem jc_Ci (l : Launch) (A : Nat → Prop) (H0 : Heap) {i n : Int32} (h1 : ¬ i < 0) (h2 : i < n) : Met l jCi (Cond.code jCi prog_24_method_155_code 2 none :: zW) (jRm 1 22) (va_Pc [.int i, .int n] (fun U => U.heap = H0 ∧ jQ A U U.heap)) (va_Qv (fun (_ : Unit) => True) (fun _ t => t.heap = H0) jF) 0 0 jF := by
  refine Met.ofW (cc := prog_24_method_155_code) (maxL := 2) (ret := none) (by decide) rfl ?_
  intro p e s m args below meth c s₁ B hml hv
  obtain ⟨rfl, hH, hQ⟩ := hv
  have hx := B.exec
  have hb := B.bytes
  have hr := B.returns
  have hlocks := B.notSynchronized
  have hts := atoms_spec (ws := Cond.code jCi prog_24_method_155_code 2 none :: zW) B.pre
  have hz : ∀ w ∈ zW, w.before _ s = true := fun w hw => hts w (List.mem_cons_of_mem _ hw)
  have hown : s.vm.findClass "java/lang/String" = some m.cls := findClass_of_methodNamed B.named
  have hS : va_S jF s.heap s.heap [] := va_S.rf
  have hl := lv_entry ([.int i, .int n]) (n := 2) (Nat.le_of_ble_eq_true rfl)
  rw [lg_entry_eq]
  generalize (lg_sl ([.int i, .int n]) ++ List.replicate (2 - (lg_sl ([.int i, .int n])).length) Slot.unset).toArray = ls at hl ⊢
  have hl : lv_has ls 2 [(0, .int i), (1, .int n)] := hl
  refine lv_iload_n hx hb (by decide +kernel : decode prog_24_method_155_code 0 = .ok (.iload_n 0, 1)) rfl (lv_at hl 0 rfl) ?_
  refine lv_iload_n hx hb (by decide +kernel : decode prog_24_method_155_code 1 = .ok (.iload_n 1, 1)) rfl (lv_at hl 1 rfl) ?_
  obtain ⟨f, hf, hZ⟩ : ∃ f : Value, (f = .null ∨ ∃ t, f = .ref t) ∧ va_Z "jdk/internal/util/Preconditions" "SIOOBE_FORMATTER" "Ljava/util/function/BiFunction;" f A s s.heap := by
    rcases hQ.1 with z | ⟨t, z⟩
    · exact ⟨_, Or.inl rfl, z⟩
    · exact ⟨_, Or.inr ⟨t, rfl⟩, z⟩
  refine va_gets hx hb hZ (jS hS) hown (hz _ jw_fS) (fun _ h9 => h9) (by decide +kernel : decode prog_24_method_155_code 2 = .ok (.getstatic 1053, 3)) ?_
  refine va_calli (va_runS (As := [.int i, .int n, f]) (rest := []) ⟨hx, hb, hml, hown, hz⟩ (jc_Pc l H0 hf h1 h2) ⟨jB hz jw_Pc jw_PcI jw_PcL ⟨by decide, by decide, (by decide +kernel : (parseMethodDescriptor jPc.desc).map (fun d => d.parameters.length) = some 3)⟩ ⟨Nat.le_refl _, Nat.le_refl _⟩, hz _ jw_PcS⟩ ⟨fun a U g mk q => q, fun U hU hW => ⟨rfl, hU.trans hH⟩⟩ rfl rfl hl.1 rfl (Nat.zero_le _) (by decide +kernel : decode prog_24_method_155_code 5 = .ok (.invokestatic 1059, 3)) ⟨Nat.le_refl _, Nat.le_refl _⟩) hS (fun _ _ z => z) (fun _ z => z) (fun r u t H1 locs1 ht hvm hp hB hsz hk hS1 => ?_)
  refine lv_pop hx hb (by decide +kernel : decode prog_24_method_155_code 8 = .ok (.pop, 1)) rfl ?_
  exact W.vret hx hb hr (fun t' ht' hW => ⟨⟨(), rfl, trivial, (ht'.trans ht.symm).trans hB⟩, hS1.F ht'⟩) hS1.2.2 (by decide +kernel : decode prog_24_method_155_code 9 = .ok (.return_, 1))
def jch (j : Nat) : Int32 := [102, 99, 112, 106].getD j 0
theorem jch_f : ∀ {j : Nat}, j < 4 → (¬ Int32.ofNat j < 0 ∧ Int32.ofNat j < 4 ∧ vp_in (Int32.ofNat j) 4 ∧ (Int32.ofNat j).toNatClampNeg = j ∧ (((jch j) &&& 255).toUInt32 % 65536).toInt32 = jch j ∧ narrow .char (.int (jch j)) = .int (jch j))
  | 0, _ => ⟨by decide, by decide, by unfold vp_in; decide, by decide, by decide, by decide⟩
  | 1, _ => ⟨by decide, by decide, by unfold vp_in; decide, by decide, by decide, by decide⟩
  | 2, _ => ⟨by decide, by decide, by unfold vp_in; decide, by decide, by decide, by decide⟩
  | 3, _ => ⟨by decide, by decide, by unfold vp_in; decide, by decide, by decide, by decide⟩
theorem jc_Lc (l : Launch) (A : Nat → Prop) (H0 : Heap) {v j : Nat} (hj : j < 4) : Met l jLc (Cond.code jLc prog_26_method_2_code 2 (some .char) :: zW) (jRm 2 43) (va_Pc [.ref v, .int (Int32.ofNat j)] (fun U => U.heap = H0 ∧ va_T .byte v 4 (fun j => .int (([102, 99, 112, 106] : List Int32).getD j 0)) A U U.heap ∧ jQ A U U.heap)) (va_Qi (fun (r : Int32) (_ : Unit) => r = jch j) (fun _ t => t.heap = H0) jF) 0 0 jF := by
  refine Met.ofW (cc := prog_26_method_2_code) (maxL := 2) (ret := some .char) (by decide) rfl ?_
  intro p e s m args below meth c s₁ B hml hv
  obtain ⟨rfl, hH, hT, hQ⟩ := hv
  have hx := B.exec
  have hb := B.bytes
  have hr := B.returns
  have hlocks := B.notSynchronized
  have hts := atoms_spec (ws := Cond.code jLc prog_26_method_2_code 2 (some .char) :: zW) B.pre
  have hz : ∀ w ∈ zW, w.before _ s = true := fun w hw => hts w (List.mem_cons_of_mem _ hw)
  have hown : s.vm.findClass "java/lang/StringLatin1" = some m.cls := findClass_of_methodNamed B.named
  have hS : va_S jF s.heap s.heap [] := va_S.rf
  have hl := lv_entry ([.ref v, .int (Int32.ofNat j)]) (n := 2) (Nat.le_of_ble_eq_true rfl)
  rw [lg_entry_eq]
  generalize (lg_sl ([.ref v, .int (Int32.ofNat j)]) ++ List.replicate (2 - (lg_sl ([.ref v, .int (Int32.ofNat j)])).length) Slot.unset).toArray = ls at hl ⊢
  have hl : lv_has ls 2 [(0, .ref v), (1, .int (Int32.ofNat j))] := hl
  obtain ⟨g1, g2, g3, g4, g5, g6⟩ := jch_f hj
  refine lv_iload_n hx hb (by decide +kernel : decode prog_26_method_2_code 0 = .ok (.iload_n 1, 1)) rfl (lv_at hl 1 rfl) ?_
  refine lv_aload_n hx hb (by decide +kernel : decode prog_26_method_2_code 1 = .ok (.aload_n 0, 1)) rfl (lv_at hl 0 rfl) ?_
  refine va_tlen hx hb hT (jS hS) (v := 4) rfl (by decide +kernel : decode prog_26_method_2_code 2 = .ok (.arraylength, 1)) ?_
  refine va_callv (va_runS (As := [.int (Int32.ofNat j), .int 4]) (rest := []) ⟨hx, hb, hml, hown, hz⟩ (jc_Ci l A H0 g1 g2) ⟨jB hz jw_Ci jw_StI jw_CiL ⟨by decide, by decide, (by decide +kernel : (parseMethodDescriptor jCi.desc).map (fun d => d.parameters.length) = some 2)⟩ ⟨Nat.le_refl _, Nat.le_refl _⟩, hz _ jw_CiS⟩ ⟨fun a U g mk q => ⟨q.1, q.2.1, vx_Zq.moved (u := U) (U := U.calling g mk a) (Vm.Alike.refl U.vm) q.2.2⟩, fun U hU hW => ⟨rfl, hU.trans hH, by rw [hU]; exact vx_Zq.moved hW.alike hQ⟩⟩ rfl rfl hl.1 rfl (Nat.zero_le _) (by decide +kernel : decode prog_26_method_2_code 3 = .ok (.invokestatic 9, 3)) ⟨Nat.le_refl _, Nat.le_refl _⟩) hS (fun _ _ z => z) (fun _ z => z) (fun u t H1 locs1 ht hvm hp hB hsz hk hS1 => ?_)
  refine lv_aload_n hx hb (by decide +kernel : decode prog_26_method_2_code 6 = .ok (.aload_n 0, 1)) rfl (lv_at hl 0 rfl) ?_
  refine lv_iload_n hx hb (by decide +kernel : decode prog_26_method_2_code 7 = .ok (.iload_n 1, 1)) rfl (lv_at hl 1 rfl) ?_
  refine va_tb hx hb hT (jS hS1) g3 (v := .int (jch j)) (by rw [g4]; rfl) (by decide +kernel : decode prog_26_method_2_code 8 = .ok (.baload, 1)) ?_
  refine lv_sipush (v := 255) hx hb (by decide +kernel : decode prog_26_method_2_code 9 = .ok (.sipush 255, 3)) (by decide) ?_
  refine lv_iand hx hb (by decide +kernel : decode prog_26_method_2_code 12 = .ok (.iand, 1)) ?_
  refine lv_i2c (v := jch j) hx hb (by decide +kernel : decode prog_26_method_2_code 13 = .ok (.i2c, 1)) g5 ?_
  exact W.zret (v := jch j) (ty := .char) hx hb hr g6 (fun t' ht' hW => ⟨⟨jch j, (), rfl, rfl, (ht'.trans ht.symm).trans hB⟩, hS1.F ht'⟩) hS1.2.2 (by decide +kernel : decode prog_26_method_2_code 14 = .ok (.ireturn, 1))
abbrev jV (adK adV : Nat → Nat) (A : Nat → Prop) (U : State) (H : Heap) : Prop := vk_S 1 [4] [[102, 99, 112, 106]] adK adV A U H
abbrev jZ (A : Nat → Prop) (U : State) (H : Heap) : Prop := va_Z "java/lang/String" "COMPACT_STRINGS" "Z" (.int 1) A U H
theorem jc_Il (l : Launch) (adK adV : Nat → Nat) (A : Nat → Prop) (H0 : Heap) : Met l jIl (Cond.code jIl prog_24_method_154_code 1 (some .boolean) :: zW) (jRm 0 0) (va_Pc [.ref (adK 0)] (fun U => U.heap = H0 ∧ jV adK adV A U U.heap ∧ jZ A U U.heap)) (va_Qi (fun (r : Int32) (_ : Unit) => r = 1) (fun _ t => t.heap = H0) jF) 0 0 jF := by
  refine Met.ofW (cc := prog_24_method_154_code) (maxL := 1) (ret := some .boolean) (by decide) rfl ?_
  intro p e s m args below meth c s₁ B hml hv
  obtain ⟨rfl, hH, hV, hZ⟩ := hv
  have hx := B.exec
  have hb := B.bytes
  have hr := B.returns
  have hlocks := B.notSynchronized
  have hts := atoms_spec (ws := Cond.code jIl prog_24_method_154_code 1 (some .boolean) :: zW) B.pre
  have hz : ∀ w ∈ zW, w.before _ s = true := fun w hw => hts w (List.mem_cons_of_mem _ hw)
  have hown : s.vm.findClass "java/lang/String" = some m.cls := findClass_of_methodNamed B.named
  have hS : va_S jF s.heap s.heap [] := va_S.rf
  have hl := lv_entry ([.ref (adK 0)]) (n := 1) (Nat.le_of_ble_eq_true rfl)
  rw [lg_entry_eq]
  generalize (lg_sl ([.ref (adK 0)]) ++ List.replicate (1 - (lg_sl ([.ref (adK 0)])).length) Slot.unset).toArray = ls at hl ⊢
  have hl : lv_has ls 1 [(0, .ref (adK 0))] := hl
  refine va_gets hx hb hZ (jS hS) hown (hz _ jw_fC) (fun _ h9 => h9) (by decide +kernel : decode prog_24_method_154_code 0 = .ok (.getstatic 38, 3)) ?_
  refine lv_if_eq hx hb (by decide +kernel : decode prog_24_method_154_code 3 = .ok (.ifCond .eq 14, 3)) (tgt := 17) rfl (fun q => absurd q (by decide)) (fun _ => ?_)
  refine lv_aload_n hx hb (by decide +kernel : decode prog_24_method_154_code 6 = .ok (.aload_n 0, 1)) rfl (lv_at hl 0 rfl) ?_
  refine vk_getf hx hb (hV.1 0 (by decide)).2.1 (jS hS) hown (hz _ jw_fK) (fun _ h9 => h9) (by decide +kernel : decode prog_24_method_154_code 7 = .ok (.getfield 15, 3)) ?_
  refine lv_if_ne hx hb (by decide +kernel : decode prog_24_method_154_code 10 = .ok (.ifCond .ne 7, 3)) (tgt := 17) rfl (fun q => absurd rfl q) (fun _ => ?_)
  refine lv_iconst (v := 1) hx hb (by decide +kernel : decode prog_24_method_154_code 13 = .ok (.iconst 1, 1)) (by decide) ?_
  refine lv_goto hx hb (by decide +kernel : decode prog_24_method_154_code 14 = .ok (.goto 4, 3)) (tgt := 18) rfl ?_
  exact W.zret (v := 1) (ty := .boolean) hx hb hr (by decide) (fun t' ht' hW => ⟨⟨1, (), rfl, rfl, ht'.trans hH⟩, hS.F ht'⟩) hS.2.2 (by decide +kernel : decode prog_24_method_154_code 18 = .ok (.ireturn, 1))
theorem jc_Ca (l : Launch) (adK adV : Nat → Nat) (A : Nat → Prop) (H0 : Heap) {j : Nat} (hj : j < 4) : Met l jCa (Cond.code jCa prog_24_method_56_code 2 (some .char) :: zW) (jRm 3 64) (va_Pc [.ref (adK 0), .int (Int32.ofNat j)] (fun U => U.heap = H0 ∧ jV adK adV A U U.heap ∧ jZ A U U.heap ∧ jQ A U U.heap)) (va_Qi (fun (r : Int32) (_ : Unit) => r = jch j) (fun _ t => t.heap = H0) jF) 0 0 jF := by
  refine Met.ofW (cc := prog_24_method_56_code) (maxL := 2) (ret := some .char) (by decide) rfl ?_
  intro p e s m args below meth c s₁ B hml hv
  obtain ⟨rfl, hH, hV, hZ, hQ⟩ := hv
  have hx := B.exec
  have hb := B.bytes
  have hr := B.returns
  have hlocks := B.notSynchronized
  have hts := atoms_spec (ws := Cond.code jCa prog_24_method_56_code 2 (some .char) :: zW) B.pre
  have hz : ∀ w ∈ zW, w.before _ s = true := fun w hw => hts w (List.mem_cons_of_mem _ hw)
  have hown : s.vm.findClass "java/lang/String" = some m.cls := findClass_of_methodNamed B.named
  have hS : va_S jF s.heap s.heap [] := va_S.rf
  have hl := lv_entry ([.ref (adK 0), .int (Int32.ofNat j)]) (n := 2) (Nat.le_of_ble_eq_true rfl)
  rw [lg_entry_eq]
  generalize (lg_sl ([.ref (adK 0), .int (Int32.ofNat j)]) ++ List.replicate (2 - (lg_sl ([.ref (adK 0), .int (Int32.ofNat j)])).length) Slot.unset).toArray = ls at hl ⊢
  have hl : lv_has ls 2 [(0, .ref (adK 0)), (1, .int (Int32.ofNat j))] := hl
  have g6 := (jch_f hj).2.2.2.2.2
  refine lv_aload_n hx hb (by decide +kernel : decode prog_24_method_56_code 0 = .ok (.aload_n 0, 1)) rfl (lv_at hl 0 rfl) ?_
  refine va_calli (va_runV (As := []) (b := adK 0) (C := "java/lang/String") (rest := []) ⟨hx, hb, hml, hown, hz⟩ (jc_Il l adK adV A H0) ⟨jB hz jw_Il jw_StI jw_IlL ⟨by decide, by decide, (by decide +kernel : (parseMethodDescriptor jIl.desc).map (fun d => d.parameters.length) = some 0)⟩ ⟨(by decide : 0 + 1 ≤ 3), (by decide : 8 + (1 + 11) + 0 ≤ 64)⟩, hz _ jw_IlN, hz _ jw_IlV⟩ ⟨fun a U g mk q => ⟨q.1, q.2.1, vk_S.moved (u := U) (U := U.calling g mk a) (Vm.Alike.refl U.vm) q.2.2.1, va_Z.moved (u := U) (U := U.calling g mk a) (Vm.Alike.refl U.vm) q.2.2.2⟩, vk_recv hV (by decide) (jS hS), fun U hU hW => ⟨rfl, hU.trans hH, by rw [hU]; exact vk_S.moved hW.alike hV, by rw [hU]; exact va_Z.moved hW.alike hZ⟩⟩ rfl rfl hl.1 rfl (Nat.zero_le _) (by decide +kernel : decode prog_24_method_56_code 1 = .ok (.invokevirtual 492, 3)) ⟨Nat.le_refl _, Nat.le_refl _⟩) hS (fun _ _ z => z) (fun _ z => z) (fun r u t H1 locs1 ht hvm hp hB hsz hk hS1 => ?_)
  have hH1 : H1 = H0 := ht.symm.trans hB
  subst hp
  refine lv_if_eq hx hb (by decide +kernel : decode prog_24_method_56_code 4 = .ok (.ifCond .eq 12, 3)) (tgt := 16) rfl (fun q => absurd q (by decide)) (fun _ => ?_)
  refine lv_aload_n hx hb (by decide +kernel : decode prog_24_method_56_code 7 = .ok (.aload_n 0, 1)) rfl (lv_at hl 0 rfl) ?_
  refine vk_getf hx hb (hV.1 0 (by decide)).2.2.1 (jS hS1) hown (hz _ jw_fV) (fun _ h9 => h9) (by decide +kernel : decode prog_24_method_56_code 8 = .ok (.getfield 9, 3)) ?_
  refine lv_iload_n hx hb (by decide +kernel : decode prog_24_method_56_code 11 = .ok (.iload_n 1, 1)) rfl (lv_at hl 1 rfl) ?_
  refine va_calli (va_runS (As := [.ref (adV 0), .int (Int32.ofNat j)]) (rest := []) ⟨hx, hb, hml, hown, hz⟩ (jc_Lc l A H0 hj) ⟨jB hz jw_Lc jw_L1I jw_LcL ⟨by decide, by decide, (by decide +kernel : (parseMethodDescriptor jLc.desc).map (fun d => d.parameters.length) = some 2)⟩ ⟨Nat.le_refl _, Nat.le_refl _⟩, hz _ jw_LcS⟩ ⟨fun a U g mk q => ⟨q.1, q.2.1, va_T.moved (u := U) (U := U.calling g mk a) (Vm.Alike.refl U.vm) q.2.2.1, vx_Zq.moved (u := U) (U := U.calling g mk a) (Vm.Alike.refl U.vm) q.2.2.2⟩, fun U hU hW => ⟨rfl, hU.trans hH1, by rw [hU, hH1, ← hH]; exact va_T.moved hW.alike (hV.1 0 (by decide)).2.2.2, by rw [hU, hH1, ← hH]; exact vx_Zq.moved hW.alike hQ⟩⟩ rfl rfl hl.1 rfl (Nat.zero_le _) (by decide +kernel : decode prog_24_method_56_code 12 = .ok (.invokestatic 495, 3)) ⟨Nat.le_refl _, Nat.le_refl _⟩) hS1 (fun _ _ z => z) (fun _ z => z) (fun r u t H2 locs2 ht2 hvm2 hp2 hB2 hsz2 hk2 hS2 => ?_)
  subst hp2
  exact W.zret (v := jch j) (ty := .char) hx hb hr g6 (fun t' ht' hW => ⟨⟨jch j, (), rfl, rfl, (ht'.trans ht2.symm).trans hB2⟩, hS2.F ht'⟩) hS2.2.2 (by decide +kernel : decode prog_24_method_56_code 15 = .ok (.ireturn, 1))
/-- the place in the text as the law computes it -/
theorem jix {w : Int32} (h0 : 0 ≤ w.toInt) : ∃ j : Nat, j < 4 ∧ w / 156 - w / 156 / 4 * 4 = Int32.ofNat j ∧ zfc w.toInt = jch j := by
  have hw := w.toInt_lt
  have e1 : w / 156 = Int32.ofInt (w.toInt / 156) := by
    have q := Int32.ofInt_tdiv (a := w.toInt) (b := 156) w.minValue_le_toInt w.toInt_le (by decide) (by decide)
    rw [Int.tdiv_eq_ediv_of_nonneg h0, Int32.ofInt_toInt] at q
    exact q.symm
  have e2 : w / 156 / 4 = Int32.ofInt (w.toInt / 156 / 4) := by
    have q := Int32.ofInt_tdiv (a := w.toInt / 156) (b := 4) (Int.le_trans (show Int32.minValue.toInt ≤ 0 by decide) (by omega)) (Int.le_trans (show w.toInt / 156 ≤ 2147483647 by omega) (show (2147483647 : Int) ≤ Int32.maxValue.toInt by decide)) (by decide) (by decide)
    rw [Int.tdiv_eq_ediv_of_nonneg (by omega)] at q
    rw [e1]
    exact q.symm
  have e3 : w / 156 - w / 156 / 4 * 4 = Int32.ofInt (w.toInt / 156 % 4) := by
    rw [e2, e1, show (4 : Int32) = Int32.ofInt 4 from rfl, ← Int32.ofInt_mul, ← Int32.ofInt_sub]
    congr 1
    omega
  rw [e3]
  unfold zfc
  generalize hq : w.toInt / 156 % 4 = q
  have hb : q = 0 ∨ q = 1 ∨ q = 2 ∨ q = 3 := by omega
  clear hq e1 e2 e3
  rcases hb with rfl | rfl | rfl | rfl
  · exact ⟨0, by decide, rfl, rfl⟩
  · exact ⟨1, by decide, rfl, rfl⟩
  · exact ⟨2, by decide, rfl, rfl⟩
  · exact ⟨3, by decide, rfl, rfl⟩
theorem zcat9 : ∀ (st : zS), (st.map fun v => v.category).sum ≤ 2 * st.length
  | [] => Nat.le_refl 0
  | v :: st => by
    have h1 := zcat9 st
    have h2 : v.category ≤ 2 := by cases v <;> simp [Value.category]
    simp only [List.map_cons, List.sum_cons, List.length_cons]
    omega
section ZCH
variable {p : Program} {l : Launch} {e : Env} {R : Room} {s : State} {m : MethodId} {args : Array Value} {below : List Frame} {meth : Method} {c : Code} {Q : State → Prop}
variable {k pc nx tg : Nat} {aux : List Nat} {D : va_G} {cs : Nat → ClassId} {A : Nat → Prop} {b e1 mi L : Nat} {xs : Nat → Int32} {ρ : Nat → Nat} {ls : zL} {st : zS} {h : zH} {lsC : Array Slot} {H : Heap} {locs : List Loc} {cells slots : Nat}
theorem zs_char {n v : Nat} {w : Int32} (C : zCtx k D cs A b e1 mi L xs p R s m args meth c) (hown : zOwn.getD (zOI k) "" = (zY k).cls) (hz : zch k pc n v nx) (hw : lget ls v = some (.int w)) (h0 : 0 ≤ w.toInt) (hL : zLR ρ ls lsC) (hml : c.maxLocals = ls.length) (hR : zHR D cs A ρ h H) (hS : va_S A s.heap H locs) (hlen : st.length ≤ 3) (hcs : cells ≤ R.cells ∧ slots ≤ R.slots) (kk : zKg p l e R s m args below meth c Q D cs A ρ h cells slots (nx, ls, .int (zfc w.toInt) :: st, h)) : zWg p l e R s m args below meth c Q ρ pc lsC st H locs cells slots := by
  obtain ⟨hst, h8, rfl, d0, d2, d4, d7, d8, d9, d10, rfl⟩ := hz
  have hx := C.1
  have hb := C.2.1
  have hcls : (zY k).cls = "PlayoutChainLaw" := by rw [← hown, h8]; rfl
  have hOwn : s.vm.findClass "PlayoutChainLaw" = some m.cls := by rw [← hcls]; exact C.2.2.1
  have hzw : ∀ w ∈ zW, w.before args s = true := fun w hw => C.word hw
  have hlk : (Cond.methodLink "PlayoutChainLaw" 222 jCa : Jvm.Cond) ∈ zW := zW_in 1290 (by decide +kernel) (by decide +kernel)
  have hR8 := zR8 C
  obtain ⟨⟨adK, adV, hV, hRf⟩, hZ, hQ⟩ := C.2.2.2.2.2.2.2.2.2.2.2.2.2.2.2.2.2.1
  obtain ⟨j, hj, ej, ec⟩ := jix h0
  have hl1 : lsC[v]? = some (.val (.int w)) := hL.2.2 _ _ hw
  have hsum : ((st.map (vmap ρ)).map fun v => v.category).sum ≤ 8 := by
    rw [zcat]
    have := zcat9 st
    omega
  refine va_ldcS hx hb hOwn hRf d0 ?_
  refine lv_iload hx hb d2 hl1 ?_
  refine lv_sipush (v := 156) hx hb d4 (by decide) ?_
  refine lv_idiv hx hb d7 (by decide) ?_
  refine lv_iconst (v := 4) hx hb d8 (by decide) ?_
  refine lv_irem hx hb d9 (by decide) ?_
  rw [ej]
  refine va_calli (va_runV (As := [.int (Int32.ofNat j)]) (b := adK 0) (C := "java/lang/String") (rest := st.map (vmap ρ)) ⟨hx, hb, hml.trans hL.1.symm, hOwn, hzw⟩ (jc_Ca l adK adV A H hj) ⟨jB hzw jw_Ca jw_StI hlk ⟨by decide, by decide, (by decide +kernel : (parseMethodDescriptor jCa.desc).map (fun d => d.parameters.length) = some 1)⟩ ⟨by omega, by omega⟩, hzw _ jw_CaN, hzw _ jw_CaV⟩ ⟨fun a U g mk q => ⟨q.1, q.2.1, vk_S.moved (u := U) (U := U.calling g mk a) (Vm.Alike.refl U.vm) q.2.2.1, va_Z.moved (u := U) (U := U.calling g mk a) (Vm.Alike.refl U.vm) q.2.2.2.1, vx_Zq.moved (u := U) (U := U.calling g mk a) (Vm.Alike.refl U.vm) q.2.2.2.2⟩, vk_recv hV (by decide) hS, fun U hU hW => ⟨rfl, hU, by rw [hU]; exact vk_S.moved hW.alike (vk_S.kept hV hS.2.1), by rw [hU]; exact va_Z.moved hW.alike (va_Z.kept hZ hS.2.1), by rw [hU]; exact vx_Zq.moved hW.alike (vx_Zq.kept hQ hS.2.1)⟩⟩ rfl rfl rfl rfl (by show 2 * 0 + _ ≤ 8; omega) d10 ⟨hcs.1, hcs.2⟩) hS (fun _ _ z => z.elim) (fun _ z => z.elim) (fun r u t H1 locs1 ht hvm hp hB hsz hk hS1 => ?_)
  have hH1 : H1 = H := ht.symm.trans hB
  subst hH1
  subst hp
  rw [← ec]
  exact zKg.same kk rfl hR hS1 lsC hL
end ZCH

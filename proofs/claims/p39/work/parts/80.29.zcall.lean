/-! calls -/
theorem zlv_mem : ∀ {vs : List Value} {i0 i : Nat} {v : Value}, (∀ v ∈ vs, v.category ≠ 2) → vs[i]? = some v → (i0 + i, v) ∈ lv_args i0 vs
  | [], _, _, _, _, h => by simp at h
  | a :: vs, i0, 0, v, _, h => by
    cases h
    exact List.mem_cons_self
  | a :: vs, i0, i + 1, v, hc, h => by
    have h1 : a.category ≠ 2 := hc a List.mem_cons_self
    have := zlv_mem (i0 := i0 + 1) (i := i) (fun v hv => hc v (List.mem_cons_of_mem _ hv)) (by simpa using h)
    unfold lv_args
    rw [if_neg h1]
    refine List.mem_cons_of_mem _ ?_
    rwa [show i0 + (i + 1) = i0 + 1 + i by omega]
theorem zsl_len : ∀ {vs : List Value}, (∀ v ∈ vs, v.category ≠ 2) → (lg_sl vs).length = vs.length
  | [], _ => rfl
  | a :: vs, hc => by
    have h1 : a.category ≠ 2 := hc a List.mem_cons_self
    have := zsl_len (vs := vs) (fun v hv => hc v (List.mem_cons_of_mem _ hv))
    unfold lg_sl at this ⊢
    rw [List.flatMap_cons, if_neg h1, List.length_append, this]
    simp [Nat.add_comm]
theorem zentry_LR {ρ : Nat → Nat} {n : Nat} {as : List Value} (h1 : as.all zc1 = true) (hn : as.length ≤ n) : ∃ lsC : Array Slot, zLR ρ (zentry n as) lsC ∧ ∀ m : MethodId, entryFrame m (as.map (vmap ρ)).toArray n = F0 m 0 lsC [] := by
  have hc : ∀ v ∈ as.map (vmap ρ), v.category ≠ 2 := by
    intro v hv
    obtain ⟨w, hw, rfl⟩ := List.mem_map.mp hv
    rw [zc1_cat (ρ := ρ) (List.all_eq_true.mp h1 w hw)]
    decide
  have hl := zsl_len hc
  have hE := lv_entry (as.map (vmap ρ)) (n := n) (by rw [hl, List.length_map]; exact hn)
  refine ⟨_, ⟨hE.1.trans (zentry_len n as).symm, hE.2.1, fun i v hv => ?_⟩, fun m => lg_entry_eq m (as.map (vmap ρ)) n⟩
  have hi := zentry_get hv
  have := hE.2.2 (0 + i, vmap ρ v) (zlv_mem hc (by rw [List.getElem?_map, hi]; rfl))
  simpa using this
/-- a contract from a body's walk -/
theorem zofW {y : MethodName} {ws ws' : List Cond} {rm : Room} {l : Launch} {Pc : Array Value → State → Prop} {Qc : Array Value → State → Outcome → State → Prop} {XC : String → State → State → Prop} {mc ms : Nat} {free : Addr → Prop} {cc : ByteArray} {maxL : Nat} {ret : Option FieldType}
    (hy : plainFor y = true) (hw : ws = Cond.code y cc maxL ret :: ws')
    (body : ∀ p e s m args below meth c s₁, BodyLoose p l y (headSpec ws rm) cc maxL ret e s m args below meth c s₁ → c.maxLocals = maxL → c.exceptionTable.toList = [] → Pc args s →
      W p l e (headSpec ws rm).room s m args below meth c s.heap [] 0 0 (vx_MQ below Qc XC args s mc ms free) (entryFrame m args maxL)) : vx_Met l y ws rm Pc Qc XC mc ms free := by
  refine MetFree.of_bodySF (code := cc) (maxLocals := maxL) (ret := ret) hy ?_ ?_
  · intro args s m h hn
    obtain ⟨meth, c, h1, h2, h3, h4, h5, h6, -, -⟩ := Cond.code_spec hn (atoms_spec (ws := ws) h _ (by rw [hw]; exact List.mem_cons_self))
    exact ⟨meth, c, h1, h2, h3, h4, h5, h6⟩
  · intro p e s m args below meth c s₁ B hml hP _
    have hh0 : s₁.heap = s.heap := by rw [B.state]; rfl
    have ht : c.exceptionTable.toList = [] := by
      obtain ⟨meth9, c9, h1, h2, -, -, -, -, h7, -⟩ := Cond.code_spec B.named (atoms_spec (ws := ws) B.pre _ (by rw [hw]; exact List.mem_cons_self))
      cases Option.some.inj (h1.symm.trans B.method)
      cases Option.some.inj (h2.symm.trans (Stand.of_body B).code)
      rw [Array.isEmpty_iff.mp h7]
    obtain ⟨t, a1, o, b1, b2, b3⟩ := body p e s m args below meth c s₁ B hml ht hP s₁ hh0 (Stand.of_body B)
    exact ⟨t, o, a1, b1, b2, b3⟩
/-- from a place of a method on: what its run gives, on the machine -/
def zPhi (D : va_G) (cs : Nat → ClassId) (A : Nat → Prop) (b e1 mi L : Nat) (xs : Nat → Int32) (l : Launch) (k pc : Nat) (ls : zL) (st : zS) (h : zH) (q : zR × zH) : Prop :=
  ∀ (p : Program) (e : Env) (R : Room) (s : State) (m : MethodId) (args : Array Value) (below : List Frame) (meth : Method) (c : Code) (Qc : Array Value → State → Outcome → State → Prop) (XC : String → State → State → Prop) (mc ms : Nat) (ρ : Nat → Nat) (lsC : Array Slot) (H : Heap) (locs : List Loc) (cells slots : Nat),
    zEnv k D cs A b e1 mi L xs p l R s m args meth c → zFm k D cs A b e1 mi L xs s ρ ls st h lsC H locs →
    cells + (zuc q.2 - zuc h) ≤ mc ∧ slots + (zus q.2 - zus h) ≤ ms → mc ≤ R.cells ∧ ms ≤ R.slots → zEnd D cs A args s Qc XC ρ (zn h) q →
    W p l e R s m args below meth c H locs cells slots (vx_MQ below Qc XC args s mc ms A) (F0 m pc lsC (st.map (vmap ρ)))
def zPc (D : va_G) (cs : Nat → ClassId) (A : Nat → Prop) (b e1 mi L : Nat) (xs : Nat → Int32) (ρ : Nat → Nat) (as : List Value) (h : zH) : Array Value → State → Prop := fun v U => v = (as.map (vmap ρ)).toArray ∧ zGS D cs A b e1 mi L xs U ∧ zHR D cs A ρ h U.heap
def zQc (D : va_G) (cs : Nat → ClassId) (A : Nat → Prop) (ρ : Nat → Nat) (n : Nat) (q : zR × zH) : Array Value → State → Outcome → State → Prop := fun _ st o t => (∃ v ρ', q.1 = .inl v ∧ o = .returned (v.map (vmap ρ')) ∧ Ext n ρ ρ' ∧ zHR D cs A ρ' q.2 t.heap) ∧ va_F A st t
def zXc (D : va_G) (cs : Nat → ClassId) (A : Nat → Prop) (ρ : Nat → Nat) (n : Nat) (q : zR × zH) : String → State → State → Prop := fun E st t => (∃ x ρ', q.1 = .inr x ∧ E = zEx x ∧ Ext n ρ ρ' ∧ zHR D cs A ρ' q.2 t.heap) ∧ va_F A st t
theorem zCl_plain : zCl.all (fun j => match zHH j with | none => true | some _ => plainName (zY j).cls) = true := by decide +kernel
theorem zCl_lt : ∀ j ∈ zCl, j < 244 := by decide +kernel
theorem zmet_of {D : va_G} {cs : Nat → ClassId} {A : Nat → Prop} {b e1 mi L : Nat} {xs : Nat → Int32} {l : Launch} {j : Nat} {as : List Value} {h : zH} {q : zR × zH} {ρ : Nat → Nat} (hph : zPhi D cs A b e1 mi L xs l j 0 (zentry (zML j) as) [] h q) (has : as.length ≤ zML j) (has1 : as.all zc1 = true) (hI : zINV L xs h) (hsk : zSOK (zn h) as) (hj : j ∈ zCl) (hρ : ρ 0 = b ∧ ρ 1 = e1 ∧ ρ 2 = mi) (htr : l.stackTraces = false) :
    vx_Met l (zY j) (zHd j :: zW) (zrm j (zuc q.2 - zuc h) (zus q.2 - zus h)) (zPc D cs A b e1 mi L xs ρ as h) (zQc D cs A ρ (zn h) q) (zXc D cs A ρ (zn h) q) (zuc q.2 - zuc h) (zus q.2 - zus h) A := by
  have hdesc := List.all_eq_true.mp zCl_desc j hj
  simp only [Bool.and_eq_true] at hdesc
  obtain ⟨lsC, hLR, hfr⟩ := zentry_LR (ρ := ρ) (n := zML j) has1 has
  have body : ∀ p e s m args below meth c s₁, BodyLoose p l (zY j) (headSpec (zHd j :: zW) (zrm j (zuc q.2 - zuc h) (zus q.2 - zus h))) (zB j) (zML j) (zRT j) e s m args below meth c s₁ → c.maxLocals = zML j → c.exceptionTable.toList = zTb j → zPc D cs A b e1 mi L xs ρ as h args s →
      W p l e (headSpec (zHd j :: zW) (zrm j (zuc q.2 - zuc h) (zus q.2 - zus h))).room s m args below meth c s.heap [] 0 0 (vx_MQ below (zQc D cs A ρ (zn h) q) (zXc D cs A ρ (zn h) q) args s (zuc q.2 - zuc h) (zus q.2 - zus h) A) (entryFrame m args (zML j)) := by
    intro p e s m args below meth c s₁ B hml htb hP
    obtain ⟨ha, hG, hR⟩ := hP
    have hat := atoms_spec (ws := zHd j :: zW) B.pre
    have E : zEnv j D cs A b e1 mi L xs p l (headSpec (zHd j :: zW) (zrm j (zuc q.2 - zuc h) (zus q.2 - zus h))).room s m args meth c :=
      ⟨hG, B.exec, B.bytes, findClass_of_methodNamed B.named, fun w hw => hat w (List.mem_cons_of_mem _ hw), hml, (name_of_methodNamed B.named B.method).1, B.returns, B.notSynchronized, htb, ⟨Nat.le_refl _, Nat.le_refl _⟩, htr, zCl_lt j hj⟩
    rw [ha, hfr m, ← ha]
    exact hph p e _ s m args below meth c _ _ _ _ ρ lsC s.heap [] 0 0 E
      ⟨zentry_len _ _, hI, hLR, zLOK_entry hsk, zSOK_nil.mpr trivial, hR, ⟨Nat.le_refl _, fun _ _ _ => rfl, fun l hl => nomatch hl⟩, hρ⟩ ⟨by omega, by omega⟩ ⟨Nat.le_refl _, Nat.le_refl _⟩
      ⟨fun v hv ρ' t hx hR' hF _ => ⟨⟨v, ρ', hv, rfl, hx, hR'⟩, hF⟩, fun x hx9 ρ' t hx hR' hF _ => ⟨⟨x, ρ', hx9, rfl, hx, hR'⟩, hF⟩⟩
  cases hH : zHH j with
  | none =>
    have hd : zHd j = .code (zY j) (zB j) (zML j) (zRT j) := by unfold zHd; rw [hH]
    refine zofW (cc := zB j) (maxL := zML j) (ret := zRT j) (ws' := zW) hdesc.2 (by rw [hd]) ?_
    intro p e s m args below meth c s₁ B hml htb hP
    exact body p e s m args below meth c s₁ B hml (by rw [htb]; unfold zTb; rw [hH]) hP
  | some hh =>
    have hd : zHd j = .codeWith (zY j) (zB j) (zML j) (zRT j) hh := by unfold zHd; rw [hH]
    refine vx_ofWH (cc := zB j) (maxL := zML j) (ret := zRT j) (hh := hh) (ws' := zW) ?_ (by rw [hd]) ?_
    · have := List.all_eq_true.mp zCl_plain j hj
      rwa [hH] at this
    · intro p e s m args below meth c s₁ B hml hP
      refine body p e s m args below meth c s₁ B hml ?_ hP
      have := vx_table (x := zY j) B (y := zY j) (bytes := zB j) (maxL' := zML j) (ret' := zRT j) (hh := hh) (atoms_spec (ws := zHd j :: zW) B.pre _ (by rw [hd]; exact List.mem_cons_self))
      rw [this]
      unfold zTb
      rw [hH]

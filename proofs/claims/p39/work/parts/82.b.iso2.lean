/-! .. a step -/
/-- what a step gives, in the other heap -/
def zSw2 (d a0 b0 : Nat) (i : Instr) (nx tg : Nat) (aux : List Nat) (ls : zL) (st : zS) (h' : zH) (r : Nat × zL × zS × zH) : Prop := ∃ h2', zpure i nx tg aux (lsg d ls) (st.map (vmap (sg d))) h' = some (r.1, lsg d r.2.1, r.2.2.1.map (vmap (sg d)), h2') ∧ SW d a0 b0 r.2.2.2 h2' ∧ NGl r.2.1 ∧ NGs r.2.2.1
section SWP
variable {d a0 b0 nx tg : Nat} {aux : List Nat} {ls : zL} {st : zS} {h h' : zH}
theorem zlo_sw {so n : Nat} {r : Nat × zL × zS × zH} (R : SW d a0 b0 h h') (hl : NGl ls) (hs : NGs st) (hp : zlo so n nx ls st h = some r) : ∃ h2', zlo so n nx (lsg d ls) (st.map (vmap (sg d))) h' = some (r.1, lsg d r.2.1, r.2.2.1.map (vmap (sg d)), h2') ∧ SW d a0 b0 r.2.2.2 h2' ∧ NGl r.2.1 ∧ NGs r.2.2.1 := by
  obtain ⟨v, h1, h2, rfl⟩ := zp_lo hp
  refine ⟨h', ?_, R, hl, NGs_cons.mpr ⟨hl _ _ h1, hs⟩⟩
  unfold zlo
  rw [lget_sg, h1]
  simp only [Option.map_some, zso_sg, h2, if_true]
  rfl
theorem zsto_sw {so n : Nat} {r : Nat × zL × zS × zH} (R : SW d a0 b0 h h') (hl : NGl ls) (hs : NGs st) (hp : zsto so n nx ls st h = some r) : ∃ h2', zsto so n nx (lsg d ls) (st.map (vmap (sg d))) h' = some (r.1, lsg d r.2.1, r.2.2.1.map (vmap (sg d)), h2') ∧ SW d a0 b0 r.2.2.2 h2' ∧ NGl r.2.1 ∧ NGs r.2.2.1 := by
  obtain ⟨v, st', l', rfl, h2, h3, rfl⟩ := zp_sto hp
  rw [NGs_cons] at hs
  refine ⟨h', ?_, R, hl.put hs.1 h3, hs.2⟩
  show (if zso (vmap (sg d) v) = so then (lst (lsg d ls) n (vmap (sg d) v)).map (fun l => (nx, l, st'.map (vmap (sg d)), h')) else none) = _
  rw [zso_sg, if_pos h2, lst_sg, h3]
  rfl
theorem zsto2_sw {so n : Nat} {r : Nat × zL × zS × zH} (R : SW d a0 b0 h h') (hl : NGl ls) (hs : NGs st) (hp : zsto2 so n nx ls st h = some r) : ∃ h2', zsto2 so n nx (lsg d ls) (st.map (vmap (sg d))) h' = some (r.1, lsg d r.2.1, r.2.2.1.map (vmap (sg d)), h2') ∧ SW d a0 b0 r.2.2.2 h2' ∧ NGl r.2.1 ∧ NGs r.2.2.1 := by
  obtain ⟨v, st', l', rfl, h2, h3, rfl⟩ := zp_sto2 hp
  rw [NGs_cons] at hs
  refine ⟨h', ?_, R, hl.put2 hs.1 h3, hs.2⟩
  show (if zso (vmap (sg d) v) = so then (lst2 (lsg d ls) n (vmap (sg d) v)).map (fun l => (nx, l, st'.map (vmap (sg d)), h')) else none) = _
  rw [zso_sg, if_pos h2, lst2_sg, h3]
  rfl
theorem zald_sw {kd so : Nat} {r : Nat × zL × zS × zH} (R : SW d a0 b0 h h') (hl : NGl ls) (hs : NGs st) (hp : zald kd so nx ls st h = some r) : ∃ h2', zald kd so nx (lsg d ls) (st.map (vmap (sg d))) h' = some (r.1, lsg d r.2.1, r.2.2.1.map (vmap (sg d)), h2') ∧ SW d a0 b0 r.2.2.2 h2' ∧ NGl r.2.1 ∧ NGs r.2.2.1 := by
  obtain ⟨i, a, st', rfl, h1, h2, rfl⟩ := zp_ald hp
  rw [NGs_cons, NGs_cons, NGv_ref] at hs
  obtain ⟨-, g3, g4⟩ := R.at hs.2.1 |>.2
  refine ⟨h', ?_, R, hl, NGs_cons.mpr ⟨g4 _, hs.2.2⟩⟩
  show (if zin h' kd (sg d a) i then (if zso (zm h' (sg d a) i.toInt.toNat) = so then some (nx, lsg d ls, zm h' (sg d a) i.toInt.toNat :: st'.map (vmap (sg d)), h') else none) else none) = _
  rw [if_pos ((R.inn hs.2.1).mpr h1), g3, zso_sg, if_pos h2]
  rfl
theorem zast_sw {kd : Nat} {v : Value} {i : Int32} {a : Nat} {r : Nat × zL × zS × zH} (R : SW d a0 b0 h h') (hl : NGl ls) (hs : NGs st) (ha : gdm a) (hv : NGv v) (hp : zast kd nx v i a ls st h = some r) : ∃ h2', zast kd nx (vmap (sg d) v) i (sg d a) (lsg d ls) (st.map (vmap (sg d))) h' = some (r.1, lsg d r.2.1, r.2.2.1.map (vmap (sg d)), h2') ∧ SW d a0 b0 r.2.2.2 h2' ∧ NGl r.2.1 ∧ NGs r.2.2.1 := by
  obtain ⟨h1, rfl⟩ := zp_ast hp
  refine ⟨_, ?_, R.put ha hv, hl, hs⟩
  unfold zast
  rw [if_pos ((R.inn ha).mpr h1)]
set_option maxHeartbeats 4000000 in
theorem zpure_sw {i : Instr} {r : Nat × zL × zS × zH} (R : SW d a0 b0 h h') (hl : NGl ls) (hs : NGs st) (hp : zpure i nx tg aux ls st h = some r) : zSw2 d a0 b0 i nx tg aux ls st h' r := by
  have hd := R.1
  cases i
  case iload n =>
    exact zlo_sw R hl hs hp
  case iload_n n =>
    exact zlo_sw R hl hs hp
  case lload n =>
    exact zlo_sw R hl hs hp
  case lload_n n =>
    exact zlo_sw R hl hs hp
  case fload n =>
    exact zlo_sw R hl hs hp
  case fload_n n =>
    exact zlo_sw R hl hs hp
  case aload n =>
    exact zlo_sw R hl hs hp
  case aload_n n =>
    exact zlo_sw R hl hs hp
  case istore n =>
    exact zsto_sw R hl hs hp
  case istore_n n =>
    exact zsto_sw R hl hs hp
  case fstore n =>
    exact zsto_sw R hl hs hp
  case fstore_n n =>
    exact zsto_sw R hl hs hp
  case astore n =>
    exact zsto_sw R hl hs hp
  case astore_n n =>
    exact zsto_sw R hl hs hp
  case lstore n =>
    exact zsto2_sw R hl hs hp
  case lstore_n n =>
    exact zsto2_sw R hl hs hp
  case iconst n =>
    cases hp
    refine ⟨h', rfl, R, hl, ?_⟩
    first | exact hs | (simp only [NGs_cons, NGv_int, NGv_long, NGv_float, NGv_double, NGv_null, NGv_ref, true_and, and_true] at hs ⊢ <;> first | exact hs | exact hs.2 | exact hs.2.2 | (simp_all; done)) | (simp only [NGs_cons, NGv_int, NGv_long, NGv_float, NGv_double, NGv_null, NGv_ref, true_and, and_true] <;> first | exact hs | (simp_all; done))
  case lconst n =>
    cases hp
    refine ⟨h', rfl, R, hl, ?_⟩
    first | exact hs | (simp only [NGs_cons, NGv_int, NGv_long, NGv_float, NGv_double, NGv_null, NGv_ref, true_and, and_true] at hs ⊢ <;> first | exact hs | exact hs.2 | exact hs.2.2 | (simp_all; done)) | (simp only [NGs_cons, NGv_int, NGv_long, NGv_float, NGv_double, NGv_null, NGv_ref, true_and, and_true] <;> first | exact hs | (simp_all; done))
  case aconst_null =>
    cases hp
    refine ⟨h', rfl, R, hl, ?_⟩
    first | exact hs | (simp only [NGs_cons, NGv_int, NGv_long, NGv_float, NGv_double, NGv_null, NGv_ref, true_and, and_true] at hs ⊢ <;> first | exact hs | exact hs.2 | exact hs.2.2 | (simp_all; done)) | (simp only [NGs_cons, NGv_int, NGv_long, NGv_float, NGv_double, NGv_null, NGv_ref, true_and, and_true] <;> first | exact hs | (simp_all; done))
  case bipush n =>
    cases hp
    refine ⟨h', rfl, R, hl, ?_⟩
    first | exact hs | (simp only [NGs_cons, NGv_int, NGv_long, NGv_float, NGv_double, NGv_null, NGv_ref, true_and, and_true] at hs ⊢ <;> first | exact hs | exact hs.2 | exact hs.2.2 | (simp_all; done)) | (simp only [NGs_cons, NGv_int, NGv_long, NGv_float, NGv_double, NGv_null, NGv_ref, true_and, and_true] <;> first | exact hs | (simp_all; done))
  case sipush n =>
    cases hp
    refine ⟨h', rfl, R, hl, ?_⟩
    first | exact hs | (simp only [NGs_cons, NGv_int, NGv_long, NGv_float, NGv_double, NGv_null, NGv_ref, true_and, and_true] at hs ⊢ <;> first | exact hs | exact hs.2 | exact hs.2.2 | (simp_all; done)) | (simp only [NGs_cons, NGv_int, NGv_long, NGv_float, NGv_double, NGv_null, NGv_ref, true_and, and_true] <;> first | exact hs | (simp_all; done))
  case goto o =>
    cases hp
    refine ⟨h', rfl, R, hl, ?_⟩
    first | exact hs | (simp only [NGs_cons, NGv_int, NGv_long, NGv_float, NGv_double, NGv_null, NGv_ref, true_and, and_true] at hs ⊢ <;> first | exact hs | exact hs.2 | exact hs.2.2 | (simp_all; done)) | (simp only [NGs_cons, NGv_int, NGv_long, NGv_float, NGv_double, NGv_null, NGv_ref, true_and, and_true] <;> first | exact hs | (simp_all; done))
  case fconst n =>
    simp only [zpure] at hp
    split at hp
    · rename_i q
      cases hp
      exact ⟨h', by simp only [zpure, q, if_true]; rfl, R, hl, NGs_cons.mpr ⟨NGv_float.mpr trivial, hs⟩⟩
    · rename_i q
      split at hp
      · rename_i q2
        cases hp
        exact ⟨h', by simp only [zpure, q, q2, if_true, if_false]; rfl, R, hl, NGs_cons.mpr ⟨NGv_float.mpr trivial, hs⟩⟩
      · rename_i q2
        cases hp
        exact ⟨h', by simp only [zpure, q, q2, if_false]; rfl, R, hl, NGs_cons.mpr ⟨NGv_float.mpr trivial, hs⟩⟩
  case iadd =>
    simp only [zpure] at hp
    split at hp <;> first | contradiction | skip
    cases hp
    refine ⟨h', rfl, R, hl, ?_⟩
    first | exact hs | (simp only [NGs_cons, NGv_int, NGv_long, NGv_float, NGv_double, NGv_null, NGv_ref, true_and, and_true] at hs ⊢ <;> first | exact hs | exact hs.2 | exact hs.2.2 | (simp_all; done)) | (simp only [NGs_cons, NGv_int, NGv_long, NGv_float, NGv_double, NGv_null, NGv_ref, true_and, and_true] <;> first | exact hs | (simp_all; done))
  case isub =>
    simp only [zpure] at hp
    split at hp <;> first | contradiction | skip
    cases hp
    refine ⟨h', rfl, R, hl, ?_⟩
    first | exact hs | (simp only [NGs_cons, NGv_int, NGv_long, NGv_float, NGv_double, NGv_null, NGv_ref, true_and, and_true] at hs ⊢ <;> first | exact hs | exact hs.2 | exact hs.2.2 | (simp_all; done)) | (simp only [NGs_cons, NGv_int, NGv_long, NGv_float, NGv_double, NGv_null, NGv_ref, true_and, and_true] <;> first | exact hs | (simp_all; done))
  case imul =>
    simp only [zpure] at hp
    split at hp <;> first | contradiction | skip
    cases hp
    refine ⟨h', rfl, R, hl, ?_⟩
    first | exact hs | (simp only [NGs_cons, NGv_int, NGv_long, NGv_float, NGv_double, NGv_null, NGv_ref, true_and, and_true] at hs ⊢ <;> first | exact hs | exact hs.2 | exact hs.2.2 | (simp_all; done)) | (simp only [NGs_cons, NGv_int, NGv_long, NGv_float, NGv_double, NGv_null, NGv_ref, true_and, and_true] <;> first | exact hs | (simp_all; done))
  case iand =>
    simp only [zpure] at hp
    split at hp <;> first | contradiction | skip
    cases hp
    refine ⟨h', rfl, R, hl, ?_⟩
    first | exact hs | (simp only [NGs_cons, NGv_int, NGv_long, NGv_float, NGv_double, NGv_null, NGv_ref, true_and, and_true] at hs ⊢ <;> first | exact hs | exact hs.2 | exact hs.2.2 | (simp_all; done)) | (simp only [NGs_cons, NGv_int, NGv_long, NGv_float, NGv_double, NGv_null, NGv_ref, true_and, and_true] <;> first | exact hs | (simp_all; done))
  case ior =>
    simp only [zpure] at hp
    split at hp <;> first | contradiction | skip
    cases hp
    refine ⟨h', rfl, R, hl, ?_⟩
    first | exact hs | (simp only [NGs_cons, NGv_int, NGv_long, NGv_float, NGv_double, NGv_null, NGv_ref, true_and, and_true] at hs ⊢ <;> first | exact hs | exact hs.2 | exact hs.2.2 | (simp_all; done)) | (simp only [NGs_cons, NGv_int, NGv_long, NGv_float, NGv_double, NGv_null, NGv_ref, true_and, and_true] <;> first | exact hs | (simp_all; done))
  case ixor =>
    simp only [zpure] at hp
    split at hp <;> first | contradiction | skip
    cases hp
    refine ⟨h', rfl, R, hl, ?_⟩
    first | exact hs | (simp only [NGs_cons, NGv_int, NGv_long, NGv_float, NGv_double, NGv_null, NGv_ref, true_and, and_true] at hs ⊢ <;> first | exact hs | exact hs.2 | exact hs.2.2 | (simp_all; done)) | (simp only [NGs_cons, NGv_int, NGv_long, NGv_float, NGv_double, NGv_null, NGv_ref, true_and, and_true] <;> first | exact hs | (simp_all; done))
  case ishl =>
    simp only [zpure] at hp
    split at hp <;> first | contradiction | skip
    cases hp
    refine ⟨h', rfl, R, hl, ?_⟩
    first | exact hs | (simp only [NGs_cons, NGv_int, NGv_long, NGv_float, NGv_double, NGv_null, NGv_ref, true_and, and_true] at hs ⊢ <;> first | exact hs | exact hs.2 | exact hs.2.2 | (simp_all; done)) | (simp only [NGs_cons, NGv_int, NGv_long, NGv_float, NGv_double, NGv_null, NGv_ref, true_and, and_true] <;> first | exact hs | (simp_all; done))
  case ishr =>
    simp only [zpure] at hp
    split at hp <;> first | contradiction | skip
    cases hp
    refine ⟨h', rfl, R, hl, ?_⟩
    first | exact hs | (simp only [NGs_cons, NGv_int, NGv_long, NGv_float, NGv_double, NGv_null, NGv_ref, true_and, and_true] at hs ⊢ <;> first | exact hs | exact hs.2 | exact hs.2.2 | (simp_all; done)) | (simp only [NGs_cons, NGv_int, NGv_long, NGv_float, NGv_double, NGv_null, NGv_ref, true_and, and_true] <;> first | exact hs | (simp_all; done))
  case iushr =>
    simp only [zpure] at hp
    split at hp <;> first | contradiction | skip
    cases hp
    refine ⟨h', rfl, R, hl, ?_⟩
    first | exact hs | (simp only [NGs_cons, NGv_int, NGv_long, NGv_float, NGv_double, NGv_null, NGv_ref, true_and, and_true] at hs ⊢ <;> first | exact hs | exact hs.2 | exact hs.2.2 | (simp_all; done)) | (simp only [NGs_cons, NGv_int, NGv_long, NGv_float, NGv_double, NGv_null, NGv_ref, true_and, and_true] <;> first | exact hs | (simp_all; done))
  case ineg =>
    simp only [zpure] at hp
    split at hp <;> first | contradiction | skip
    cases hp
    refine ⟨h', rfl, R, hl, ?_⟩
    first | exact hs | (simp only [NGs_cons, NGv_int, NGv_long, NGv_float, NGv_double, NGv_null, NGv_ref, true_and, and_true] at hs ⊢ <;> first | exact hs | exact hs.2 | exact hs.2.2 | (simp_all; done)) | (simp only [NGs_cons, NGv_int, NGv_long, NGv_float, NGv_double, NGv_null, NGv_ref, true_and, and_true] <;> first | exact hs | (simp_all; done))
  case ladd =>
    simp only [zpure] at hp
    split at hp <;> first | contradiction | skip
    cases hp
    refine ⟨h', rfl, R, hl, ?_⟩
    first | exact hs | (simp only [NGs_cons, NGv_int, NGv_long, NGv_float, NGv_double, NGv_null, NGv_ref, true_and, and_true] at hs ⊢ <;> first | exact hs | exact hs.2 | exact hs.2.2 | (simp_all; done)) | (simp only [NGs_cons, NGv_int, NGv_long, NGv_float, NGv_double, NGv_null, NGv_ref, true_and, and_true] <;> first | exact hs | (simp_all; done))
  case lmul =>
    simp only [zpure] at hp
    split at hp <;> first | contradiction | skip
    cases hp
    refine ⟨h', rfl, R, hl, ?_⟩
    first | exact hs | (simp only [NGs_cons, NGv_int, NGv_long, NGv_float, NGv_double, NGv_null, NGv_ref, true_and, and_true] at hs ⊢ <;> first | exact hs | exact hs.2 | exact hs.2.2 | (simp_all; done)) | (simp only [NGs_cons, NGv_int, NGv_long, NGv_float, NGv_double, NGv_null, NGv_ref, true_and, and_true] <;> first | exact hs | (simp_all; done))
  case lcmp =>
    simp only [zpure] at hp
    split at hp <;> first | contradiction | skip
    cases hp
    refine ⟨h', rfl, R, hl, ?_⟩
    first | exact hs | (simp only [NGs_cons, NGv_int, NGv_long, NGv_float, NGv_double, NGv_null, NGv_ref, true_and, and_true] at hs ⊢ <;> first | exact hs | exact hs.2 | exact hs.2.2 | (simp_all; done)) | (simp only [NGs_cons, NGv_int, NGv_long, NGv_float, NGv_double, NGv_null, NGv_ref, true_and, and_true] <;> first | exact hs | (simp_all; done))
  case i2l =>
    simp only [zpure] at hp
    split at hp <;> first | contradiction | skip
    cases hp
    refine ⟨h', rfl, R, hl, ?_⟩
    first | exact hs | (simp only [NGs_cons, NGv_int, NGv_long, NGv_float, NGv_double, NGv_null, NGv_ref, true_and, and_true] at hs ⊢ <;> first | exact hs | exact hs.2 | exact hs.2.2 | (simp_all; done)) | (simp only [NGs_cons, NGv_int, NGv_long, NGv_float, NGv_double, NGv_null, NGv_ref, true_and, and_true] <;> first | exact hs | (simp_all; done))
  case i2b =>
    simp only [zpure] at hp
    split at hp <;> first | contradiction | skip
    cases hp
    refine ⟨h', rfl, R, hl, ?_⟩
    first | exact hs | (simp only [NGs_cons, NGv_int, NGv_long, NGv_float, NGv_double, NGv_null, NGv_ref, true_and, and_true] at hs ⊢ <;> first | exact hs | exact hs.2 | exact hs.2.2 | (simp_all; done)) | (simp only [NGs_cons, NGv_int, NGv_long, NGv_float, NGv_double, NGv_null, NGv_ref, true_and, and_true] <;> first | exact hs | (simp_all; done))
  case i2c =>
    simp only [zpure] at hp
    split at hp <;> first | contradiction | skip
    cases hp
    refine ⟨h', rfl, R, hl, ?_⟩
    first | exact hs | (simp only [NGs_cons, NGv_int, NGv_long, NGv_float, NGv_double, NGv_null, NGv_ref, true_and, and_true] at hs ⊢ <;> first | exact hs | exact hs.2 | exact hs.2.2 | (simp_all; done)) | (simp only [NGs_cons, NGv_int, NGv_long, NGv_float, NGv_double, NGv_null, NGv_ref, true_and, and_true] <;> first | exact hs | (simp_all; done))
  case i2f =>
    simp only [zpure] at hp
    split at hp <;> first | contradiction | skip
    cases hp
    refine ⟨h', rfl, R, hl, ?_⟩
    first | exact hs | (simp only [NGs_cons, NGv_int, NGv_long, NGv_float, NGv_double, NGv_null, NGv_ref, true_and, and_true] at hs ⊢ <;> first | exact hs | exact hs.2 | exact hs.2.2 | (simp_all; done)) | (simp only [NGs_cons, NGv_int, NGv_long, NGv_float, NGv_double, NGv_null, NGv_ref, true_and, and_true] <;> first | exact hs | (simp_all; done))
  case f2i =>
    simp only [zpure] at hp
    split at hp <;> first | contradiction | skip
    cases hp
    refine ⟨h', rfl, R, hl, ?_⟩
    first | exact hs | (simp only [NGs_cons, NGv_int, NGv_long, NGv_float, NGv_double, NGv_null, NGv_ref, true_and, and_true] at hs ⊢ <;> first | exact hs | exact hs.2 | exact hs.2.2 | (simp_all; done)) | (simp only [NGs_cons, NGv_int, NGv_long, NGv_float, NGv_double, NGv_null, NGv_ref, true_and, and_true] <;> first | exact hs | (simp_all; done))
  case fneg =>
    simp only [zpure] at hp
    split at hp <;> first | contradiction | skip
    cases hp
    refine ⟨h', rfl, R, hl, ?_⟩
    first | exact hs | (simp only [NGs_cons, NGv_int, NGv_long, NGv_float, NGv_double, NGv_null, NGv_ref, true_and, and_true] at hs ⊢ <;> first | exact hs | exact hs.2 | exact hs.2.2 | (simp_all; done)) | (simp only [NGs_cons, NGv_int, NGv_long, NGv_float, NGv_double, NGv_null, NGv_ref, true_and, and_true] <;> first | exact hs | (simp_all; done))
  case fcmp o =>
    simp only [zpure] at hp
    split at hp <;> first | contradiction | skip
    cases hp
    refine ⟨h', rfl, R, hl, ?_⟩
    first | exact hs | (simp only [NGs_cons, NGv_int, NGv_long, NGv_float, NGv_double, NGv_null, NGv_ref, true_and, and_true] at hs ⊢ <;> first | exact hs | exact hs.2 | exact hs.2.2 | (simp_all; done)) | (simp only [NGs_cons, NGv_int, NGv_long, NGv_float, NGv_double, NGv_null, NGv_ref, true_and, and_true] <;> first | exact hs | (simp_all; done))
  case dcmp o =>
    simp only [zpure] at hp
    split at hp <;> first | contradiction | skip
    cases hp
    refine ⟨h', rfl, R, hl, ?_⟩
    first | exact hs | (simp only [NGs_cons, NGv_int, NGv_long, NGv_float, NGv_double, NGv_null, NGv_ref, true_and, and_true] at hs ⊢ <;> first | exact hs | exact hs.2 | exact hs.2.2 | (simp_all; done)) | (simp only [NGs_cons, NGv_int, NGv_long, NGv_float, NGv_double, NGv_null, NGv_ref, true_and, and_true] <;> first | exact hs | (simp_all; done))
  case idiv =>
    simp only [zpure] at hp
    split at hp <;> first | contradiction | skip
    split at hp <;> first | contradiction | skip
    rename_i q
    cases hp
    refine ⟨h', by simp only [zpure, List.map_cons, vmap]; first | exact if_pos q | exact if_neg q | rw [if_pos q] | rw [if_neg q], R, hl, ?_⟩
    first | exact hs | (simp only [NGs_cons, NGv_int, NGv_long, NGv_float, NGv_double, NGv_null, NGv_ref, true_and, and_true] at hs ⊢ <;> first | exact hs | exact hs.2 | exact hs.2.2 | (simp_all; done)) | (simp only [NGs_cons, NGv_int, NGv_long, NGv_float, NGv_double, NGv_null, NGv_ref, true_and, and_true] <;> first | exact hs | (simp_all; done))
  case irem =>
    simp only [zpure] at hp
    split at hp <;> first | contradiction | skip
    split at hp <;> first | contradiction | skip
    rename_i q
    cases hp
    refine ⟨h', by simp only [zpure, List.map_cons, vmap]; first | exact if_pos q | exact if_neg q | rw [if_pos q] | rw [if_neg q], R, hl, ?_⟩
    first | exact hs | (simp only [NGs_cons, NGv_int, NGv_long, NGv_float, NGv_double, NGv_null, NGv_ref, true_and, and_true] at hs ⊢ <;> first | exact hs | exact hs.2 | exact hs.2.2 | (simp_all; done)) | (simp only [NGs_cons, NGv_int, NGv_long, NGv_float, NGv_double, NGv_null, NGv_ref, true_and, and_true] <;> first | exact hs | (simp_all; done))
  case fadd =>
    simp only [zpure] at hp
    split at hp <;> first | contradiction | skip
    split at hp <;> first | contradiction | skip
    rename_i q
    cases hp
    refine ⟨h', by simp only [zpure, List.map_cons, vmap]; first | exact if_pos q | exact if_neg q | rw [if_pos q] | rw [if_neg q], R, hl, ?_⟩
    first | exact hs | (simp only [NGs_cons, NGv_int, NGv_long, NGv_float, NGv_double, NGv_null, NGv_ref, true_and, and_true] at hs ⊢ <;> first | exact hs | exact hs.2 | exact hs.2.2 | (simp_all; done)) | (simp only [NGs_cons, NGv_int, NGv_long, NGv_float, NGv_double, NGv_null, NGv_ref, true_and, and_true] <;> first | exact hs | (simp_all; done))
  case fsub =>
    simp only [zpure] at hp
    split at hp <;> first | contradiction | skip
    split at hp <;> first | contradiction | skip
    rename_i q
    cases hp
    refine ⟨h', by simp only [zpure, List.map_cons, vmap]; first | exact if_pos q | exact if_neg q | rw [if_pos q] | rw [if_neg q], R, hl, ?_⟩
    first | exact hs | (simp only [NGs_cons, NGv_int, NGv_long, NGv_float, NGv_double, NGv_null, NGv_ref, true_and, and_true] at hs ⊢ <;> first | exact hs | exact hs.2 | exact hs.2.2 | (simp_all; done)) | (simp only [NGs_cons, NGv_int, NGv_long, NGv_float, NGv_double, NGv_null, NGv_ref, true_and, and_true] <;> first | exact hs | (simp_all; done))
  case fmul =>
    simp only [zpure] at hp
    split at hp <;> first | contradiction | skip
    split at hp <;> first | contradiction | skip
    rename_i q
    cases hp
    refine ⟨h', by simp only [zpure, List.map_cons, vmap]; first | exact if_pos q | exact if_neg q | rw [if_pos q] | rw [if_neg q], R, hl, ?_⟩
    first | exact hs | (simp only [NGs_cons, NGv_int, NGv_long, NGv_float, NGv_double, NGv_null, NGv_ref, true_and, and_true] at hs ⊢ <;> first | exact hs | exact hs.2 | exact hs.2.2 | (simp_all; done)) | (simp only [NGs_cons, NGv_int, NGv_long, NGv_float, NGv_double, NGv_null, NGv_ref, true_and, and_true] <;> first | exact hs | (simp_all; done))
  case fdiv =>
    simp only [zpure] at hp
    split at hp <;> first | contradiction | skip
    split at hp <;> first | contradiction | skip
    rename_i q
    cases hp
    refine ⟨h', by simp only [zpure, List.map_cons, vmap]; first | exact if_pos q | exact if_neg q | rw [if_pos q] | rw [if_neg q], R, hl, ?_⟩
    first | exact hs | (simp only [NGs_cons, NGv_int, NGv_long, NGv_float, NGv_double, NGv_null, NGv_ref, true_and, and_true] at hs ⊢ <;> first | exact hs | exact hs.2 | exact hs.2.2 | (simp_all; done)) | (simp only [NGs_cons, NGv_int, NGv_long, NGv_float, NGv_double, NGv_null, NGv_ref, true_and, and_true] <;> first | exact hs | (simp_all; done))
  case f2d =>
    simp only [zpure] at hp
    split at hp <;> first | contradiction | skip
    split at hp <;> first | contradiction | skip
    rename_i q
    cases hp
    refine ⟨h', by simp only [zpure, List.map_cons, vmap]; first | exact if_pos q | exact if_neg q | rw [if_pos q] | rw [if_neg q], R, hl, ?_⟩
    first | exact hs | (simp only [NGs_cons, NGv_int, NGv_long, NGv_float, NGv_double, NGv_null, NGv_ref, true_and, and_true] at hs ⊢ <;> first | exact hs | exact hs.2 | exact hs.2.2 | (simp_all; done)) | (simp only [NGs_cons, NGv_int, NGv_long, NGv_float, NGv_double, NGv_null, NGv_ref, true_and, and_true] <;> first | exact hs | (simp_all; done))
  case pop =>
    simp only [zpure] at hp
    split at hp <;> first | contradiction | skip
    split at hp <;> first | contradiction | skip
    rename_i q
    cases hp
    refine ⟨h', by simp only [zpure, List.map_cons, zc1_sg]; rw [if_pos q], R, hl, ?_⟩
    simp only [NGs_cons] at hs ⊢ <;> first | exact hs | exact hs.2 | (simp_all; done)
  case dup =>
    simp only [zpure] at hp
    split at hp <;> first | contradiction | skip
    split at hp <;> first | contradiction | skip
    rename_i q
    cases hp
    refine ⟨h', by simp only [zpure, List.map_cons, zc1_sg]; rw [if_pos q], R, hl, ?_⟩
    simp only [NGs_cons] at hs ⊢ <;> first | exact hs | exact hs.2 | (simp_all; done)
  case dup_x1 =>
    simp only [zpure] at hp
    split at hp <;> first | contradiction | skip
    split at hp <;> first | contradiction | skip
    rename_i q
    cases hp
    refine ⟨h', by simp only [zpure, List.map_cons, zc1_sg]; rw [if_pos q], R, hl, ?_⟩
    simp only [NGs_cons] at hs ⊢ <;> first | exact hs | exact hs.2 | (simp_all; done)
  case dup2 =>
    simp only [zpure] at hp
    split at hp <;> first | contradiction | skip
    split at hp <;> first | contradiction | skip
    rename_i q
    cases hp
    refine ⟨h', by simp only [zpure, List.map_cons, zc1_sg]; rw [if_pos q], R, hl, ?_⟩
    simp only [NGs_cons] at hs ⊢ <;> first | exact hs | exact hs.2 | (simp_all; done)
  case ifCond cnd o =>
    simp only [zpure] at hp
    split at hp <;> first | contradiction | skip
    simp only [NGs_cons, NGv_int, true_and] at hs
    cases cnd <;> simp only [zat] at hp <;> split at hp <;> rename_i q <;> cases hp <;> exact ⟨h', by simp only [zpure, zat, List.map_cons, vmap]; first | exact if_pos q | exact if_neg q | rw [if_pos q] | rw [if_neg q], R, hl, hs⟩
  case if_icmp cnd o =>
    simp only [zpure] at hp
    split at hp <;> first | contradiction | skip
    simp only [NGs_cons, NGv_int, true_and] at hs
    cases cnd <;> simp only [zat] at hp <;> split at hp <;> rename_i q <;> cases hp <;> exact ⟨h', by simp only [zpure, zat, List.map_cons, vmap]; first | exact if_pos q | exact if_neg q | rw [if_pos q] | rw [if_neg q], R, hl, hs⟩
  case if_acmp cnd o =>
    cases cnd <;> simp only [zpure] at hp <;> split at hp <;> first | contradiction | skip
    · rename_i y x st'
      simp only [NGs_cons, NGv_ref] at hs
      have e1 := sg_inj (d := d) hd hs.2.1 hs.1
      have e2 : zapt (sg d x) (sg d y) ↔ zapt x y := by
        unfold zapt
        rw [ne_eq, ne_eq, ne_eq, ne_eq, sg_z hd (by omega) hs.2.1, sg_z hd (by omega) hs.2.1, sg_z hd (by omega) hs.1, sg_z hd (by omega) hs.1]
      split at hp
      · rename_i q
        cases hp
        exact ⟨h', by simp only [zpure, List.map_cons, vmap]; rw [if_pos (e1.mpr q)], R, hl, hs.2.2⟩
      · rename_i q
        split at hp <;> first | contradiction | skip
        rename_i q2
        cases hp
        exact ⟨h', by simp only [zpure, List.map_cons, vmap]; rw [if_neg (fun w => q (e1.mp w)), if_pos (e2.mpr q2)], R, hl, hs.2.2⟩
    · rename_i y x st'
      simp only [NGs_cons, NGv_ref] at hs
      have e1 := sg_inj (d := d) hd hs.2.1 hs.1
      have e2 : zapt (sg d x) (sg d y) ↔ zapt x y := by
        unfold zapt
        rw [ne_eq, ne_eq, ne_eq, ne_eq, sg_z hd (by omega) hs.2.1, sg_z hd (by omega) hs.2.1, sg_z hd (by omega) hs.1, sg_z hd (by omega) hs.1]
      split at hp
      · rename_i q
        cases hp
        exact ⟨h', by simp only [zpure, List.map_cons, vmap]; rw [if_pos (e1.mpr q)], R, hl, hs.2.2⟩
      · rename_i q
        split at hp <;> first | contradiction | skip
        rename_i q2
        cases hp
        exact ⟨h', by simp only [zpure, List.map_cons, vmap]; rw [if_neg (fun w => q (e1.mp w)), if_pos (e2.mpr q2)], R, hl, hs.2.2⟩
  case iinc n z =>
    simp only [zpure] at hp
    split at hp <;> first | contradiction | skip
    rename_i x hg
    cases hl2 : lst ls n (.int (x + Int32.ofInt z)) with
    | none => rw [hl2] at hp; cases hp
    | some l' =>
      rw [hl2] at hp
      cases hp
      refine ⟨h', ?_, R, hl.put (NGv_int.mpr trivial) hl2, hs⟩
      have e := lst_sg (d := d) (v := .int (x + Int32.ofInt z)) (ls := ls) (n := n)
      have e2 : vmap (sg d) (.int (x + Int32.ofInt z)) = .int (x + Int32.ofInt z) := rfl
      rw [e2, hl2] at e
      simp only [zpure, lget_sg, hg, Option.map_some, vmap, e]
  case tableswitch dflt lo hi offs =>
    simp only [zpure] at hp
    split at hp <;> first | contradiction | skip
    rename_i x st'
    simp only [NGs_cons, NGv_int, true_and] at hs
    split at hp
    · rename_i q
      cases hp
      exact ⟨h', by simp only [zpure, List.map_cons, vmap]; rw [if_pos q], R, hl, hs⟩
    · rename_i q
      cases ha : aux[(x.toInt - lo).toNat]? with
      | none => simp [ha] at hp
      | some t =>
        simp only [ha, Option.map_some, Option.some.injEq] at hp
        subst hp
        exact ⟨h', by simp only [zpure, List.map_cons, vmap]; rw [if_neg q, ha]; rfl, R, hl, hs⟩
  case getfield n =>
    simp only [zpure] at hp
    split at hp <;> first | contradiction | skip
    split at hp <;> first | contradiction | skip
    rename_i q
    rename_i ci kf a st' _
    cases hp
    simp only [NGs_cons, NGv_ref] at hs
    obtain ⟨g1, -, g3, g4⟩ := R.at hs.1
    exact ⟨h', by simp only [zpure, List.map_cons, vmap_r]; rw [if_pos (by rw [g1]; exact q), g3], R, hl, NGs_cons.mpr ⟨g4 _, hs.2⟩⟩
  case putfield n =>
    simp only [zpure] at hp
    split at hp <;> first | contradiction | skip
    split at hp <;> first | contradiction | skip
    rename_i q
    rename_i ci kf t v a st' _
    cases hp
    simp only [NGs_cons, NGv_ref] at hs
    obtain ⟨g1, -, -, -⟩ := R.at hs.2.1
    exact ⟨_, by simp only [zpure, List.map_cons, vmap_r]; rw [if_pos (by rw [g1, zfit_sg]; exact q)], R.put hs.2.1 hs.1, hl, hs.2.2⟩
  case getstatic n =>
    simp only [zpure] at hp
    split at hp <;> first | contradiction | skip
    split at hp <;> first | contradiction | skip
    rename_i q
    cases hp
    exact ⟨h', by simp only [zpure]; rw [if_pos q]; rfl, R, hl, NGs_cons.mpr ⟨NGv_ref.mpr (Or.inl (by decide)), hs⟩⟩
  case new n =>
    simp only [zpure] at hp
    split at hp <;> first | contradiction | skip
    cases hp
    refine ⟨_, ?_, R.new (f' := _) (fun j => vmap_def.symm) (fun j => NGv_def), hl, NGs_cons.mpr ⟨NGv_ref.mpr R.gn, hs⟩⟩
    simp only [zpure, List.map_cons, vmap, R.nn]
  case newarray t =>
    simp only [zpure] at hp
    split at hp <;> first | contradiction | skip
    split at hp <;> first | contradiction | skip
    rename_i q
    cases hp
    rw [NGs_cons] at hs
    refine ⟨_, ?_, R.new (f' := _) (fun j => vmap_def.symm) (fun j => NGv_def), hl, NGs_cons.mpr ⟨NGv_ref.mpr R.gn, hs.2⟩⟩
    simp only [zpure, List.map_cons, vmap]
    rw [if_pos q, R.nn]
  case anewarray n =>
    simp only [zpure] at hp
    split at hp <;> first | contradiction | skip
    split at hp <;> first | contradiction | skip
    rename_i q
    cases hp
    rw [NGs_cons] at hs
    refine ⟨_, ?_, R.new (f' := fun _ => .null) (fun j => rfl) (fun j => NGv_null.mpr trivial), hl, NGs_cons.mpr ⟨NGv_ref.mpr R.gn, hs.2⟩⟩
    simp only [zpure, List.map_cons, vmap]
    rw [if_pos q, R.nn]
  case multianewarray n dd =>
    simp only [zpure] at hp
    split at hp <;> first | contradiction | skip
    split at hp <;> first | contradiction | skip
    rename_i q
    rename_i kd ke w z st' _
    cases hp
    rw [NGs_cons, NGs_cons] at hs
    have hn := R.nn
    have h70 := R.2.1
    refine ⟨_, ?_, (R.new (f' := fun i => if i < st'.toInt.toNat then .ref (zn h' + 1 + i) else .null) (fun j => ?_) (fun j => ?_)).news rfl (NGv_int.mpr trivial), hl, NGs_cons.mpr ⟨NGv_ref.mpr R.gn, hs.2.2⟩⟩
    · simp only [zpure, List.map_cons, vmap]
      rw [if_pos q, R.nn]
    · skip
      split
      · have e1 : sg d (zn h + 1 + j) = zn h' + 1 + j := by
          rw [sg_hi (by omega)]
          have := R.2.2.1
          omega
        show Value.ref _ = Value.ref (sg d (zn h + 1 + j))
        rw [e1]
      · rfl
    · skip
      split
      · exact NGv_ref.mpr (Or.inr (by omega))
      · exact NGv_null.mpr trivial
  case arraylength =>
    simp only [zpure] at hp
    split at hp <;> first | contradiction | skip
    rename_i a st'
    simp only [NGs_cons, NGv_ref] at hs
    obtain ⟨g1, g2, -, -⟩ := R.at hs.1
    split at hp <;> first | contradiction | skip
    rename_i q1
    split at hp <;> first | contradiction | skip
    rename_i q2
    cases hp
    exact ⟨h', by simp only [zpure, List.map_cons, vmap_r, vmap_i]; rw [if_pos (by rw [g1]; exact q1), if_pos (by rw [g1]; exact q2), g2], R, hl, NGs_cons.mpr ⟨NGv_int.mpr trivial, hs.2⟩⟩
  case iaload =>
    simp only [zpure] at hp
    split at hp
    · rename_i i st'
      simp only [NGs_cons, NGv_int, NGv_ref, true_and] at hs
      obtain ⟨-, g2, g3, g4⟩ := R.at hs.1
      have e0 : sg d 0 = 0 := sg_lo (by decide)
      rw [e0] at g2 g3
      split at hp <;> first | contradiction | skip
      rename_i q1
      split at hp <;> first | contradiction | skip
      rename_i q2
      cases hp
      refine ⟨h', ?_, R, hl, NGs_cons.mpr ⟨g4 _, hs.2⟩⟩
      simp only [zpure, List.map_cons, vmap_r, vmap_i, e0]
      rw [if_pos (by rw [g2]; exact q1), g3, zso_sg, if_pos q2]
    · rename_i hno
      have hp0 := hp
      obtain ⟨i, a, st', rfl, -, -, -⟩ := zp_ald hp
      have ha : gdm a := NGv_ref.mp (NGs_cons.mp (NGs_cons.mp hs).2).1
      have hz : a ≠ 0 := fun w => hno i st' (by rw [w])
      have hz2 : sg d a ≠ 0 := fun w => hz ((sg_z hd (by decide) ha).mp w)
      obtain ⟨h2', e, r1, r2, r3⟩ := zald_sw R hl hs hp0
      refine ⟨h2', ?_, r1, r2, r3⟩
      rw [← e]
      show zpure .iaload nx tg aux (lsg d ls) (.int i :: .ref (sg d a) :: st'.map (vmap (sg d))) h' = zald 20 0 nx (lsg d ls) (.int i :: .ref (sg d a) :: st'.map (vmap (sg d))) h'
      obtain ⟨m, hm⟩ : ∃ m, sg d a = m + 1 := ⟨sg d a - 1, by omega⟩
      rw [hm]
      rfl
  case baload =>
    simp only [zpure] at hp
    split at hp <;> first | contradiction | skip
    rename_i i a st'
    have hp0 := hp
    have ha : gdm a := NGv_ref.mp (NGs_cons.mp (NGs_cons.mp hs).2).1
    obtain ⟨g1, -⟩ := R.at ha
    split at hp
    · rename_i q
      obtain ⟨h2', e, r1, r2, r3⟩ := zald_sw R hl hs hp
      refine ⟨h2', ?_, r1, r2, r3⟩
      rw [← e]
      simp only [zpure, List.map_cons, vmap]
      rw [if_pos (by rw [g1]; exact q)]
    · rename_i q
      obtain ⟨h2', e, r1, r2, r3⟩ := zald_sw R hl hs hp
      refine ⟨h2', ?_, r1, r2, r3⟩
      rw [← e]
      simp only [zpure, List.map_cons, vmap]
      rw [if_neg (by rw [g1]; exact q)]
  case caload =>
    exact zald_sw R hl hs hp
  case laload =>
    exact zald_sw R hl hs hp
  case daload =>
    exact zald_sw R hl hs hp
  case aaload =>
    simp only [zpure] at hp
    split at hp <;> first | contradiction | skip
    rename_i i a st'
    have ha : gdm a := NGv_ref.mp (NGs_cons.mp (NGs_cons.mp hs).2).1
    obtain ⟨g1, -⟩ := R.at ha
    split at hp <;> first | contradiction | skip
    rename_i q
    obtain ⟨h2', e, r1, r2, r3⟩ := zald_sw R hl hs hp
    refine ⟨h2', ?_, r1, r2, r3⟩
    rw [← e]
    simp only [zpure, List.map_cons, vmap]
    rw [g1, if_pos q]
  case iastore =>
    simp only [zpure] at hp
    split at hp <;> first | contradiction | skip
    simp only [NGs_cons, NGv_int, NGv_long, NGv_double, NGv_ref, true_and] at hs
    exact zast_sw R hl hs.2 hs.1 (by simp only [NGv_int, NGv_long, NGv_double]) hp
  case castore =>
    simp only [zpure] at hp
    split at hp <;> first | contradiction | skip
    simp only [NGs_cons, NGv_int, NGv_long, NGv_double, NGv_ref, true_and] at hs
    exact zast_sw R hl hs.2 hs.1 (by simp only [NGv_int, NGv_long, NGv_double]) hp
  case lastore =>
    simp only [zpure] at hp
    split at hp <;> first | contradiction | skip
    simp only [NGs_cons, NGv_int, NGv_long, NGv_double, NGv_ref, true_and] at hs
    exact zast_sw R hl hs.2 hs.1 (by simp only [NGv_int, NGv_long, NGv_double]) hp
  case dastore =>
    simp only [zpure] at hp
    split at hp <;> first | contradiction | skip
    simp only [NGs_cons, NGv_int, NGv_long, NGv_double, NGv_ref, true_and] at hs
    exact zast_sw R hl hs.2 hs.1 (by simp only [NGv_int, NGv_long, NGv_double]) hp
  case bastore =>
    simp only [zpure] at hp
    split at hp <;> first | contradiction | skip
    rename_i x i a st'
    simp only [NGs_cons, NGv_int, NGv_ref, true_and] at hs
    obtain ⟨g1, -⟩ := R.at hs.1
    split at hp
    · rename_i q
      split at hp <;> first | contradiction | skip
      rename_i q2
      obtain ⟨h2', e, r1, r2, r3⟩ := zast_sw R hl hs.2 hs.1 (NGv_int.mpr trivial) hp
      refine ⟨h2', ?_, r1, r2, r3⟩
      rw [← e]
      simp only [zpure, List.map_cons, vmap]
      rw [if_pos (by rw [g1]; exact q), if_pos q2]
    · rename_i q
      obtain ⟨h2', e, r1, r2, r3⟩ := zast_sw R hl hs.2 hs.1 (NGv_int.mpr trivial) hp
      refine ⟨h2', ?_, r1, r2, r3⟩
      rw [← e]
      simp only [zpure, List.map_cons, vmap]
      rw [if_neg (by rw [g1]; exact q)]
  case aastore =>
    simp only [zpure] at hp
    split at hp <;> first | contradiction | skip
    · rename_i v i a st'
      simp only [NGs_cons, NGv_int, NGv_ref, true_and] at hs
      obtain ⟨g1, -⟩ := R.at hs.1
      split at hp <;> first | contradiction | skip
      rename_i q
      obtain ⟨h2', e, r1, r2, r3⟩ := zast_sw R hl hs.2.2 hs.2.1 (NGv_ref.mpr hs.1) hp
      refine ⟨h2', ?_, r1, r2, r3⟩
      rw [← e]
      simp only [zpure, List.map_cons, vmap]
      rw [if_pos (by rw [g1]; exact q)]
    · simp only [NGs_cons, NGv_int, NGv_null, NGv_ref, true_and] at hs
      exact zast_sw R hl hs.2 hs.1 (NGv_null.mpr trivial) hp
  case checkcast n =>
    simp only [zpure] at hp
    split at hp <;> first | contradiction | skip
    split at hp <;> first | contradiction | skip
    rename_i q
    rename_i ci a st' _
    cases hp
    have ha : gdm st' := NGv_ref.mp (NGs_cons.mp hs).1
    obtain ⟨g1, -⟩ := R.at ha
    exact ⟨h', by simp only [zpure, List.map_cons, vmap]; rw [if_pos (by rw [g1]; exact q)], R, hl, hs⟩
  case ldc n =>
    simp only [zpure] at hp
    split at hp <;> first | contradiction | skip
    · cases hp
      exact ⟨h', rfl, R, hl, NGs_cons.mpr ⟨NGv_int.mpr trivial, hs⟩⟩
    · cases hp
      exact ⟨h', rfl, R, hl, NGs_cons.mpr ⟨NGv_float.mpr trivial, hs⟩⟩
    · cases hp
      exact ⟨h', rfl, R, hl, NGs_cons.mpr ⟨NGv_ref.mpr (Or.inl (by decide)), hs⟩⟩
    · split at hp <;> first | contradiction | skip
      rename_i w hw
      split at hp <;> first | contradiction | skip
      rename_i q
      cases hp
      refine ⟨h', ?_, R, hl, NGs_cons.mpr ⟨NGv_int.mpr trivial, hs⟩⟩
      simp only [zpure, lget_sg, hw, Option.map_some, vmap, List.length_map]
      rw [if_pos q]
      rfl
  case ldc_w n =>
    simp only [zpure] at hp
    split at hp <;> first | contradiction | skip
    · cases hp
      exact ⟨h', rfl, R, hl, NGs_cons.mpr ⟨NGv_int.mpr trivial, hs⟩⟩
    · cases hp
      exact ⟨h', rfl, R, hl, NGs_cons.mpr ⟨NGv_float.mpr trivial, hs⟩⟩
  case ldc2_w n =>
    simp only [zpure] at hp
    split at hp <;> first | contradiction | skip
    cases hp
    exact ⟨h', rfl, R, hl, NGs_cons.mpr ⟨NGv_long.mpr trivial, hs⟩⟩
  case invokespecial n =>
    simp only [zpure] at hp
    split at hp <;> first | contradiction | skip
    split at hp <;> first | contradiction | skip
    rename_i q
    cases hp
    exact ⟨h', by simp only [zpure, List.map_cons, vmap, List.length_map]; rw [if_pos q], R, hl, (NGs_cons.mp hs).2⟩
  case invokestatic n =>
    simp only [zpure, zint] at hp
    split at hp <;> first | contradiction | skip
    · split at hp <;> first | contradiction | skip
      rename_i q
      cases hp
      exact ⟨h', by simp only [zpure, zint, List.map_cons, vmap, List.length_map]; rw [if_pos q], R, hl, NGs_cons.mpr ⟨NGv_int.mpr trivial, (NGs_cons.mp (NGs_cons.mp hs).2).2⟩⟩
    · split at hp <;> first | contradiction | skip
      rename_i q
      cases hp
      exact ⟨h', by simp only [zpure, zint, List.map_cons, vmap, List.length_map]; rw [if_pos q], R, hl, NGs_cons.mpr ⟨NGv_int.mpr trivial, (NGs_cons.mp (NGs_cons.mp hs).2).2⟩⟩
    · split at hp <;> first | contradiction | skip
      rename_i q
      cases hp
      exact ⟨h', by simp only [zpure, zint, List.map_cons, vmap, List.length_map]; rw [if_pos q], R, hl, NGs_cons.mpr ⟨NGv_int.mpr trivial, (NGs_cons.mp hs).2⟩⟩
    · split at hp <;> first | contradiction | skip
      rename_i n dp b sp a st' q
      cases hp
      simp only [NGs_cons, NGv_int, NGv_ref, true_and] at hs
      obtain ⟨hb, ha, hs3⟩ := hs
      obtain ⟨g1, g2, g3, g4⟩ := R.at ha
      obtain ⟨f1, f2, f3, f4⟩ := R.at hb
      refine ⟨_, ?_, R.fil (f' := fun j => if dp.toInt.toNat ≤ j ∧ j < dp.toInt.toNat + n.toInt.toNat then zm h' (sg d a) (sp.toInt.toNat + (j - dp.toInt.toNat)) else zm h' (sg d b) j) hb (fun j => ?_) (fun j => ?_), hl, hs3⟩
      · simp only [zpure, zint, List.map_cons, vmap, List.length_map]
        rw [if_pos ?_]
        refine ⟨q.1, by rw [g1]; exact q.2.1, by rw [f1]; exact q.2.2.1, q.2.2.2.1, q.2.2.2.2.1, q.2.2.2.2.2.1, by rw [g2]; exact q.2.2.2.2.2.2.1, by rw [f2]; exact q.2.2.2.2.2.2.2.1, ?_⟩
        refine List.all_eq_true.mpr fun i hi => ?_
        rw [g3, R.obj (g4 _)]
        exact List.all_eq_true.mp q.2.2.2.2.2.2.2.2 i hi
      · skip
        rw [g3, f3]
        split <;> rfl
      · skip
        split
        · exact g4 _
        · exact f4 _
    · split at hp <;> first | contradiction | skip
      rename_i q
      cases hp
      exact ⟨h', by simp only [zpure, zint, List.map_cons, vmap, List.length_map]; rw [if_pos q], R, hl, NGs_cons.mpr ⟨NGv_int.mpr trivial, (NGs_cons.mp hs).2⟩⟩
    · split at hp <;> first | contradiction | skip
      rename_i q
      cases hp
      exact ⟨h', by simp only [zpure, zint, List.map_cons, vmap, List.length_map]; rw [if_pos q], R, hl, NGs_cons.mpr ⟨NGv_float.mpr trivial, (NGs_cons.mp hs).2⟩⟩
    · split at hp <;> first | contradiction | skip
      rename_i q
      cases hp
      exact ⟨h', by simp only [zpure, zint, List.map_cons, vmap, List.length_map]; rw [if_pos q], R, hl, NGs_cons.mpr ⟨NGv_float.mpr trivial, (NGs_cons.mp hs).2⟩⟩
  case invokevirtual n =>
    simp only [zpure, zinv] at hp
    split at hp <;> first | contradiction | skip
    rename_i a st'
    have ha : gdm a := NGv_ref.mp (NGs_cons.mp hs).1
    obtain ⟨g1, -⟩ := R.at ha
    split at hp <;> first | contradiction | skip
    rename_i q
    cases hp
    exact ⟨h', by simp only [zpure, zinv, List.map_cons, vmap, List.length_map]; rw [if_pos (by rw [g1]; exact q)]; rfl, R, hl, NGs_cons.mpr ⟨NGv_ref.mpr (Or.inl (by decide)), (NGs_cons.mp hs).2⟩⟩
  all_goals (simp only [zpure] at hp; contradiction)
end SWP

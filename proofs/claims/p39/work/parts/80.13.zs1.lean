/-! what the abstract machine's steps are on the machine: the steps on the stack and the locals -/
/-- the law's text "fcpj", what String.charAt reads -/
def zTX (A : Nat → Prop) (s : State) : Prop := (∃ adK adV : Nat → Nat, vk_S 1 [4] [[102, 99, 112, 106]] adK adV A s s.heap ∧ vk_R "PlayoutChainLaw" 220 "fcpj" (adK 0) s) ∧ va_Z "java/lang/String" "COMPACT_STRINGS" "Z" (.int 1) A s s.heap ∧ vx_Zq "jdk/internal/util/Preconditions" "SIOOBE_FORMATTER" "Ljava/util/function/BiFunction;" A s s.heap
/-- what is fixed in a method's body: the machine, the code, the words, the script, the JDK's statics -/
def zCtx (k : Nat) (D : va_G) (cs : Nat → ClassId) (A : Nat → Prop) (b e1 mi L : Nat) (xs : Nat → Int32) (p : Program) (R : Room) (s : State) (m : MethodId) (args : Array Value) (meth : Method) (c : Code) : Prop :=
  p.tables.exec = Jvm.exec ∧ c.code = zB k ∧ s.vm.findClass (zY k).cls = some m.cls ∧ (∀ w ∈ zW, w.before args s = true) ∧ c.maxLocals = zML k ∧ va_K D zcl (ztys cs) s ∧
  va_X b L xs s s.heap ∧ b < s.heap.size ∧ ¬ A b ∧ (∀ q, s.heap.size ≤ q → A q) ∧ L ≤ 3072 ∧
  va_Z "java/util/ArrayList" "DEFAULTCAPACITY_EMPTY_ELEMENTDATA" "[Ljava/lang/Object;" (.ref e1) A s s.heap ∧ (∃ f, va_T (.object "java/lang/Object") e1 0 f A s s.heap) ∧ va_Mi "[Ljava/lang/Object;" mi s ∧ va_Dc s ∧ va_AO "java/lang/Object" s ∧
  (Cond.arrayOver (.array .byte)).before #[] s = true ∧ zTX A s ∧ (∀ q ∈ zcl, va_Nw (.castable q.1 "java/lang/Object") s) ∧
  meth.name = (zY k).name ∧ 8 ≤ R.frames ∧ 128 ≤ R.locals

section ZS
variable {p : Program} {l : Launch} {e : Env} {R : Room} {s : State} {m : MethodId} {args : Array Value} {below : List Frame} {meth : Method} {c : Code} {Q : State → Prop}
variable {k pc nx tg : Nat} {aux : List Nat} {D : va_G} {cs : Nat → ClassId} {A : Nat → Prop} {b e1 mi L : Nat} {xs : Nat → Int32} {ρ : Nat → Nat} {ls : zL} {st : zS} {h : zH} {lsC : Array Slot} {H : Heap} {locs : List Loc} {cells slots : Nat}
theorem zp_lo {so n : Nat} {r : Nat × zL × zS × zH} (hp : zlo so n nx ls st h = some r) : ∃ v, lget ls n = some v ∧ zso v = so ∧ r = (nx, ls, v :: st, h) := by
  unfold zlo at hp
  cases hg : lget ls n with
  | none => rw [hg] at hp; cases hp
  | some v =>
    rw [hg] at hp
    by_cases hs : zso v = so
    · simp only [hs, if_true] at hp
      cases hp
      exact ⟨v, rfl, hs, rfl⟩
    · simp [hs] at hp
theorem zp_sto {so n : Nat} {r : Nat × zL × zS × zH} (hp : zsto so n nx ls st h = some r) : ∃ v st' l', st = v :: st' ∧ zso v = so ∧ lst ls n v = some l' ∧ r = (nx, l', st', h) := by
  unfold zsto at hp
  cases st with
  | nil => cases hp
  | cons v st' =>
    by_cases hs : zso v = so
    · simp only [hs, if_true] at hp
      cases hl : lst ls n v with
      | none => rw [hl] at hp; cases hp
      | some l' =>
        rw [hl] at hp
        cases hp
        exact ⟨v, st', l', rfl, hs, hl, rfl⟩
    · simp [hs] at hp
theorem zp_sto2 {so n : Nat} {r : Nat × zL × zS × zH} (hp : zsto2 so n nx ls st h = some r) : ∃ v st' l', st = v :: st' ∧ zso v = so ∧ lst2 ls n v = some l' ∧ r = (nx, l', st', h) := by
  unfold zsto2 at hp
  cases st with
  | nil => cases hp
  | cons v st' =>
    by_cases hs : zso v = so
    · simp only [hs, if_true] at hp
      cases hl : lst2 ls n v with
      | none => rw [hl] at hp; cases hp
      | some l' =>
        rw [hl] at hp
        cases hp
        exact ⟨v, st', l', rfl, hs, hl, rfl⟩
    · simp [hs] at hp
/-- the goal at a place, with the abstract stack -/
abbrev zWg (p : Program) (l : Launch) (e : Env) (R : Room) (s : State) (m : MethodId) (args : Array Value) (below : List Frame) (meth : Method) (c : Code) (Q : State → Prop) (ρ : Nat → Nat) (pc : Nat) (lsC : Array Slot) (st : zS) (H : Heap) (locs : List Loc) (cells slots : Nat) : Prop := W p l e R s m args below meth c H locs cells slots Q (F0 m pc lsC (st.map (vmap ρ)))
/-- going on at r, the heap as it was -/
abbrev zKo (p : Program) (l : Launch) (e : Env) (R : Room) (s : State) (m : MethodId) (args : Array Value) (below : List Frame) (meth : Method) (c : Code) (Q : State → Prop) (ρ : Nat → Nat) (H : Heap) (locs : List Loc) (cells slots : Nat) (r : Nat × zL × zS × zH) : Prop := ∀ lsC', zLR ρ r.2.1 lsC' → W p l e R s m args below meth c H locs cells slots Q (F0 m r.1 lsC' (r.2.2.1.map (vmap ρ)))

theorem zs_iload (hx : p.tables.exec = Jvm.exec) (hb : c.code = zB k) {r : Nat × zL × zS × zH} (hL : zLR ρ ls lsC) {n : Nat} (hd : decode (zB k) pc = .ok ((.iload n), 2)) (hp : zpure (.iload n) (pc + 2) tg aux ls st h = some r) (kk : zKo p l e R s m args below meth c Q ρ H locs cells slots r) : zWg p l e R s m args below meth c Q ρ pc lsC st H locs cells slots := by
  obtain ⟨v, h1, h2, rfl⟩ := zp_lo hp
  cases v <;> simp only [zso] at h2 <;> first | (exact absurd h2 (by decide)) | skip
  exact lv_iload hx hb hd (hL.2.2 _ _ h1) (kk lsC hL)
theorem zs_iload_n (hx : p.tables.exec = Jvm.exec) (hb : c.code = zB k) {r : Nat × zL × zS × zH} (hL : zLR ρ ls lsC) {n : Fin 4} (hd : decode (zB k) pc = .ok ((.iload_n n), 1)) (hp : zpure (.iload_n n) (pc + 1) tg aux ls st h = some r) (kk : zKo p l e R s m args below meth c Q ρ H locs cells slots r) : zWg p l e R s m args below meth c Q ρ pc lsC st H locs cells slots := by
  obtain ⟨v, h1, h2, rfl⟩ := zp_lo hp
  cases v <;> simp only [zso] at h2 <;> first | (exact absurd h2 (by decide)) | skip
  exact lv_iload_n hx hb hd rfl (hL.2.2 _ _ h1) (kk lsC hL)
theorem zs_lload (hx : p.tables.exec = Jvm.exec) (hb : c.code = zB k) {r : Nat × zL × zS × zH} (hL : zLR ρ ls lsC) {n : Nat} (hd : decode (zB k) pc = .ok ((.lload n), 2)) (hp : zpure (.lload n) (pc + 2) tg aux ls st h = some r) (kk : zKo p l e R s m args below meth c Q ρ H locs cells slots r) : zWg p l e R s m args below meth c Q ρ pc lsC st H locs cells slots := by
  obtain ⟨v, h1, h2, rfl⟩ := zp_lo hp
  cases v <;> simp only [zso] at h2 <;> first | (exact absurd h2 (by decide)) | skip
  exact lv_lload hx hb hd (hL.2.2 _ _ h1) (kk lsC hL)
theorem zs_lload_n (hx : p.tables.exec = Jvm.exec) (hb : c.code = zB k) {r : Nat × zL × zS × zH} (hL : zLR ρ ls lsC) {n : Fin 4} (hd : decode (zB k) pc = .ok ((.lload_n n), 1)) (hp : zpure (.lload_n n) (pc + 1) tg aux ls st h = some r) (kk : zKo p l e R s m args below meth c Q ρ H locs cells slots r) : zWg p l e R s m args below meth c Q ρ pc lsC st H locs cells slots := by
  obtain ⟨v, h1, h2, rfl⟩ := zp_lo hp
  cases v <;> simp only [zso] at h2 <;> first | (exact absurd h2 (by decide)) | skip
  exact lv_lload_n hx hb hd rfl (hL.2.2 _ _ h1) (kk lsC hL)
theorem zs_fload (hx : p.tables.exec = Jvm.exec) (hb : c.code = zB k) {r : Nat × zL × zS × zH} (hL : zLR ρ ls lsC) {n : Nat} (hd : decode (zB k) pc = .ok ((.fload n), 2)) (hp : zpure (.fload n) (pc + 2) tg aux ls st h = some r) (kk : zKo p l e R s m args below meth c Q ρ H locs cells slots r) : zWg p l e R s m args below meth c Q ρ pc lsC st H locs cells slots := by
  obtain ⟨v, h1, h2, rfl⟩ := zp_lo hp
  cases v <;> simp only [zso] at h2 <;> first | (exact absurd h2 (by decide)) | skip
  exact lv_fload hx hb hd (hL.2.2 _ _ h1) (kk lsC hL)
theorem zs_fload_n (hx : p.tables.exec = Jvm.exec) (hb : c.code = zB k) {r : Nat × zL × zS × zH} (hL : zLR ρ ls lsC) {n : Fin 4} (hd : decode (zB k) pc = .ok ((.fload_n n), 1)) (hp : zpure (.fload_n n) (pc + 1) tg aux ls st h = some r) (kk : zKo p l e R s m args below meth c Q ρ H locs cells slots r) : zWg p l e R s m args below meth c Q ρ pc lsC st H locs cells slots := by
  obtain ⟨v, h1, h2, rfl⟩ := zp_lo hp
  cases v <;> simp only [zso] at h2 <;> first | (exact absurd h2 (by decide)) | skip
  exact lv_fload_n hx hb hd rfl (hL.2.2 _ _ h1) (kk lsC hL)
theorem zs_aload (hx : p.tables.exec = Jvm.exec) (hb : c.code = zB k) {r : Nat × zL × zS × zH} (hL : zLR ρ ls lsC) {n : Nat} (hd : decode (zB k) pc = .ok ((.aload n), 2)) (hp : zpure (.aload n) (pc + 2) tg aux ls st h = some r) (kk : zKo p l e R s m args below meth c Q ρ H locs cells slots r) : zWg p l e R s m args below meth c Q ρ pc lsC st H locs cells slots := by
  obtain ⟨v, h1, h2, rfl⟩ := zp_lo hp
  cases v <;> simp only [zso] at h2 <;> first | (exact absurd h2 (by decide)) | skip
  · exact lv_aloadN hx hb hd (hL.2.2 _ _ h1) (kk lsC hL)
  · exact lv_aload hx hb hd (hL.2.2 _ _ h1) (kk lsC hL)
theorem zs_astore (hx : p.tables.exec = Jvm.exec) (hb : c.code = zB k) {r : Nat × zL × zS × zH} (hL : zLR ρ ls lsC) {n : Nat} (hd : decode (zB k) pc = .ok ((.astore n), 2)) (hp : zpure (.astore n) (pc + 2) tg aux ls st h = some r) (kk : zKo p l e R s m args below meth c Q ρ H locs cells slots r) : zWg p l e R s m args below meth c Q ρ pc lsC st H locs cells slots := by
  obtain ⟨v, st', l', rfl, h2, h3, rfl⟩ := zp_sto hp
  have hlt := (lst_spec h3).1
  cases v <;> simp only [zso] at h2 <;> first | (exact absurd h2 (by decide)) | skip
  · exact lv_astoreN hx hb hd hL.has hlt rfl (fun lsC' hl => kk lsC' (zLR.put h3 hl))
  · exact lv_astore hx hb hd hL.has hlt rfl (fun lsC' hl => kk lsC' (zLR.put h3 hl))
theorem zs_istore (hx : p.tables.exec = Jvm.exec) (hb : c.code = zB k) {r : Nat × zL × zS × zH} (hL : zLR ρ ls lsC) {n : Nat} (hd : decode (zB k) pc = .ok ((.istore n), 2)) (hp : zpure (.istore n) (pc + 2) tg aux ls st h = some r) (kk : zKo p l e R s m args below meth c Q ρ H locs cells slots r) : zWg p l e R s m args below meth c Q ρ pc lsC st H locs cells slots := by
  obtain ⟨v, st', l', rfl, h2, h3, rfl⟩ := zp_sto hp
  have hlt := (lst_spec h3).1
  cases v <;> simp only [zso] at h2 <;> first | (exact absurd h2 (by decide)) | skip
  exact lv_istore hx hb hd hL.has hlt rfl (fun lsC' hl => kk lsC' (zLR.put h3 hl))
theorem zs_fstore (hx : p.tables.exec = Jvm.exec) (hb : c.code = zB k) {r : Nat × zL × zS × zH} (hL : zLR ρ ls lsC) {n : Nat} (hd : decode (zB k) pc = .ok ((.fstore n), 2)) (hp : zpure (.fstore n) (pc + 2) tg aux ls st h = some r) (kk : zKo p l e R s m args below meth c Q ρ H locs cells slots r) : zWg p l e R s m args below meth c Q ρ pc lsC st H locs cells slots := by
  obtain ⟨v, st', l', rfl, h2, h3, rfl⟩ := zp_sto hp
  have hlt := (lst_spec h3).1
  cases v <;> simp only [zso] at h2 <;> first | (exact absurd h2 (by decide)) | skip
  exact lv_fstore hx hb hd hL.has hlt rfl (fun lsC' hl => kk lsC' (zLR.put h3 hl))
theorem zs_lstore (hx : p.tables.exec = Jvm.exec) (hb : c.code = zB k) {r : Nat × zL × zS × zH} (hL : zLR ρ ls lsC) {n : Nat} (hd : decode (zB k) pc = .ok ((.lstore n), 2)) (hp : zpure (.lstore n) (pc + 2) tg aux ls st h = some r) (kk : zKo p l e R s m args below meth c Q ρ H locs cells slots r) : zWg p l e R s m args below meth c Q ρ pc lsC st H locs cells slots := by
  obtain ⟨v, st', l', rfl, h2, h3, rfl⟩ := zp_sto2 hp
  have hlt := (lst2_spec h3).1
  cases v <;> simp only [zso] at h2 <;> first | (exact absurd h2 (by decide)) | skip
  exact lv_lstore hx hb hd hL.has hlt rfl (fun lsC' hl => kk lsC' (zLR.put2 h3 hl))
theorem zs_aload_n (hx : p.tables.exec = Jvm.exec) (hb : c.code = zB k) {r : Nat × zL × zS × zH} (hL : zLR ρ ls lsC) {n : Fin 4} (hd : decode (zB k) pc = .ok ((.aload_n n), 1)) (hp : zpure (.aload_n n) (pc + 1) tg aux ls st h = some r) (kk : zKo p l e R s m args below meth c Q ρ H locs cells slots r) : zWg p l e R s m args below meth c Q ρ pc lsC st H locs cells slots := by
  obtain ⟨v, h1, h2, rfl⟩ := zp_lo hp
  cases v <;> simp only [zso] at h2 <;> first | (exact absurd h2 (by decide)) | skip
  · exact lv_aload_nN hx hb hd rfl (hL.2.2 _ _ h1) (kk lsC hL)
  · exact lv_aload_n hx hb hd rfl (hL.2.2 _ _ h1) (kk lsC hL)
theorem zs_astore_n (hx : p.tables.exec = Jvm.exec) (hb : c.code = zB k) {r : Nat × zL × zS × zH} (hL : zLR ρ ls lsC) {n : Fin 4} (hd : decode (zB k) pc = .ok ((.astore_n n), 1)) (hp : zpure (.astore_n n) (pc + 1) tg aux ls st h = some r) (kk : zKo p l e R s m args below meth c Q ρ H locs cells slots r) : zWg p l e R s m args below meth c Q ρ pc lsC st H locs cells slots := by
  obtain ⟨v, st', l', rfl, h2, h3, rfl⟩ := zp_sto hp
  have hlt := (lst_spec h3).1
  cases v <;> simp only [zso] at h2 <;> first | (exact absurd h2 (by decide)) | skip
  · exact lv_astore_nN hx hb hd rfl hL.has hlt rfl (fun lsC' hl => kk lsC' (zLR.put h3 hl))
  · exact lv_astore_n hx hb hd rfl hL.has hlt rfl (fun lsC' hl => kk lsC' (zLR.put h3 hl))
theorem zs_istore_n (hx : p.tables.exec = Jvm.exec) (hb : c.code = zB k) {r : Nat × zL × zS × zH} (hL : zLR ρ ls lsC) {n : Fin 4} (hd : decode (zB k) pc = .ok ((.istore_n n), 1)) (hp : zpure (.istore_n n) (pc + 1) tg aux ls st h = some r) (kk : zKo p l e R s m args below meth c Q ρ H locs cells slots r) : zWg p l e R s m args below meth c Q ρ pc lsC st H locs cells slots := by
  obtain ⟨v, st', l', rfl, h2, h3, rfl⟩ := zp_sto hp
  have hlt := (lst_spec h3).1
  cases v <;> simp only [zso] at h2 <;> first | (exact absurd h2 (by decide)) | skip
  exact lv_istore_n hx hb hd rfl hL.has hlt rfl (fun lsC' hl => kk lsC' (zLR.put h3 hl))
theorem zs_fstore_n (hx : p.tables.exec = Jvm.exec) (hb : c.code = zB k) {r : Nat × zL × zS × zH} (hL : zLR ρ ls lsC) {n : Fin 4} (hd : decode (zB k) pc = .ok ((.fstore_n n), 1)) (hp : zpure (.fstore_n n) (pc + 1) tg aux ls st h = some r) (kk : zKo p l e R s m args below meth c Q ρ H locs cells slots r) : zWg p l e R s m args below meth c Q ρ pc lsC st H locs cells slots := by
  obtain ⟨v, st', l', rfl, h2, h3, rfl⟩ := zp_sto hp
  have hlt := (lst_spec h3).1
  cases v <;> simp only [zso] at h2 <;> first | (exact absurd h2 (by decide)) | skip
  exact lv_fstore_n hx hb hd rfl hL.has hlt rfl (fun lsC' hl => kk lsC' (zLR.put h3 hl))
theorem zs_lstore_n (hx : p.tables.exec = Jvm.exec) (hb : c.code = zB k) {r : Nat × zL × zS × zH} (hL : zLR ρ ls lsC) {n : Fin 4} (hd : decode (zB k) pc = .ok ((.lstore_n n), 1)) (hp : zpure (.lstore_n n) (pc + 1) tg aux ls st h = some r) (kk : zKo p l e R s m args below meth c Q ρ H locs cells slots r) : zWg p l e R s m args below meth c Q ρ pc lsC st H locs cells slots := by
  obtain ⟨v, st', l', rfl, h2, h3, rfl⟩ := zp_sto2 hp
  have hlt := (lst2_spec h3).1
  cases v <;> simp only [zso] at h2 <;> first | (exact absurd h2 (by decide)) | skip
  exact lv_lstore_n hx hb hd rfl hL.has hlt rfl (fun lsC' hl => kk lsC' (zLR.put2 h3 hl))
theorem zs_iconst (hx : p.tables.exec = Jvm.exec) (hb : c.code = zB k) {r : Nat × zL × zS × zH} (hL : zLR ρ ls lsC) {n : Int} (hd : decode (zB k) pc = .ok ((.iconst n), 1)) (hp : zpure (.iconst n) (pc + 1) tg aux ls st h = some r) (kk : zKo p l e R s m args below meth c Q ρ H locs cells slots r) : zWg p l e R s m args below meth c Q ρ pc lsC st H locs cells slots := by
  cases hp
  exact lv_iconst hx hb hd rfl (kk lsC hL)
theorem zs_bipush (hx : p.tables.exec = Jvm.exec) (hb : c.code = zB k) {r : Nat × zL × zS × zH} (hL : zLR ρ ls lsC) {n : Int} (hn : (Int8.ofInt n).toInt32 = Int32.ofInt n) (hd : decode (zB k) pc = .ok ((.bipush n), 2)) (hp : zpure (.bipush n) (pc + 2) tg aux ls st h = some r) (kk : zKo p l e R s m args below meth c Q ρ H locs cells slots r) : zWg p l e R s m args below meth c Q ρ pc lsC st H locs cells slots := by
  cases hp
  exact lv_bipush hx hb hd hn (kk lsC hL)
theorem zs_sipush (hx : p.tables.exec = Jvm.exec) (hb : c.code = zB k) {r : Nat × zL × zS × zH} (hL : zLR ρ ls lsC) {n : Int} (hn : (Int16.ofInt n).toInt32 = Int32.ofInt n) (hd : decode (zB k) pc = .ok ((.sipush n), 3)) (hp : zpure (.sipush n) (pc + 3) tg aux ls st h = some r) (kk : zKo p l e R s m args below meth c Q ρ H locs cells slots r) : zWg p l e R s m args below meth c Q ρ pc lsC st H locs cells slots := by
  cases hp
  exact lv_sipush hx hb hd hn (kk lsC hL)
theorem zs_lconst (hx : p.tables.exec = Jvm.exec) (hb : c.code = zB k) {r : Nat × zL × zS × zH} (hL : zLR ρ ls lsC) {n : Fin 2} (hd : decode (zB k) pc = .ok ((.lconst n), 1)) (hp : zpure (.lconst n) (pc + 1) tg aux ls st h = some r) (kk : zKo p l e R s m args below meth c Q ρ H locs cells slots r) : zWg p l e R s m args below meth c Q ρ pc lsC st H locs cells slots := by
  cases hp
  exact lv_lconst hx hb hd rfl (kk lsC hL)
theorem zs_aconst_null (hx : p.tables.exec = Jvm.exec) (hb : c.code = zB k) {r : Nat × zL × zS × zH} (hL : zLR ρ ls lsC) (hd : decode (zB k) pc = .ok (.aconst_null, 1)) (hp : zpure .aconst_null (pc + 1) tg aux ls st h = some r) (kk : zKo p l e R s m args below meth c Q ρ H locs cells slots r) : zWg p l e R s m args below meth c Q ρ pc lsC st H locs cells slots := by
  cases hp
  exact lv_null hx hb hd (kk lsC hL)
theorem zs_fconst (hx : p.tables.exec = Jvm.exec) (hb : c.code = zB k) {r : Nat × zL × zS × zH} (hL : zLR ρ ls lsC) {n : Fin 3} (hd : decode (zB k) pc = .ok ((.fconst n), 1)) (hp : zpure (.fconst n) (pc + 1) tg aux ls st h = some r) (kk : zKo p l e R s m args below meth c Q ρ H locs cells slots r) : zWg p l e R s m args below meth c Q ρ pc lsC st H locs cells slots := by
  match n, hd, hp with
  | 0, hd, hp => cases hp; exact lv_fconst0 hx hb hd (kk lsC hL)
  | 1, hd, hp => cases hp; exact lv_fconst1 hx hb hd (kk lsC hL)
  | 2, hd, hp => cases hp; exact lv_fconst2 hx hb hd (kk lsC hL)
theorem zs_iadd (hx : p.tables.exec = Jvm.exec) (hb : c.code = zB k) {r : Nat × zL × zS × zH} (hL : zLR ρ ls lsC) (hd : decode (zB k) pc = .ok (.iadd, 1)) (hp : zpure .iadd (pc + 1) tg aux ls st h = some r) (kk : zKo p l e R s m args below meth c Q ρ H locs cells slots r) : zWg p l e R s m args below meth c Q ρ pc lsC st H locs cells slots := by
  simp only [zpure] at hp
  split at hp <;> first | contradiction | skip
  cases hp
  exact lv_iadd hx hb hd (kk lsC hL)
theorem zs_isub (hx : p.tables.exec = Jvm.exec) (hb : c.code = zB k) {r : Nat × zL × zS × zH} (hL : zLR ρ ls lsC) (hd : decode (zB k) pc = .ok (.isub, 1)) (hp : zpure .isub (pc + 1) tg aux ls st h = some r) (kk : zKo p l e R s m args below meth c Q ρ H locs cells slots r) : zWg p l e R s m args below meth c Q ρ pc lsC st H locs cells slots := by
  simp only [zpure] at hp
  split at hp <;> first | contradiction | skip
  cases hp
  exact lv_isub hx hb hd (kk lsC hL)
theorem zs_imul (hx : p.tables.exec = Jvm.exec) (hb : c.code = zB k) {r : Nat × zL × zS × zH} (hL : zLR ρ ls lsC) (hd : decode (zB k) pc = .ok (.imul, 1)) (hp : zpure .imul (pc + 1) tg aux ls st h = some r) (kk : zKo p l e R s m args below meth c Q ρ H locs cells slots r) : zWg p l e R s m args below meth c Q ρ pc lsC st H locs cells slots := by
  simp only [zpure] at hp
  split at hp <;> first | contradiction | skip
  cases hp
  exact lv_imul hx hb hd (kk lsC hL)
theorem zs_iand (hx : p.tables.exec = Jvm.exec) (hb : c.code = zB k) {r : Nat × zL × zS × zH} (hL : zLR ρ ls lsC) (hd : decode (zB k) pc = .ok (.iand, 1)) (hp : zpure .iand (pc + 1) tg aux ls st h = some r) (kk : zKo p l e R s m args below meth c Q ρ H locs cells slots r) : zWg p l e R s m args below meth c Q ρ pc lsC st H locs cells slots := by
  simp only [zpure] at hp
  split at hp <;> first | contradiction | skip
  cases hp
  exact lv_iand hx hb hd (kk lsC hL)
theorem zs_ior (hx : p.tables.exec = Jvm.exec) (hb : c.code = zB k) {r : Nat × zL × zS × zH} (hL : zLR ρ ls lsC) (hd : decode (zB k) pc = .ok (.ior, 1)) (hp : zpure .ior (pc + 1) tg aux ls st h = some r) (kk : zKo p l e R s m args below meth c Q ρ H locs cells slots r) : zWg p l e R s m args below meth c Q ρ pc lsC st H locs cells slots := by
  simp only [zpure] at hp
  split at hp <;> first | contradiction | skip
  cases hp
  exact lv_ior hx hb hd (kk lsC hL)
theorem zs_ixor (hx : p.tables.exec = Jvm.exec) (hb : c.code = zB k) {r : Nat × zL × zS × zH} (hL : zLR ρ ls lsC) (hd : decode (zB k) pc = .ok (.ixor, 1)) (hp : zpure .ixor (pc + 1) tg aux ls st h = some r) (kk : zKo p l e R s m args below meth c Q ρ H locs cells slots r) : zWg p l e R s m args below meth c Q ρ pc lsC st H locs cells slots := by
  simp only [zpure] at hp
  split at hp <;> first | contradiction | skip
  cases hp
  exact lv_ixor hx hb hd (kk lsC hL)
theorem zs_ishl (hx : p.tables.exec = Jvm.exec) (hb : c.code = zB k) {r : Nat × zL × zS × zH} (hL : zLR ρ ls lsC) (hd : decode (zB k) pc = .ok (.ishl, 1)) (hp : zpure .ishl (pc + 1) tg aux ls st h = some r) (kk : zKo p l e R s m args below meth c Q ρ H locs cells slots r) : zWg p l e R s m args below meth c Q ρ pc lsC st H locs cells slots := by
  simp only [zpure] at hp
  split at hp <;> first | contradiction | skip
  cases hp
  exact lv_ishl hx hb hd (kk lsC hL)
theorem zs_ishr (hx : p.tables.exec = Jvm.exec) (hb : c.code = zB k) {r : Nat × zL × zS × zH} (hL : zLR ρ ls lsC) (hd : decode (zB k) pc = .ok (.ishr, 1)) (hp : zpure .ishr (pc + 1) tg aux ls st h = some r) (kk : zKo p l e R s m args below meth c Q ρ H locs cells slots r) : zWg p l e R s m args below meth c Q ρ pc lsC st H locs cells slots := by
  simp only [zpure] at hp
  split at hp <;> first | contradiction | skip
  cases hp
  exact lv_ishr hx hb hd (kk lsC hL)
theorem zs_iushr (hx : p.tables.exec = Jvm.exec) (hb : c.code = zB k) {r : Nat × zL × zS × zH} (hL : zLR ρ ls lsC) (hd : decode (zB k) pc = .ok (.iushr, 1)) (hp : zpure .iushr (pc + 1) tg aux ls st h = some r) (kk : zKo p l e R s m args below meth c Q ρ H locs cells slots r) : zWg p l e R s m args below meth c Q ρ pc lsC st H locs cells slots := by
  simp only [zpure] at hp
  split at hp <;> first | contradiction | skip
  cases hp
  exact lv_iushr hx hb hd rfl (kk lsC hL)
theorem zs_ineg (hx : p.tables.exec = Jvm.exec) (hb : c.code = zB k) {r : Nat × zL × zS × zH} (hL : zLR ρ ls lsC) (hd : decode (zB k) pc = .ok (.ineg, 1)) (hp : zpure .ineg (pc + 1) tg aux ls st h = some r) (kk : zKo p l e R s m args below meth c Q ρ H locs cells slots r) : zWg p l e R s m args below meth c Q ρ pc lsC st H locs cells slots := by
  simp only [zpure] at hp
  split at hp <;> first | contradiction | skip
  cases hp
  exact lv_ineg hx hb hd (kk lsC hL)
theorem zs_ladd (hx : p.tables.exec = Jvm.exec) (hb : c.code = zB k) {r : Nat × zL × zS × zH} (hL : zLR ρ ls lsC) (hd : decode (zB k) pc = .ok (.ladd, 1)) (hp : zpure .ladd (pc + 1) tg aux ls st h = some r) (kk : zKo p l e R s m args below meth c Q ρ H locs cells slots r) : zWg p l e R s m args below meth c Q ρ pc lsC st H locs cells slots := by
  simp only [zpure] at hp
  split at hp <;> first | contradiction | skip
  cases hp
  exact lv_ladd hx hb hd (kk lsC hL)
theorem zs_lmul (hx : p.tables.exec = Jvm.exec) (hb : c.code = zB k) {r : Nat × zL × zS × zH} (hL : zLR ρ ls lsC) (hd : decode (zB k) pc = .ok (.lmul, 1)) (hp : zpure .lmul (pc + 1) tg aux ls st h = some r) (kk : zKo p l e R s m args below meth c Q ρ H locs cells slots r) : zWg p l e R s m args below meth c Q ρ pc lsC st H locs cells slots := by
  simp only [zpure] at hp
  split at hp <;> first | contradiction | skip
  cases hp
  exact lv_lmul hx hb hd (kk lsC hL)
theorem zs_idiv (hx : p.tables.exec = Jvm.exec) (hb : c.code = zB k) {r : Nat × zL × zS × zH} (hL : zLR ρ ls lsC) (hd : decode (zB k) pc = .ok (.idiv, 1)) (hp : zpure .idiv (pc + 1) tg aux ls st h = some r) (kk : zKo p l e R s m args below meth c Q ρ H locs cells slots r) : zWg p l e R s m args below meth c Q ρ pc lsC st H locs cells slots := by
  simp only [zpure] at hp
  split at hp <;> first | contradiction | skip
  split at hp <;> first | contradiction | skip
  rename_i hn
  cases hp
  exact lv_idiv hx hb hd hn (kk lsC hL)
theorem zs_irem (hx : p.tables.exec = Jvm.exec) (hb : c.code = zB k) {r : Nat × zL × zS × zH} (hL : zLR ρ ls lsC) (hd : decode (zB k) pc = .ok (.irem, 1)) (hp : zpure .irem (pc + 1) tg aux ls st h = some r) (kk : zKo p l e R s m args below meth c Q ρ H locs cells slots r) : zWg p l e R s m args below meth c Q ρ pc lsC st H locs cells slots := by
  simp only [zpure] at hp
  split at hp <;> first | contradiction | skip
  split at hp <;> first | contradiction | skip
  rename_i hn
  cases hp
  exact lv_irem hx hb hd hn (kk lsC hL)
theorem zs_lcmp (hx : p.tables.exec = Jvm.exec) (hb : c.code = zB k) {r : Nat × zL × zS × zH} (hL : zLR ρ ls lsC) (hd : decode (zB k) pc = .ok (.lcmp, 1)) (hp : zpure .lcmp (pc + 1) tg aux ls st h = some r) (kk : zKo p l e R s m args below meth c Q ρ H locs cells slots r) : zWg p l e R s m args below meth c Q ρ pc lsC st H locs cells slots := by
  simp only [zpure] at hp
  split at hp <;> first | contradiction | skip
  cases hp
  exact W.lcmp hx hb hd (kk lsC hL)
theorem zs_i2l (hx : p.tables.exec = Jvm.exec) (hb : c.code = zB k) {r : Nat × zL × zS × zH} (hL : zLR ρ ls lsC) (hd : decode (zB k) pc = .ok (.i2l, 1)) (hp : zpure .i2l (pc + 1) tg aux ls st h = some r) (kk : zKo p l e R s m args below meth c Q ρ H locs cells slots r) : zWg p l e R s m args below meth c Q ρ pc lsC st H locs cells slots := by
  simp only [zpure] at hp
  split at hp <;> first | contradiction | skip
  cases hp
  exact lv_i2l hx hb hd rfl (kk lsC hL)
theorem zs_i2b (hx : p.tables.exec = Jvm.exec) (hb : c.code = zB k) {r : Nat × zL × zS × zH} (hL : zLR ρ ls lsC) (hd : decode (zB k) pc = .ok (.i2b, 1)) (hp : zpure .i2b (pc + 1) tg aux ls st h = some r) (kk : zKo p l e R s m args below meth c Q ρ H locs cells slots r) : zWg p l e R s m args below meth c Q ρ pc lsC st H locs cells slots := by
  simp only [zpure] at hp
  split at hp <;> first | contradiction | skip
  cases hp
  exact lv_i2b hx hb hd rfl (kk lsC hL)
theorem zs_i2c (hx : p.tables.exec = Jvm.exec) (hb : c.code = zB k) {r : Nat × zL × zS × zH} (hL : zLR ρ ls lsC) (hd : decode (zB k) pc = .ok (.i2c, 1)) (hp : zpure .i2c (pc + 1) tg aux ls st h = some r) (kk : zKo p l e R s m args below meth c Q ρ H locs cells slots r) : zWg p l e R s m args below meth c Q ρ pc lsC st H locs cells slots := by
  simp only [zpure] at hp
  split at hp <;> first | contradiction | skip
  cases hp
  exact lv_i2c hx hb hd rfl (kk lsC hL)
theorem zs_i2f (hx : p.tables.exec = Jvm.exec) (hb : c.code = zB k) {r : Nat × zL × zS × zH} (hL : zLR ρ ls lsC) (hd : decode (zB k) pc = .ok (.i2f, 1)) (hp : zpure .i2f (pc + 1) tg aux ls st h = some r) (kk : zKo p l e R s m args below meth c Q ρ H locs cells slots r) : zWg p l e R s m args below meth c Q ρ pc lsC st H locs cells slots := by
  simp only [zpure] at hp
  split at hp <;> first | contradiction | skip
  cases hp
  exact lv_i2f hx hb hd (kk lsC hL)
theorem zs_f2i (hx : p.tables.exec = Jvm.exec) (hb : c.code = zB k) {r : Nat × zL × zS × zH} (hL : zLR ρ ls lsC) (hd : decode (zB k) pc = .ok (.f2i, 1)) (hp : zpure .f2i (pc + 1) tg aux ls st h = some r) (kk : zKo p l e R s m args below meth c Q ρ H locs cells slots r) : zWg p l e R s m args below meth c Q ρ pc lsC st H locs cells slots := by
  simp only [zpure] at hp
  split at hp <;> first | contradiction | skip
  cases hp
  exact lv_f2i hx hb hd (kk lsC hL)
theorem zs_fneg (hx : p.tables.exec = Jvm.exec) (hb : c.code = zB k) {r : Nat × zL × zS × zH} (hL : zLR ρ ls lsC) (hd : decode (zB k) pc = .ok (.fneg, 1)) (hp : zpure .fneg (pc + 1) tg aux ls st h = some r) (kk : zKo p l e R s m args below meth c Q ρ H locs cells slots r) : zWg p l e R s m args below meth c Q ρ pc lsC st H locs cells slots := by
  simp only [zpure] at hp
  split at hp <;> first | contradiction | skip
  cases hp
  exact lv_fneg hx hb hd (kk lsC hL)
theorem zs_fcmp (hx : p.tables.exec = Jvm.exec) (hb : c.code = zB k) {r : Nat × zL × zS × zH} (hL : zLR ρ ls lsC) {op : CmpOp} (hd : decode (zB k) pc = .ok ((.fcmp op), 1)) (hp : zpure (.fcmp op) (pc + 1) tg aux ls st h = some r) (kk : zKo p l e R s m args below meth c Q ρ H locs cells slots r) : zWg p l e R s m args below meth c Q ρ pc lsC st H locs cells slots := by
  simp only [zpure] at hp
  split at hp <;> first | contradiction | skip
  cases hp
  exact lv_fcmp hx hb hd (kk lsC hL)
theorem zs_dcmp (hx : p.tables.exec = Jvm.exec) (hb : c.code = zB k) {r : Nat × zL × zS × zH} (hL : zLR ρ ls lsC) {op : CmpOp} (hd : decode (zB k) pc = .ok ((.dcmp op), 1)) (hp : zpure (.dcmp op) (pc + 1) tg aux ls st h = some r) (kk : zKo p l e R s m args below meth c Q ρ H locs cells slots r) : zWg p l e R s m args below meth c Q ρ pc lsC st H locs cells slots := by
  simp only [zpure] at hp
  split at hp <;> first | contradiction | skip
  cases hp
  exact lv_dcmp hx hb hd (kk lsC hL)
theorem zs_fadd (hx : p.tables.exec = Jvm.exec) (hb : c.code = zB k) {r : Nat × zL × zS × zH} (hL : zLR ρ ls lsC) (hd : decode (zB k) pc = .ok (.fadd, 1)) (hp : zpure .fadd (pc + 1) tg aux ls st h = some r) (kk : zKo p l e R s m args below meth c Q ρ H locs cells slots r) : zWg p l e R s m args below meth c Q ρ pc lsC st H locs cells slots := by
  simp only [zpure] at hp
  split at hp <;> first | contradiction | skip
  split at hp <;> first | contradiction | skip
  rename_i hn
  cases hp
  exact lv_fadd hx hb hd hn (kk lsC hL)
theorem zs_fsub (hx : p.tables.exec = Jvm.exec) (hb : c.code = zB k) {r : Nat × zL × zS × zH} (hL : zLR ρ ls lsC) (hd : decode (zB k) pc = .ok (.fsub, 1)) (hp : zpure .fsub (pc + 1) tg aux ls st h = some r) (kk : zKo p l e R s m args below meth c Q ρ H locs cells slots r) : zWg p l e R s m args below meth c Q ρ pc lsC st H locs cells slots := by
  simp only [zpure] at hp
  split at hp <;> first | contradiction | skip
  split at hp <;> first | contradiction | skip
  rename_i hn
  cases hp
  exact lv_fsub hx hb hd hn (kk lsC hL)
theorem zs_fmul (hx : p.tables.exec = Jvm.exec) (hb : c.code = zB k) {r : Nat × zL × zS × zH} (hL : zLR ρ ls lsC) (hd : decode (zB k) pc = .ok (.fmul, 1)) (hp : zpure .fmul (pc + 1) tg aux ls st h = some r) (kk : zKo p l e R s m args below meth c Q ρ H locs cells slots r) : zWg p l e R s m args below meth c Q ρ pc lsC st H locs cells slots := by
  simp only [zpure] at hp
  split at hp <;> first | contradiction | skip
  split at hp <;> first | contradiction | skip
  rename_i hn
  cases hp
  exact lv_fmul hx hb hd hn (kk lsC hL)
theorem zs_fdiv (hx : p.tables.exec = Jvm.exec) (hb : c.code = zB k) {r : Nat × zL × zS × zH} (hL : zLR ρ ls lsC) (hd : decode (zB k) pc = .ok (.fdiv, 1)) (hp : zpure .fdiv (pc + 1) tg aux ls st h = some r) (kk : zKo p l e R s m args below meth c Q ρ H locs cells slots r) : zWg p l e R s m args below meth c Q ρ pc lsC st H locs cells slots := by
  simp only [zpure] at hp
  split at hp <;> first | contradiction | skip
  split at hp <;> first | contradiction | skip
  rename_i hn
  cases hp
  exact lv_fdiv hx hb hd hn (kk lsC hL)
theorem zs_f2d (hx : p.tables.exec = Jvm.exec) (hb : c.code = zB k) {r : Nat × zL × zS × zH} (hL : zLR ρ ls lsC) (hd : decode (zB k) pc = .ok (.f2d, 1)) (hp : zpure .f2d (pc + 1) tg aux ls st h = some r) (kk : zKo p l e R s m args below meth c Q ρ H locs cells slots r) : zWg p l e R s m args below meth c Q ρ pc lsC st H locs cells slots := by
  simp only [zpure] at hp
  split at hp <;> first | contradiction | skip
  split at hp <;> first | contradiction | skip
  rename_i hn
  cases hp
  exact lv_f2d hx hb hd hn (kk lsC hL)
theorem zc1_cat {v : Value} (h : zc1 v = true) : (vmap ρ v).category = 1 := by cases v <;> first | rfl | (simp [zc1] at h; done)
theorem zs_pop (hx : p.tables.exec = Jvm.exec) (hb : c.code = zB k) {r : Nat × zL × zS × zH} (hL : zLR ρ ls lsC) (hd : decode (zB k) pc = .ok (.pop, 1)) (hp : zpure .pop (pc + 1) tg aux ls st h = some r) (kk : zKo p l e R s m args below meth c Q ρ H locs cells slots r) : zWg p l e R s m args below meth c Q ρ pc lsC st H locs cells slots := by
  simp only [zpure] at hp
  split at hp <;> first | contradiction | skip
  split at hp <;> first | contradiction | skip
  rename_i hn
  cases hp
  exact lv_pop hx hb hd (zc1_cat hn) (kk lsC hL)
theorem zs_dup (hx : p.tables.exec = Jvm.exec) (hb : c.code = zB k) {r : Nat × zL × zS × zH} (hL : zLR ρ ls lsC) (hd : decode (zB k) pc = .ok (.dup, 1)) (hp : zpure .dup (pc + 1) tg aux ls st h = some r) (kk : zKo p l e R s m args below meth c Q ρ H locs cells slots r) : zWg p l e R s m args below meth c Q ρ pc lsC st H locs cells slots := by
  simp only [zpure] at hp
  split at hp <;> first | contradiction | skip
  split at hp <;> first | contradiction | skip
  rename_i hn
  cases hp
  exact lv_dup hx hb hd (zc1_cat hn) (kk lsC hL)
theorem zs_dup_x1 (hx : p.tables.exec = Jvm.exec) (hb : c.code = zB k) {r : Nat × zL × zS × zH} (hL : zLR ρ ls lsC) (hd : decode (zB k) pc = .ok (.dup_x1, 1)) (hp : zpure .dup_x1 (pc + 1) tg aux ls st h = some r) (kk : zKo p l e R s m args below meth c Q ρ H locs cells slots r) : zWg p l e R s m args below meth c Q ρ pc lsC st H locs cells slots := by
  simp only [zpure] at hp
  split at hp <;> first | contradiction | skip
  split at hp <;> first | contradiction | skip
  rename_i hn
  cases hp
  exact lv_dup_x1 hx hb hd (zc1_cat hn.1) (zc1_cat hn.2) (kk lsC hL)
theorem zs_dup2 (hx : p.tables.exec = Jvm.exec) (hb : c.code = zB k) {r : Nat × zL × zS × zH} (hL : zLR ρ ls lsC) (hd : decode (zB k) pc = .ok (.dup2, 1)) (hp : zpure .dup2 (pc + 1) tg aux ls st h = some r) (kk : zKo p l e R s m args below meth c Q ρ H locs cells slots r) : zWg p l e R s m args below meth c Q ρ pc lsC st H locs cells slots := by
  simp only [zpure] at hp
  split at hp <;> first | contradiction | skip
  split at hp <;> first | contradiction | skip
  rename_i hn
  cases hp
  exact lv_dup2_11 hx hb hd (zc1_cat hn.1) (zc1_cat hn.2) (kk lsC hL)
theorem zs_goto (hx : p.tables.exec = Jvm.exec) (hb : c.code = zB k) {r : Nat × zL × zS × zH} (hL : zLR ρ ls lsC) {o : Int} (ht : (pc : Int) + o = (tg : Int)) (hd : decode (zB k) pc = .ok ((.goto o), 3)) (hp : zpure (.goto o) (pc + 3) tg aux ls st h = some r) (kk : zKo p l e R s m args below meth c Q ρ H locs cells slots r) : zWg p l e R s m args below meth c Q ρ pc lsC st H locs cells slots := by
  cases hp
  exact lv_goto hx hb hd ht (kk lsC hL)
theorem zi_eq (a b : Int32) : a = b ↔ a.toInt = b.toInt := Int32.toInt_inj.symm
theorem zi_lt (a b : Int32) : a < b ↔ a.toInt < b.toInt := Int32.lt_iff_toInt_lt
theorem zi_le (a b : Int32) : a ≤ b ↔ a.toInt ≤ b.toInt := Int32.le_iff_toInt_le
theorem zi_0 : (0 : Int32).toInt = 0 := by decide
theorem zs_ifCond_eq (hx : p.tables.exec = Jvm.exec) (hb : c.code = zB k) {r : Nat × zL × zS × zH} (hL : zLR ρ ls lsC) {o : Int} (ht : (pc : Int) + o = (tg : Int)) (hd : decode (zB k) pc = .ok ((.ifCond .eq o), 3)) (hp : zpure (.ifCond .eq o) (pc + 3) tg aux ls st h = some r) (kk : zKo p l e R s m args below meth c Q ρ H locs cells slots r) : zWg p l e R s m args below meth c Q ρ pc lsC st H locs cells slots := by
  simp only [zpure] at hp
  split at hp <;> first | contradiction | skip
  simp only [zat] at hp
  split at hp <;> rename_i hq <;> cases hp <;> refine lv_if_eq hx hb hd ht (fun hc => ?_) (fun hc => ?_) <;> first
    | exact kk lsC hL
    | (exfalso; simp only [zi_eq, zi_lt, zi_le, zi_0] at hc hq; omega)
theorem zs_if_icmp_eq (hx : p.tables.exec = Jvm.exec) (hb : c.code = zB k) {r : Nat × zL × zS × zH} (hL : zLR ρ ls lsC) {o : Int} (ht : (pc : Int) + o = (tg : Int)) (hd : decode (zB k) pc = .ok ((.if_icmp .eq o), 3)) (hp : zpure (.if_icmp .eq o) (pc + 3) tg aux ls st h = some r) (kk : zKo p l e R s m args below meth c Q ρ H locs cells slots r) : zWg p l e R s m args below meth c Q ρ pc lsC st H locs cells slots := by
  simp only [zpure] at hp
  split at hp <;> first | contradiction | skip
  simp only [zat] at hp
  split at hp <;> rename_i hq <;> cases hp <;> refine lv_icmp_eq hx hb hd ht (fun hc => ?_) (fun hc => ?_) <;> first
    | exact kk lsC hL
    | (exfalso; simp only [zi_eq, zi_lt, zi_le, zi_0] at hc hq; omega)
theorem zs_ifCond_ne (hx : p.tables.exec = Jvm.exec) (hb : c.code = zB k) {r : Nat × zL × zS × zH} (hL : zLR ρ ls lsC) {o : Int} (ht : (pc : Int) + o = (tg : Int)) (hd : decode (zB k) pc = .ok ((.ifCond .ne o), 3)) (hp : zpure (.ifCond .ne o) (pc + 3) tg aux ls st h = some r) (kk : zKo p l e R s m args below meth c Q ρ H locs cells slots r) : zWg p l e R s m args below meth c Q ρ pc lsC st H locs cells slots := by
  simp only [zpure] at hp
  split at hp <;> first | contradiction | skip
  simp only [zat] at hp
  split at hp <;> rename_i hq <;> cases hp <;> refine lv_if_ne hx hb hd ht (fun hc => ?_) (fun hc => ?_) <;> first
    | exact kk lsC hL
    | (exfalso; simp only [zi_eq, zi_lt, zi_le, zi_0] at hc hq; omega)
theorem zs_if_icmp_ne (hx : p.tables.exec = Jvm.exec) (hb : c.code = zB k) {r : Nat × zL × zS × zH} (hL : zLR ρ ls lsC) {o : Int} (ht : (pc : Int) + o = (tg : Int)) (hd : decode (zB k) pc = .ok ((.if_icmp .ne o), 3)) (hp : zpure (.if_icmp .ne o) (pc + 3) tg aux ls st h = some r) (kk : zKo p l e R s m args below meth c Q ρ H locs cells slots r) : zWg p l e R s m args below meth c Q ρ pc lsC st H locs cells slots := by
  simp only [zpure] at hp
  split at hp <;> first | contradiction | skip
  simp only [zat] at hp
  split at hp <;> rename_i hq <;> cases hp <;> refine lv_icmp_ne hx hb hd ht (fun hc => ?_) (fun hc => ?_) <;> first
    | exact kk lsC hL
    | (exfalso; simp only [zi_eq, zi_lt, zi_le, zi_0] at hc hq; omega)
theorem zs_ifCond_lt (hx : p.tables.exec = Jvm.exec) (hb : c.code = zB k) {r : Nat × zL × zS × zH} (hL : zLR ρ ls lsC) {o : Int} (ht : (pc : Int) + o = (tg : Int)) (hd : decode (zB k) pc = .ok ((.ifCond .lt o), 3)) (hp : zpure (.ifCond .lt o) (pc + 3) tg aux ls st h = some r) (kk : zKo p l e R s m args below meth c Q ρ H locs cells slots r) : zWg p l e R s m args below meth c Q ρ pc lsC st H locs cells slots := by
  simp only [zpure] at hp
  split at hp <;> first | contradiction | skip
  simp only [zat] at hp
  split at hp <;> rename_i hq <;> cases hp <;> refine lv_if_lt hx hb hd ht (fun hc => ?_) (fun hc => ?_) <;> first
    | exact kk lsC hL
    | (exfalso; simp only [zi_eq, zi_lt, zi_le, zi_0] at hc hq; omega)
theorem zs_if_icmp_lt (hx : p.tables.exec = Jvm.exec) (hb : c.code = zB k) {r : Nat × zL × zS × zH} (hL : zLR ρ ls lsC) {o : Int} (ht : (pc : Int) + o = (tg : Int)) (hd : decode (zB k) pc = .ok ((.if_icmp .lt o), 3)) (hp : zpure (.if_icmp .lt o) (pc + 3) tg aux ls st h = some r) (kk : zKo p l e R s m args below meth c Q ρ H locs cells slots r) : zWg p l e R s m args below meth c Q ρ pc lsC st H locs cells slots := by
  simp only [zpure] at hp
  split at hp <;> first | contradiction | skip
  simp only [zat] at hp
  split at hp <;> rename_i hq <;> cases hp <;> refine lv_icmp_lt hx hb hd ht (fun hc => ?_) (fun hc => ?_) <;> first
    | exact kk lsC hL
    | (exfalso; simp only [zi_eq, zi_lt, zi_le, zi_0] at hc hq; omega)
theorem zs_ifCond_ge (hx : p.tables.exec = Jvm.exec) (hb : c.code = zB k) {r : Nat × zL × zS × zH} (hL : zLR ρ ls lsC) {o : Int} (ht : (pc : Int) + o = (tg : Int)) (hd : decode (zB k) pc = .ok ((.ifCond .ge o), 3)) (hp : zpure (.ifCond .ge o) (pc + 3) tg aux ls st h = some r) (kk : zKo p l e R s m args below meth c Q ρ H locs cells slots r) : zWg p l e R s m args below meth c Q ρ pc lsC st H locs cells slots := by
  simp only [zpure] at hp
  split at hp <;> first | contradiction | skip
  simp only [zat] at hp
  split at hp <;> rename_i hq <;> cases hp <;> refine lv_if_ge hx hb hd ht (fun hc => ?_) (fun hc => ?_) <;> first
    | exact kk lsC hL
    | (exfalso; simp only [zi_eq, zi_lt, zi_le, zi_0] at hc hq; omega)
theorem zs_if_icmp_ge (hx : p.tables.exec = Jvm.exec) (hb : c.code = zB k) {r : Nat × zL × zS × zH} (hL : zLR ρ ls lsC) {o : Int} (ht : (pc : Int) + o = (tg : Int)) (hd : decode (zB k) pc = .ok ((.if_icmp .ge o), 3)) (hp : zpure (.if_icmp .ge o) (pc + 3) tg aux ls st h = some r) (kk : zKo p l e R s m args below meth c Q ρ H locs cells slots r) : zWg p l e R s m args below meth c Q ρ pc lsC st H locs cells slots := by
  simp only [zpure] at hp
  split at hp <;> first | contradiction | skip
  simp only [zat] at hp
  split at hp <;> rename_i hq <;> cases hp <;> refine lv_icmp_ge hx hb hd ht (fun hc => ?_) (fun hc => ?_) <;> first
    | exact kk lsC hL
    | (exfalso; simp only [zi_eq, zi_lt, zi_le, zi_0] at hc hq; omega)
theorem zs_ifCond_gt (hx : p.tables.exec = Jvm.exec) (hb : c.code = zB k) {r : Nat × zL × zS × zH} (hL : zLR ρ ls lsC) {o : Int} (ht : (pc : Int) + o = (tg : Int)) (hd : decode (zB k) pc = .ok ((.ifCond .gt o), 3)) (hp : zpure (.ifCond .gt o) (pc + 3) tg aux ls st h = some r) (kk : zKo p l e R s m args below meth c Q ρ H locs cells slots r) : zWg p l e R s m args below meth c Q ρ pc lsC st H locs cells slots := by
  simp only [zpure] at hp
  split at hp <;> first | contradiction | skip
  simp only [zat] at hp
  split at hp <;> rename_i hq <;> cases hp <;> refine lv_if_gt hx hb hd ht (fun hc => ?_) (fun hc => ?_) <;> first
    | exact kk lsC hL
    | (exfalso; simp only [zi_eq, zi_lt, zi_le, zi_0] at hc hq; omega)
theorem zs_if_icmp_gt (hx : p.tables.exec = Jvm.exec) (hb : c.code = zB k) {r : Nat × zL × zS × zH} (hL : zLR ρ ls lsC) {o : Int} (ht : (pc : Int) + o = (tg : Int)) (hd : decode (zB k) pc = .ok ((.if_icmp .gt o), 3)) (hp : zpure (.if_icmp .gt o) (pc + 3) tg aux ls st h = some r) (kk : zKo p l e R s m args below meth c Q ρ H locs cells slots r) : zWg p l e R s m args below meth c Q ρ pc lsC st H locs cells slots := by
  simp only [zpure] at hp
  split at hp <;> first | contradiction | skip
  simp only [zat] at hp
  split at hp <;> rename_i hq <;> cases hp <;> refine lv_icmp_gt hx hb hd ht (fun hc => ?_) (fun hc => ?_) <;> first
    | exact kk lsC hL
    | (exfalso; simp only [zi_eq, zi_lt, zi_le, zi_0] at hc hq; omega)
theorem zs_ifCond_le (hx : p.tables.exec = Jvm.exec) (hb : c.code = zB k) {r : Nat × zL × zS × zH} (hL : zLR ρ ls lsC) {o : Int} (ht : (pc : Int) + o = (tg : Int)) (hd : decode (zB k) pc = .ok ((.ifCond .le o), 3)) (hp : zpure (.ifCond .le o) (pc + 3) tg aux ls st h = some r) (kk : zKo p l e R s m args below meth c Q ρ H locs cells slots r) : zWg p l e R s m args below meth c Q ρ pc lsC st H locs cells slots := by
  simp only [zpure] at hp
  split at hp <;> first | contradiction | skip
  simp only [zat] at hp
  split at hp <;> rename_i hq <;> cases hp <;> refine lv_if_le hx hb hd ht (fun hc => ?_) (fun hc => ?_) <;> first
    | exact kk lsC hL
    | (exfalso; simp only [zi_eq, zi_lt, zi_le, zi_0] at hc hq; omega)
theorem zs_if_icmp_le (hx : p.tables.exec = Jvm.exec) (hb : c.code = zB k) {r : Nat × zL × zS × zH} (hL : zLR ρ ls lsC) {o : Int} (ht : (pc : Int) + o = (tg : Int)) (hd : decode (zB k) pc = .ok ((.if_icmp .le o), 3)) (hp : zpure (.if_icmp .le o) (pc + 3) tg aux ls st h = some r) (kk : zKo p l e R s m args below meth c Q ρ H locs cells slots r) : zWg p l e R s m args below meth c Q ρ pc lsC st H locs cells slots := by
  simp only [zpure] at hp
  split at hp <;> first | contradiction | skip
  simp only [zat] at hp
  split at hp <;> rename_i hq <;> cases hp <;> refine lv_icmp_le hx hb hd ht (fun hc => ?_) (fun hc => ?_) <;> first
    | exact kk lsC hL
    | (exfalso; simp only [zi_eq, zi_lt, zi_le, zi_0] at hc hq; omega)
end ZS

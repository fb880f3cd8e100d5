/-! what is made: objects, arrays, arrays of arrays; static methods that are rows of the kit -/
section ZX
variable {p : Program} {l : Launch} {e : Env} {R : Room} {s : State} {m : MethodId} {args : Array Value} {below : List Frame} {meth : Method} {c : Code} {Q : State → Prop}
variable {k pc nx tg : Nat} {aux : List Nat} {D : va_G} {cs : Nat → ClassId} {A : Nat → Prop} {b e1 mi L : Nat} {xs : Nat → Int32} {ρ : Nat → Nat} {ls : zL} {st : zS} {h : zH} {lsC : Array Slot} {H : Heap} {locs : List Loc} {cells slots : Nat}
def zup (ρ : Nat → Nat) (n q : Nat) : Nat → Nat := fun a => if a = n then q else ρ a
theorem zup_ext {n q : Nat} : Ext n ρ (zup ρ n q) := fun a ha => if_neg (Nat.ne_of_lt ha)
theorem zup_at {n q : Nat} : zup ρ n q n = q := if_pos rfl
theorem znew_old {kd n : Nat} {f : Nat → Value} {a : Nat} (ha : a < zn h) : zk (znew h kd n f) a = zk h a ∧ zl (znew h kd n f) a = zl h a ∧ ∀ i, zm (znew h kd n f) a i = zm h a i := by
  have e : a ≠ h.1.1 := Nat.ne_of_lt ha
  exact ⟨if_neg e, if_neg e, fun i => if_neg e⟩
theorem znew_new {kd n : Nat} {f : Nat → Value} : zk (znew h kd n f) (zn h) = kd ∧ zl (znew h kd n f) (zn h) = n ∧ ∀ i, zm (znew h kd n f) (zn h) i = f i := ⟨if_pos rfl, if_pos rfl, fun i => if_pos rfl⟩
/-- behind a making of one cell -/
theorem zgo_new {kd n q : Nat} {f : Nat → Value} {ce : va_E} {H1 : Heap} (hI : ZI L xs h) (hL : zLR ρ ls lsC) (hlk : zLOK (zn h) ls) (hsk : zSOK (zn h) st) (hce : ∀ ρ', ρ' (zn h) = q → ce = zcell ρ' cs (znew h kd n f) (zn h)) (hP : va_P D zcl (zws ρ cs h ++ [(q, ce)]) H1) (hD : va_D A (zws ρ cs h ++ [(q, ce)])) (hS : va_S A s.heap H1 locs)
    (kk : zKg p l e R s m args below meth c Q D cs A ρ h cells slots (nx, ls, .ref (zn h) :: st, znew h kd n f)) : W p l e R s m args below meth c H1 locs (cells + 1) (slots + n) Q (F0 m nx lsC (.ref q :: st.map (vmap ρ))) := by
  have hw := zws_push (ρ := ρ) (ρ' := zup ρ (zn h) q) (cs := cs) (h := h) (h' := znew h kd n f) hI.1 rfl zup_ext hI.2.2.2.2.2.2.2.2 (fun a ha => znew_old ha)
  rw [zup_at, ← hce _ zup_at] at hw
  have := kk (zup ρ (zn h) q) lsC H1 locs zup_ext (hL.ext zup_ext hlk) ⟨by rw [hw]; exact hP, by rw [hw]; exact hD⟩ hS
  have h1 : zuc (znew h kd n f) - zuc h = 1 := by show h.1.2.1 + 1 - h.1.2.1 = 1; omega
  have h2 : zus (znew h kd n f) - zus h = n := by show h.1.2.2 + n - h.1.2.2 = n; omega
  simp only [h1, h2, List.map_cons, vmap, zup_at, zst_ext zup_ext hsk] at this
  exact this
theorem zdef_fields : ∀ ci, zcl[ci]? = some (zFq ci) → ∃ ty : Nat → FieldType, (∀ k, k < (zFq ci).2.2 → parseFieldDescriptor ((zFq ci).2.1 k).2.2.1 = some (ty k)) ∧ ∀ k, k < (zFq ci).2.2 → defaultValue (ty k) = zdef (zty ci k) := by
  intro ci hq
  obtain ⟨ty, h1, -, h3⟩ := zFty hq
  refine ⟨ty, h1, fun k hk => ?_⟩
  rw [← h3 k hk]
  have hz : ztag (ty k) ≠ 8 := by
    rw [h3 k hk]
    match ci, hq with
    | 0, _ => revert k; decide +kernel
    | 1, _ => revert k; decide +kernel
    | 2, _ => revert k; decide +kernel
    | 3, _ => revert k; decide +kernel
    | 4, _ => revert k; decide +kernel
    | 5, _ => revert k; decide +kernel
    | 6, _ => revert k; decide +kernel
    | 7, _ => revert k; decide +kernel
    | ci + 8, hq => exact absurd (zcl_lt hq) (by omega)
  cases ty k <;> first | rfl | exact absurd rfl hz
theorem zs_new {n ci w : Nat} (C : zCtx k D cs A b e1 mi L xs p R s m args meth c) (hI : ZI L xs h) (hF : zNOK (zY k).cls n ci) (hw : (zFq ci).2.2 = w) (hL : zLR ρ ls lsC) (hlk : zLOK (zn h) ls) (hsk : zSOK (zn h) st) (hR : zHR D cs A ρ h H) (hS : va_S A s.heap H locs) (hd : decode (zB k) pc = .ok (.new n, 3)) (hc : cells + 1 ≤ R.cells) (hs : slots + w ≤ R.slots) (kk : zKg p l e R s m args below meth c Q D cs A ρ h cells slots (pc + 3, ls, .ref (zn h) :: st, znew h ci w (fun k => zdef (zty ci k)))) : zWg p l e R s m args below meth c Q ρ pc lsC st H locs cells slots := by
  obtain ⟨hq, hlk2, hins, hini⟩ := hF
  have hci := zcl_lt hq
  obtain ⟨ty, ht1, ht2⟩ := zdef_fields ci hq
  subst hw
  refine va_new (D := D) (cl := zcl) (tys := ztys cs) (ci := ci) (fs := (List.range (zFq ci).2.2).map (fun i => zdef (zty ci i))) (C := (zFq ci).1) (T := (zFq ci).2.1) (N := (zFq ci).2.2) C.1 C.2.1 C.2.2.2.1 (zuws hq) ty ht1 C.2.2.1 (C.word hlk2) (C.word hins) (C.word hini) C.2.2.2.2.2.1 hR.1 hR.2 hS C.2.2.2.2.2.2.2.2.2.1 hq (fun j hj => ?_) hc hs hd (fun q H1 hP hD hS1 => zgo_new hI hL hlk hsk (fun ρ' hρ' => ?_) hP hD hS1 kk)
  · rw [ht2 j hj]
    simp [vp_V, List.getD_eq_getElem?_getD, List.getElem?_range hj]
  · obtain ⟨h1, h2, h3⟩ := znew_new (h := h) (kd := ci) (n := (zFq ci).2.2) (f := fun k => zdef (zty ci k))
    rw [zcell_obj h1 (by omega)]
    refine congrArg (fun f => Sum.inr (ci, f)) ?_
    unfold zfs
    rw [h1, zN_q hq]
    refine List.map_congr_left fun i _ => ?_
    rw [h3 i]
    unfold zdef
    split <;> first | rfl | skip
    split <;> first | rfl | skip
    split <;> first | rfl | skip
    split <;> rfl
theorem zAC : ∀ t : ArrayType, t = .int ∨ t = .byte → (Cond.arrayClass (newarray.typeOf t) : Jvm.Cond) ∈ zW := by
  intro t h1
  rcases h1 with rfl | rfl <;> exact zW_all (ws := [_]) (by decide +kernel) _ List.mem_cons_self
theorem zs_newarray {t : ArrayType} {n : Int32} (C : zCtx k D cs A b e1 mi L xs p R s m args meth c) (hI : ZI L xs h) (h1 : t = .int ∨ t = .byte) (hL : zLR ρ ls lsC) (hlk : zLOK (zn h) ls) (hsk : zSOK (zn h) st) (hR : zHR D cs A ρ h H) (hS : va_S A s.heap H locs) (hd : decode (zB k) pc = .ok (.newarray t, 2)) (hn : 0 ≤ n.toInt ∧ n.toInt ≤ 67108864) (hc : cells + 1 ≤ R.cells) (hs : slots + n.toInt.toNat ≤ R.slots) (kk : zKg p l e R s m args below meth c Q D cs A ρ h cells slots (pc + 2, ls, .ref (zn h) :: st, znew h (zka t) n.toInt.toNat (fun _ => zdef (zkt t)))) : zWg p l e R s m args below meth c Q ρ pc lsC (.int n :: st) H locs cells slots := by
  have hn0 : ¬ n < 0 := by
    rw [zi_lt, zi_0]
    omega
  have hkd : 20 ≤ zka t ∧ zka t ≤ 25 := by rcases h1 with rfl | rfl <;> exact ⟨by decide, by decide⟩
  have hty : zT.getD (zka t - 20) .int = newarray.typeOf t := by rcases h1 with rfl | rfl <;> rfl
  refine va_newa (D := D) (cl := zcl) (tys := ztys cs) (atype := t) (ty := newarray.typeOf t) (n := n) (N' := n.toInt.toNat) (a0 := (n.toInt.toNat, zct ρ (znew h (zka t) n.toInt.toNat (fun _ => zdef (zkt t))) (zn h))) C.1 C.2.1 (C.word (zAC t h1)) rfl C.2.2.2.2.2.1 hR.1 hR.2 hS C.2.2.2.2.2.2.2.2.2.1 (fun cA => ?_) hn0 rfl ?_ hc hs hd (fun q cA H1 hK1 hP hD hS1 => ?_)
  · obtain ⟨e1, e2, e3⟩ := znew_new (h := h) (kd := zka t) (n := n.toInt.toNat) (f := fun _ => zdef (zkt t))
    unfold zct
    simp only [e1, e3]
    rcases h1 with rfl | rfl <;> rfl
  · have : componentBytes (newarray.typeOf t) ≤ 8 := by rcases h1 with rfl | rfl <;> decide
    calc n.toInt.toNat * componentBytes (newarray.typeOf t) ≤ 67108864 * 8 := Nat.mul_le_mul (by omega) this
      _ ≤ 536870912 := by decide
  · obtain rfl := ztys_new (j := zka t - 20) (by omega) hty hK1
    refine zgo_new hI hL hlk hsk (fun ρ' hρ' => ?_) hP hD hS1 kk
    obtain ⟨e1, e2, e3⟩ := znew_new (h := h) (kd := zka t) (n := n.toInt.toNat) (f := fun _ => zdef (zkt t))
    rw [zcell_arr e1 hkd.1, e2]
    refine congrArg (fun f => Sum.inl (cs (zka t - 20), n.toInt.toNat, f)) ?_
    unfold zct
    simp only [e1, e3]
    rw [if_neg (by omega : ¬ 26 ≤ zka t), if_neg (by omega : ¬ 26 ≤ zka t)]
theorem zs_anewarray {i : Nat} {n : Int32} (C : zCtx k D cs A b e1 mi L xs p R s m args meth c) (hI : ZI L xs h) (hw : zSw (zY k).cls i 8 ∈ zW) (hL : zLR ρ ls lsC) (hlk : zLOK (zn h) ls) (hsk : zSOK (zn h) st) (hR : zHR D cs A ρ h H) (hS : va_S A s.heap H locs) (hd : decode (zB k) pc = .ok (.anewarray i, 3)) (hn : 0 ≤ n.toInt ∧ n.toInt ≤ 67108864) (hc : cells + 1 ≤ R.cells) (hs : slots + n.toInt.toNat ≤ R.slots) (kk : zKg p l e R s m args below meth c Q D cs A ρ h cells slots (pc + 3, ls, .ref (zn h) :: st, znew h 26 n.toInt.toNat (fun _ => .null))) : zWg p l e R s m args below meth c Q ρ pc lsC (.int n :: st) H locs cells slots := by
  have hn0 : ¬ n < 0 := by
    rw [zi_lt, zi_0]
    omega
  refine va_newq (D := D) (cl := zcl) (tys := ztys cs) (C := "java/lang/Object") (n := n) (N' := n.toInt.toNat) C.1 C.2.1 C.2.2.1 (C.word hw) C.2.2.2.2.2.2.2.2.2.2.2.2.2.2.2.1 C.2.2.2.2.2.1 hR.1 hR.2 hS C.2.2.2.2.2.2.2.2.2.1 hn0 rfl (by omega) hc hs hd (fun q cA H1 hK1 hP hD hS1 => ?_)
  obtain rfl := ztys_new (j := 6) (by omega) rfl hK1
  refine zgo_new hI hL hlk hsk (fun ρ' hρ' => ?_) hP hD hS1 kk
  obtain ⟨e1, e2, e3⟩ := znew_new (h := h) (kd := 26) (n := n.toInt.toNat) (f := fun _ => Value.null)
  rw [zcell_arr e1 (by omega), e2, zct_r e1 (by omega)]
  simp only [e3]
  rfl
end ZX

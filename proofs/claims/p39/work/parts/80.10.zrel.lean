/-! what the numbered cells are in the machine's heap -/
def vmap (ρ : Nat → Nat) (v : Value) : Value := match v with
  | .ref a => .ref (ρ a)
  | v => v
def vI (v : Value) : Int32 := match v with
  | .int x => x
  | _ => 0
def vJ (v : Value) : Int64 := match v with
  | .long x => x
  | _ => 0
def vD (v : Value) : UInt64 := match v with
  | .double x => x
  | _ => 0
def vR (ρ : Nat → Nat) (v : Value) : Option Nat := match v with
  | .ref a => some (ρ a)
  | _ => none
/-- how many fields the objects of a kind have -/
def zN (ci : Nat) : Nat := (zcl.map (fun q => q.2.2)).getD ci 0
def zfs (ρ : Nat → Nat) (h : zH) (a : Nat) : List Value := (List.range (zN (zk h a))).map (fun i => vmap ρ (zm h a i))
def zct (ρ : Nat → Nat) (h : zH) (a : Nat) : (Nat → Int32) ⊕ (Nat → Int64) ⊕ (Nat → UInt32) ⊕ (Nat → UInt64) ⊕ (Nat → Option Nat) :=
  if zk h a = 24 then .inr (.inl (fun i => vJ (zm h a i))) else if zk h a = 25 then .inr (.inr (.inr (.inl (fun i => vD (zm h a i))))) else if 26 ≤ zk h a then .inr (.inr (.inr (.inr (fun i => vR ρ (zm h a i))))) else .inl (fun i => vI (zm h a i))
def zcell (ρ : Nat → Nat) (cs : Nat → ClassId) (h : zH) (a : Nat) : va_E := if zk h a < 20 then .inr (zk h a, zfs ρ h a) else .inl (cs (zk h a - 20), zl h a, zct ρ h a)
def zws (ρ : Nat → Nat) (cs : Nat → ClassId) (h : zH) : va_W := (List.range (zn h - 3)).map (fun i => (ρ (i + 3), zcell ρ cs h (i + 3)))
/-- the arrays' types, in the order of the kinds 20 to 28 -/
def zT : List FieldType := [.int, .byte, .int, .int, .int, .int, .object "java/lang/Object", .array .byte, .int]
def ztys (cs : Nat → ClassId) : List (ClassId × FieldType) := (List.range 9).map (fun i => (cs i, zT.getD i .int))
/-- a value names only cells that are there -/
def VOK (n : Nat) (v : Value) : Prop := ∀ a, v = .ref a → a < n
/-- what holds of the cells at any time: L ints at 0, an empty array at 1, a class object at 2 -/
def ZI (L : Nat) (xs : Nat → Int32) (h : zH) : Prop := 3 ≤ zn h ∧ (∀ a, zk h a < 29 → 3 ≤ a ∧ a < zn h ∧ zk h a ≠ 23 ∧ zk h a ≠ 28) ∧ zk h 0 = 30 ∧ zk h 1 = 31 ∧ zk h 2 = 50 ∧ zl h 0 = L ∧ zl h 1 = 0 ∧ (∀ i, i < L → zm h 0 i = .int (xs i)) ∧ ∀ a i, VOK (zn h) (zm h a i)
def Ext (n : Nat) (ρ ρ' : Nat → Nat) : Prop := ∀ a, a < n → ρ' a = ρ a
theorem Ext.rf {n : Nat} {ρ : Nat → Nat} : Ext n ρ ρ := fun _ _ => rfl
theorem Ext.tr {n n' : Nat} {ρ ρ' ρ'' : Nat → Nat} (h : n ≤ n') (h1 : Ext n ρ ρ') (h2 : Ext n' ρ' ρ'') : Ext n ρ ρ'' := fun a ha => (h2 a (Nat.lt_of_lt_of_le ha h)).trans (h1 a ha)
theorem vmap_ext {n : Nat} {ρ ρ' : Nat → Nat} (h : Ext n ρ ρ') {v : Value} (hv : VOK n v) : vmap ρ' v = vmap ρ v := by
  cases v <;> simp only [vmap]
  rw [h _ (hv _ rfl)]
theorem vR_ext {n : Nat} {ρ ρ' : Nat → Nat} (h : Ext n ρ ρ') {v : Value} (hv : VOK n v) : vR ρ' v = vR ρ v := by
  cases v <;> simp only [vR]
  rw [h _ (hv _ rfl)]
theorem VOK.mono {n n' : Nat} (h : n ≤ n') {v : Value} (hv : VOK n v) : VOK n' v := fun a e => Nat.lt_of_lt_of_le (hv a e) h
theorem vmap_cat (ρ : Nat → Nat) (v : Value) : (vmap ρ v).category = v.category := by cases v <;> rfl
def zHR (D : va_G) (cs : Nat → ClassId) (A : Nat → Prop) (ρ : Nat → Nat) (h : zH) (H : Heap) : Prop := va_P D zcl (zws ρ cs h) H ∧ va_D A (zws ρ cs h)
theorem zws_get {ρ : Nat → Nat} {cs : Nat → ClassId} {h : zH} {a : Nat} (h3 : 3 ≤ a) (hn : a < zn h) : (zws ρ cs h)[a - 3]? = some (ρ a, zcell ρ cs h a) := by
  unfold zws
  rw [List.getElem?_map, List.getElem?_range (by omega)]
  simp only [Option.map_some]
  rw [Nat.sub_add_cancel h3]
/-- the locals -/
def zLR (ρ : Nat → Nat) (ls : zL) (lsC : Array Slot) : Prop := lsC.size = ls.length ∧ lv_wf lsC ∧ ∀ i v, lget ls i = some v → lsC[i]? = some (.val (vmap ρ v))
def zLOK (n : Nat) (ls : zL) : Prop := ∀ i v, lget ls i = some v → VOK n v
def zSOK (n : Nat) (st : zS) : Prop := ∀ v ∈ st, VOK n v
def zas (ρ : Nat → Nat) (ls : zL) : List (Nat × Value) := (List.range ls.length).filterMap (fun i => (lget ls i).map (fun v => (i, vmap ρ v)))
theorem lget_lt : ∀ {ls : zL} {i : Nat} {v : Value}, lget ls i = some v → i < ls.length
  | [], _, _, h => by cases h
  | _ :: _, 0, _, _ => Nat.succ_pos _
  | _ :: l, n + 1, v, h => Nat.succ_lt_succ (lget_lt (ls := l) h)
theorem mem_zas {ρ : Nat → Nat} {ls : zL} {i : Nat} {v : Value} (h : lget ls i = some v) : (i, vmap ρ v) ∈ zas ρ ls := by
  refine List.mem_filterMap.mpr ⟨i, List.mem_range.mpr (lget_lt h), ?_⟩
  rw [h]
  rfl
theorem of_zas {ρ : Nat → Nat} {ls : zL} {q : Nat × Value} (h : q ∈ zas ρ ls) : ∃ v, lget ls q.1 = some v ∧ q.2 = vmap ρ v := by
  obtain ⟨i, -, hi⟩ := List.mem_filterMap.mp h
  cases hg : lget ls i with
  | none => rw [hg] at hi; cases hi
  | some v =>
    rw [hg] at hi
    cases hi
    exact ⟨v, hg, rfl⟩
theorem zLR.has {ρ : Nat → Nat} {ls : zL} {lsC : Array Slot} (h : zLR ρ ls lsC) : lv_has lsC ls.length (zas ρ ls) := by
  refine ⟨h.1, h.2.1, fun q hq => ?_⟩
  obtain ⟨v, h1, h2⟩ := of_zas hq
  rw [h2]
  exact h.2.2 _ _ h1
theorem lst_spec : ∀ {ls : zL} {i : Nat} {v : Value} {l' : zL}, lst ls i v = some l' → i < ls.length ∧ l'.length = ls.length ∧ (∀ j, lget l' j = if j = i then some v else lget ls j) ∧ ∀ j w, j + 1 = i → lget ls j = some w → w.category ≠ 2
  | [], _, _, _, h => by cases h
  | a :: l, 0, v, l', h => by
    cases h
    refine ⟨Nat.succ_pos _, rfl, fun j => ?_, fun j w e => absurd e (by omega)⟩
    cases j with
    | zero => rfl
    | succ j => simp [lget]
  | a :: l, n + 1, v, l', h => by
    unfold lst at h
    by_cases hc : n = 0 ∧ lc2 a = true
    · simp [hc] at h
    · rw [if_neg hc] at h
      cases hl : lst l n v with
      | none => rw [hl] at h; cases h
      | some l2 =>
        rw [hl] at h
        cases h
        obtain ⟨h1, h2, h3, h4⟩ := lst_spec hl
        refine ⟨Nat.succ_lt_succ h1, by simp [h2], fun j => ?_, fun j w e hj => ?_⟩
        · cases j with
          | zero => simp [lget]
          | succ j => simp [lget, h3 j]
        · cases j with
          | zero =>
            have h0 : n = 0 := by omega
            intro hw
            refine hc ⟨h0, ?_⟩
            have : a = some w := hj
            rw [this]
            cases w <;> first | rfl | (simp [Value.category] at hw; done)
          | succ j => exact h4 j w (by omega) hj
theorem lst2_spec : ∀ {ls : zL} {i : Nat} {v : Value} {l' : zL}, lst2 ls i v = some l' → i + 1 < ls.length ∧ l'.length = ls.length ∧ (∀ j, lget l' j = if j = i then some v else if j = i + 1 then none else lget ls j) ∧ ∀ j w, j + 1 = i → lget ls j = some w → w.category ≠ 2
  | [], _, _, _, h => by cases h
  | [_], 0, _, _, h => by cases h
  | a :: b :: l, 0, v, l', h => by
    cases h
    refine ⟨by simp, rfl, fun j => ?_, fun j w e => absurd e (by omega)⟩
    match j with
    | 0 => rfl
    | 1 => rfl
    | j + 2 => simp [lget]
  | a :: l, n + 1, v, l', h => by
    rw [show lst2 (a :: l) (n + 1) v = if n = 0 ∧ lc2 a = true then none else (lst2 l n v).map (fun l' => a :: l') by cases l <;> rfl] at h
    by_cases hc : n = 0 ∧ lc2 a = true
    · simp [hc] at h
    · rw [if_neg hc] at h
      cases hl : lst2 l n v with
      | none => rw [hl] at h; cases h
      | some l2 =>
        rw [hl] at h
        cases h
        obtain ⟨h1, h2, h3, h4⟩ := lst2_spec hl
        refine ⟨by simpa using h1, by simp [h2], fun j => ?_, fun j w e hj => ?_⟩
        · cases j with
          | zero => simp [lget]
          | succ j => simp [lget, h3 j]
        · cases j with
          | zero =>
            have h0 : n = 0 := by omega
            intro hw
            refine hc ⟨h0, ?_⟩
            have : a = some w := hj
            rw [this]
            cases w <;> first | rfl | (simp [Value.category] at hw; done)
          | succ j => exact h4 j w (by omega) hj
/-- the locals behind a store -/
theorem zLR.put {ρ : Nat → Nat} {ls ls' : zL} {lsC' : Array Slot} {i : Nat} {v : Value} (hl : lst ls i v = some ls') (h : lv_has lsC' ls.length ((i, vmap ρ v) :: (zas ρ ls).filter (fun q => !(q.1 == i) && !(q.1 + 1 == i && q.2.category == 2)))) : zLR ρ ls' lsC' := by
  obtain ⟨h1, h2, h3, h4⟩ := lst_spec hl
  refine ⟨h.1.trans h2.symm, h.2.1, fun j w hj => ?_⟩
  rw [h3 j] at hj
  by_cases e : j = i
  · rw [if_pos e] at hj
    cases hj
    exact h.2.2 (j, vmap ρ v) (by rw [e]; exact List.mem_cons_self)
  · rw [if_neg e] at hj
    refine h.2.2 (j, vmap ρ w) (List.mem_cons_of_mem _ (List.mem_filter.mpr ⟨mem_zas hj, ?_⟩))
    by_cases e2 : j + 1 = i
    · have := h4 j w e2 hj
      simp [e, vmap_cat, this]
    · simp [e, e2]
theorem zLR.put2 {ρ : Nat → Nat} {ls ls' : zL} {lsC' : Array Slot} {i : Nat} {v : Value} (hl : lst2 ls i v = some ls') (h : lv_has lsC' ls.length ((i, vmap ρ v) :: (zas ρ ls).filter (fun q => !(q.1 == i) && (!(q.1 == i + 1) && !(q.1 + 1 == i && q.2.category == 2))))) : zLR ρ ls' lsC' := by
  obtain ⟨h1, h2, h3, h4⟩ := lst2_spec hl
  refine ⟨h.1.trans h2.symm, h.2.1, fun j w hj => ?_⟩
  rw [h3 j] at hj
  by_cases e : j = i
  · rw [if_pos e] at hj
    cases hj
    exact h.2.2 (j, vmap ρ v) (by rw [e]; exact List.mem_cons_self)
  · rw [if_neg e] at hj
    by_cases e1 : j = i + 1
    · rw [if_pos e1] at hj
      cases hj
    · rw [if_neg e1] at hj
      refine h.2.2 (j, vmap ρ w) (List.mem_cons_of_mem _ (List.mem_filter.mpr ⟨mem_zas hj, ?_⟩))
      by_cases e2 : j + 1 = i
      · have := h4 j w e2 hj
        simp [e, e1, vmap_cat, this]
      · simp [e, e1, e2]
theorem lc2_cat {v : Value} (h : ¬ lc2 (some v) = true) : v.category ≠ 2 := by
  intro hw
  refine h ?_
  cases v <;> first | rfl | (simp [Value.category] at hw; done)
theorem lclr_get : ∀ {ls : zL} {i j : Nat} {v : Value}, lget (lclr ls i) j = some v → lget ls j = some v ∧ j ≠ i ∧ (j + 1 = i → v.category ≠ 2)
  | [], _, _, _, h => by cases h
  | _ :: _, 0, 0, _, h => by cases h
  | _ :: _, 0, j + 1, _, h => ⟨h, by omega, by omega⟩
  | a :: _, i + 1, 0, v, h => by
    have h' : (if i = 0 ∧ lc2 a = true then none else a) = some v := h
    by_cases hc : i = 0 ∧ lc2 a = true
    · rw [if_pos hc] at h'
      cases h'
    · rw [if_neg hc] at h'
      subst h'
      exact ⟨rfl, by omega, fun e => lc2_cat fun hl => hc ⟨by omega, hl⟩⟩
  | _ :: l, i + 1, j + 1, v, h => by
    obtain ⟨h1, h2, h3⟩ := lclr_get (ls := l) (i := i) (j := j) h
    exact ⟨h1, by omega, fun e => h3 (by omega)⟩
theorem lclr_len : ∀ (ls : zL) (i : Nat), (lclr ls i).length = ls.length
  | [], _ => rfl
  | _ :: _, 0 => rfl
  | _ :: l, i + 1 => by simp [lclr, lclr_len l i]
theorem zLR.ext {n : Nat} {ρ ρ' : Nat → Nat} {ls : zL} {lsC : Array Slot} (h : zLR ρ ls lsC) (he : Ext n ρ ρ') (hk : zLOK n ls) : zLR ρ' ls lsC := ⟨h.1, h.2.1, fun i v hi => by rw [vmap_ext he (hk i v hi)]; exact h.2.2 i v hi⟩
theorem zst_ext {n : Nat} {ρ ρ' : Nat → Nat} {st : zS} (he : Ext n ρ ρ') (hk : zSOK n st) : st.map (vmap ρ') = st.map (vmap ρ) := List.map_congr_left fun v hv => vmap_ext he (hk v hv)

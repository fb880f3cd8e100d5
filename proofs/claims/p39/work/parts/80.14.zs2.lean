/-! the steps that read and write cells -/
theorem zws_len {ρ : Nat → Nat} {cs : Nat → ClassId} {h : zH} : (zws ρ cs h).length = zn h - 3 := by simp [zws]
theorem zws_set {ρ : Nat → Nat} {cs : Nat → ClassId} {h h' : zH} {a : Nat} (h3 : 3 ≤ a) (hz : zn h' = zn h) (hc : ∀ b, b ≠ a → zcell ρ cs h' b = zcell ρ cs h b) : (zws ρ cs h).set (a - 3) (ρ a, zcell ρ cs h' a) = zws ρ cs h' := by
  refine List.ext_getElem? fun i => ?_
  rw [List.getElem?_set]
  by_cases e : a - 3 = i
  · subst e
    simp only [if_true, zws_len]
    by_cases hl : a - 3 < zn h - 3
    · rw [if_pos hl, zws_get h3 (by omega)]
    · rw [if_neg hl, List.getElem?_eq_none (by rw [zws_len]; omega)]
  · rw [if_neg e]
    by_cases hl : i < zn h - 3
    · have h1 := zws_get (ρ := ρ) (cs := cs) (h := h) (a := i + 3) (by omega) (by omega)
      have h2 := zws_get (ρ := ρ) (cs := cs) (h := h') (a := i + 3) (by omega) (by omega)
      rw [Nat.add_sub_cancel] at h1 h2
      rw [h1, h2, hc (i + 3) (by omega)]
    · rw [List.getElem?_eq_none (by rw [zws_len]; omega), List.getElem?_eq_none (by rw [zws_len]; omega)]
theorem zcell_put {ρ : Nat → Nat} {cs : Nat → ClassId} {h : zH} {a i b : Nat} {v : Value} (hb : b ≠ a) : zcell ρ cs (zput h a i v) b = zcell ρ cs h b := by
  have e : ∀ j, zm (zput h a i v) b j = zm h b j := fun j => zm_put_a hb
  unfold zcell zfs zct
  simp only [zk_put, zl_put, e]
theorem zcell_obj {ρ : Nat → Nat} {cs : Nat → ClassId} {h : zH} {a ci : Nat} (hk : zk h a = ci) (hc : ci < 20) : zcell ρ cs h a = .inr (ci, zfs ρ h a) := by
  unfold zcell
  rw [hk, if_pos hc]
theorem zfs_get {ρ : Nat → Nat} {h : zH} {a j : Nat} (hj : j < zN (zk h a)) : (zfs ρ h a)[j]? = some (vmap ρ (zm h a j)) := by
  unfold zfs
  rw [List.getElem?_map, List.getElem?_range hj]
  rfl
theorem zfs_put {ρ : Nat → Nat} {h : zH} {a j : Nat} {v : Value} : (zfs ρ h a).set j (vmap ρ v) = zfs ρ (zput h a j v) a := by
  refine List.ext_getElem? fun i => ?_
  rw [List.getElem?_set]
  unfold zfs
  simp only [zk_put, List.getElem?_map, List.length_map, List.length_range]
  by_cases e : j = i
  · subst e
    by_cases hl : j < zN (zk h a)
    · simp [hl, zm_put_s]
    · simp [hl, List.getElem?_eq_none]
  · by_cases hl : i < zN (zk h a)
    · simp [e, List.getElem?_range hl, zm_put_i (Ne.symm e)]
    · simp [e, List.getElem?_eq_none, hl]
theorem zN_q {ci : Nat} (h : zcl[ci]? = some (zFq ci)) : zN ci = (zFq ci).2.2 := by
  unfold zN
  rw [List.getD_eq_getElem?_getD, List.getElem?_map, h]
  rfl
theorem zcl_lt {ci : Nat} {q : vw_C} (h : zcl[ci]? = some q) : ci < 8 := (List.getElem?_eq_some_iff.mp h).1
theorem zuws0 : ∀ q ∈ zcl, ∀ w ∈ u_ws q.1 q.2.1 q.2.2, w ∈ zW := by
  intro q hq w hw
  refine List.mem_filter.mpr ⟨?_, ?_⟩
  · simp only [zcl, List.mem_cons, List.not_mem_nil, or_false] at hq
    rcases hq with rfl | rfl | rfl | rfl | rfl | rfl | rfl | rfl
    · exact inX0 w hw
    · exact inX1 w hw
    · exact inX2 w hw
    · exact inX3 w hw
    · exact inX4 w hw
    · exact inX5 w hw
    · exact absurd hw List.not_mem_nil
    · exact inJx4a65c w hw
  · obtain ⟨k, -, rfl⟩ := List.mem_map.mp hw
    unfold u_lay
    split <;> rfl
theorem zuws {ci : Nat} {q : vw_C} (h : zcl[ci]? = some q) : ∀ w ∈ u_ws q.1 q.2.1 q.2.2, w ∈ zW := zuws0 q (List.mem_of_getElem? h)
def ztag (t : FieldType) : Nat := match t with
  | .int => 0
  | .boolean => 1
  | .byte => 2
  | .char => 3
  | .long => 4
  | .float => 5
  | .double => 6
  | .object _ => 7
  | .array _ => 7
  | .short => 8
theorem zfit_ok {ρ : Nat → Nat} {ty : FieldType} {v : Value} (h : zfit (ztag ty) v = true) : narrow ty (vmap ρ v) = vmap ρ v ∧ fits ty (vmap ρ v) = true := by
  cases ty <;> cases v <;> simp only [zfit, ztag] at h <;> first
    | exact ⟨rfl, rfl⟩
    | (exfalso; revert h; decide)
    | skip
  case byte.int x =>
    simp at h
    have e : x.toInt8.toInt32 = x := by
      apply Int32.toInt_inj.mp
      rw [Int8.toInt_toInt32, Int32.toInt_toInt8]
      exact Int.bmod_eq_of_le (by simp; omega) (by simp; omega)
    refine ⟨congrArg Value.int e, ?_⟩
    simp only [vmap, fits, Bool.and_eq_true, decide_eq_true_eq, Int32.le_iff_toInt_le]
    exact ⟨by rw [show (-128 : Int32).toInt = -128 by decide]; exact h.1, by rw [show (127 : Int32).toInt = 127 by decide]; exact h.2⟩
  case char.int x =>
    simp at h
    have e : x = nI x.toInt.toNat := by
      apply Int32.toInt_inj.mp
      rw [nI_toInt (by omega)]
      omega
    rw [show vmap ρ (Value.int x) = Value.int x from rfl, e]
    exact pk_charN (by omega)
  case boolean.int x =>
    simp at h
    rcases h with rfl | rfl
    · exact ⟨rfl, rfl⟩
    · exact ⟨rfl, rfl⟩
  all_goals (simp at h)
/-- a fresh cell: its place is put behind the others -/
theorem zcell_ext {ρ ρ' : Nat → Nat} {cs : Nat → ClassId} {n : Nat} {h h' : zH} {a : Nat} (he : Ext n ρ ρ') (hok : ∀ i, VOK n (zm h a i)) (hk : zk h' a = zk h a) (hl : zl h' a = zl h a) (hm : ∀ i, zm h' a i = zm h a i) : zcell ρ' cs h' a = zcell ρ cs h a := by
  unfold zcell zfs zct
  simp only [hk, hl, hm, vmap_ext he (hok _), vR_ext he (hok _)]
theorem zws_push {ρ ρ' : Nat → Nat} {cs : Nat → ClassId} {h h' : zH} (h3 : 3 ≤ zn h) (hz : zn h' = zn h + 1) (he : Ext (zn h) ρ ρ') (hok : ∀ a i, VOK (zn h) (zm h a i)) (hk : ∀ a, a < zn h → zk h' a = zk h a ∧ zl h' a = zl h a ∧ ∀ i, zm h' a i = zm h a i) : zws ρ' cs h' = zws ρ cs h ++ [(ρ' (zn h), zcell ρ' cs h' (zn h))] := by
  unfold zws
  rw [hz, show zn h + 1 - 3 = (zn h - 3) + 1 by omega, List.range_succ, List.map_append]
  congr 1
  · refine List.map_congr_left fun i hi => ?_
    have hi' := List.mem_range.mp hi
    obtain ⟨h1, h2, h4⟩ := hk (i + 3) (by omega)
    rw [zcell_ext he (hok _) h1 h2 h4, he (i + 3) (by omega)]
  · simp only [List.map_cons, List.map_nil]
    rw [show zn h - 3 + 3 = zn h by omega]
/-- rows of one kind behind the others -/
theorem zws_pushes {ρ ρ' : Nat → Nat} {cs : Nat → ClassId} {h h' : zH} {n : Nat} {ce : va_E} (h3 : 3 ≤ zn h) (hz : zn h' = zn h + n) (he : Ext (zn h) ρ ρ') (hok : ∀ a i, VOK (zn h) (zm h a i)) (hk : ∀ a, a < zn h → zk h' a = zk h a ∧ zl h' a = zl h a ∧ ∀ i, zm h' a i = zm h a i) (hc : ∀ i, i < n → zcell ρ' cs h' (zn h + i) = ce) : zws ρ' cs h' = zws ρ cs h ++ (List.range n).map (fun i => (ρ' (zn h + i), ce)) := by
  refine List.ext_getElem? fun i => ?_
  by_cases hi : i < zn h - 3
  · rw [List.getElem?_append_left (by rw [zws_len]; exact hi)]
    have h1 := zws_get (ρ := ρ) (cs := cs) (h := h) (a := i + 3) (by omega) (by omega)
    have h2 := zws_get (ρ := ρ') (cs := cs) (h := h') (a := i + 3) (by omega) (by omega)
    rw [Nat.add_sub_cancel] at h1 h2
    obtain ⟨k1, k2, k4⟩ := hk (i + 3) (by omega)
    rw [h1, h2, zcell_ext he (hok _) k1 k2 k4, he (i + 3) (by omega)]
  · rw [List.getElem?_append_right (by rw [zws_len]; omega), zws_len, List.getElem?_map]
    by_cases hl : i < zn h' - 3
    · have h2 := zws_get (ρ := ρ') (cs := cs) (h := h') (a := i + 3) (by omega) (by omega)
      rw [Nat.add_sub_cancel] at h2
      rw [h2, List.getElem?_range (by omega)]
      simp only [Option.map_some]
      have := hc (i - (zn h - 3)) (by omega)
      rw [show zn h + (i - (zn h - 3)) = i + 3 by omega] at this
      rw [this, show zn h + (i - (zn h - 3)) = i + 3 by omega]
    · rw [List.getElem?_eq_none (by rw [zws_len]; omega), List.getElem?_eq_none (by simp; omega)]
      rfl
theorem ztys_get {cs : Nat → ClassId} {j : Nat} (hj : j < 9) : (ztys cs)[j]? = some (cs j, zT.getD j .int) := by
  unfold ztys
  rw [List.getElem?_map, List.getElem?_range hj]
  rfl
/-- an array's class is the one of its type -/
theorem zRA_inj {s : State} {a b : ClassId} {ty : FieldType} (h1 : va_RA s a ty) (h2 : va_RA s b ty) : a = b := by
  cases ty with
  | object C =>
    obtain ⟨_, _, _, _, _, h4⟩ := h1
    obtain ⟨_, _, _, _, _, h5⟩ := h2
    exact Option.some.inj (h4.symm.trans h5)
  | _ => exact Option.some.inj (h1.symm.trans h2)
theorem ztys_new {D : va_G} {cs : Nat → ClassId} {s : State} {cA : ClassId} {ty : FieldType} {j : Nat} (hj : j < 9) (ht : zT.getD j .int = ty) (hK : va_K D zcl (ztys cs ++ [(cA, ty)]) s) : cA = cs j := by
  have h1 := (hK.2 j (cs j, zT.getD j .int) (by rw [List.getElem?_append_left (by simp [ztys]; exact hj)]; exact ztys_get hj)).2
  have h2 := (hK.2 9 (cA, ty) (by rw [List.getElem?_append_right (by simp [ztys])]; simp [ztys])).2
  exact zRA_inj h2 (ht ▸ h1)
/-- a class's fields: their types, by number and as the tables have them; their names differ -/
theorem zFty {ci : Nat} (h : zcl[ci]? = some (zFq ci)) : ∃ ty : Nat → FieldType, (∀ k, k < (zFq ci).2.2 → parseFieldDescriptor ((zFq ci).2.1 k).2.2.1 = some (ty k)) ∧ (∀ a, a < (zFq ci).2.2 → ∀ b, b < (zFq ci).2.2 → a ≠ b → ((zFq ci).2.1 a).2.1 ≠ ((zFq ci).2.1 b).2.1) ∧ ∀ k, k < (zFq ci).2.2 → ztag (ty k) = zty ci k := by
  match ci, h with
  | 0, _ => exact ⟨tyX0, tyX0_ok, nmX0, by decide +kernel⟩
  | 1, _ => exact ⟨tyX1, tyX1_ok, nmX1, by decide +kernel⟩
  | 2, _ => exact ⟨tyX2, tyX2_ok, nmX2, by decide +kernel⟩
  | 3, _ => exact ⟨tyX3, tyX3_ok, nmX3, by decide +kernel⟩
  | 4, _ => exact ⟨tyX4, tyX4_ok, nmX4, by decide +kernel⟩
  | 5, _ => exact ⟨tyX5, tyX5_ok, nmX5, by decide +kernel⟩
  | 6, _ => exact ⟨tyX0, fun k hk => absurd hk (Nat.not_lt_zero k), fun a ha => absurd ha (Nat.not_lt_zero a), fun k hk => absurd hk (Nat.not_lt_zero k)⟩
  | 7, _ => exact ⟨tyJx4a65c, tyJx4a65c_ok, nmJx4a65c, by decide +kernel⟩
  | ci + 8, h => exact absurd (zcl_lt h) (by omega)

/-! static methods that are rows of the kit; Object's own constructor; getClass -/
theorem zw_maxS : (Cond.static Lib.Math.max.name : Jvm.Cond) ∈ zW := zW_in 542 (by decide +kernel) (by decide +kernel)
theorem zw_minS : (Cond.static Lib.Math.min.name : Jvm.Cond) ∈ zW := zW_in 251 (by decide +kernel) (by decide +kernel)
theorem zw_absS : (Cond.static Lib.Math.abs.name : Jvm.Cond) ∈ zW := zW_in 978 (by decide +kernel) (by decide +kernel)
theorem zw_mathI : (Cond.initialized "java/lang/Math" : Jvm.Cond) ∈ zW := zW_in 49 (by decide +kernel) (by decide +kernel)
theorem zw_sysI : (Cond.initialized "java/lang/System" : Jvm.Cond) ∈ zW := zW_in 52 (by decide +kernel) (by decide +kernel)
theorem zw_maxC : (Cond.code Lib.Math.max.name Lib.Math.max.code 2 (some .int) : Jvm.Cond) ∈ zW := zW_in 543 (by decide +kernel) (by decide +kernel)
theorem zw_minC : (Cond.code Lib.Math.min.name Lib.Math.min.code 2 (some .int) : Jvm.Cond) ∈ zW := zW_in 252 (by decide +kernel) (by decide +kernel)
theorem zw_absC : (Cond.code Lib.Math.abs.name Lib.Math.abs.code 1 (some .int) : Jvm.Cond) ∈ zW := zW_in 979 (by decide +kernel) (by decide +kernel)
theorem zw_acN : (Cond.native arraycopyName : Jvm.Cond) ∈ zW := zW_in 578 (by decide +kernel) (by decide +kernel)
theorem zw_acS : (Cond.static arraycopyName : Jvm.Cond) ∈ zW := zW_in 577 (by decide +kernel) (by decide +kernel)
theorem zw_oiI : (Cond.instanceMethod Lib.objectInit : Jvm.Cond) ∈ zW := zW_in 73 (by decide +kernel) (by decide +kernel)
theorem zw_oiC : (Cond.code Lib.objectInit ⟨#[0xb1]⟩ 1 none : Jvm.Cond) ∈ zW := zW_in 74 (by decide +kernel) (by decide +kernel)
theorem zw_gcI : (Cond.instanceMethod ⟨"java/lang/Object", "getClass", "()Ljava/lang/Class;"⟩ : Jvm.Cond) ∈ zW := zW_in 552 (by decide +kernel) (by decide +kernel)
theorem zw_gcN : (Cond.native ⟨"java/lang/Object", "getClass", "()Ljava/lang/Class;"⟩ : Jvm.Cond) ∈ zW := zW_in 568 (by decide +kernel) (by decide +kernel)
theorem zw_gcS : (Cond.selects "[Ljava/lang/Object;" ⟨"java/lang/Object", "getClass", "()Ljava/lang/Class;"⟩ ⟨"java/lang/Object", "getClass", "()Ljava/lang/Class;"⟩ : Jvm.Cond) ∈ zW := zW_in 1339 (by decide +kernel) (by decide +kernel)
section ZZ
variable {p : Program} {l : Launch} {e : Env} {R : Room} {s : State} {m : MethodId} {args : Array Value} {below : List Frame} {meth : Method} {c : Code} {Q : State → Prop}
variable {k pc nx tg : Nat} {aux : List Nat} {D : va_G} {cs : Nat → ClassId} {A : Nat → Prop} {b e1 mi L : Nat} {xs : Nat → Int32} {ρ : Nat → Nat} {ls : zL} {st : zS} {h : zH} {lsC : Array Slot} {H : Heap} {locs : List Loc} {cells slots : Nat}
theorem zcat : ((st.map (vmap ρ)).map fun v => v.category) = st.map fun v => v.category := by
  rw [List.map_map]
  exact List.map_congr_left fun v _ => vmap_cat ρ v
theorem zmin_eq (x y : Int32) : (if y < x then y else x) = (if x.toInt < y.toInt then x else y) := by
  by_cases h1 : x.toInt < y.toInt
  · rw [if_pos h1, if_neg (by rw [zi_lt]; omega)]
  · by_cases h2 : y.toInt < x.toInt
    · rw [if_neg h1, if_pos ((zi_lt _ _).mpr h2)]
    · have : x = y := Int32.toInt_inj.mp (by omega)
      subst this
      simp
theorem zR8 (C : zCtx k D cs A b e1 mi L xs p R s m args meth c) : 8 ≤ R.frames ∧ 128 ≤ R.locals := ⟨C.2.2.2.2.2.2.2.2.2.2.2.2.2.2.2.2.2.2.2.2.1, C.2.2.2.2.2.2.2.2.2.2.2.2.2.2.2.2.2.2.2.2.2⟩
theorem zs_max {i : Nat} {x y : Int32} (C : zCtx k D cs A b e1 mi L xs p R s m args meth c) (hL : zLR ρ ls lsC) (hml : c.maxLocals = ls.length) (hR : zHR D cs A ρ h H) (hS : va_S A s.heap H locs) (hlen : (st.map fun v => v.category).sum ≤ 8) (hcs : cells ≤ R.cells ∧ slots ≤ R.slots) (hw : zSw (zY k).cls i 1 ∈ zW) (hd : decode (zB k) pc = .ok (.invokestatic i, 3)) (kk : zKg p l e R s m args below meth c Q D cs A ρ h cells slots (pc + 3, ls, .int (if x.toInt < y.toInt then y else x) :: st, h)) : zWg p l e R s m args below meth c Q ρ pc lsC (.int y :: .int x :: st) H locs cells slots := by
  have k0 := zKg.same kk rfl hR hS lsC hL
  have h8 := zR8 C
  refine va_mmax C.1 C.2.1 (hml.trans hL.1.symm) C.2.2.1 (C.word hw) (C.word zw_maxS) (C.word zw_mathI) (C.word zw_maxC) (by omega) (by rw [zcat]; omega) hcs.1 hcs.2 hd ?_
  simp only [zi_lt]
  exact k0
theorem zs_min {i : Nat} {x y : Int32} (C : zCtx k D cs A b e1 mi L xs p R s m args meth c) (hL : zLR ρ ls lsC) (hml : c.maxLocals = ls.length) (hR : zHR D cs A ρ h H) (hS : va_S A s.heap H locs) (hlen : (st.map fun v => v.category).sum ≤ 8) (hcs : cells ≤ R.cells ∧ slots ≤ R.slots) (hw : zSw (zY k).cls i 2 ∈ zW) (hd : decode (zB k) pc = .ok (.invokestatic i, 3)) (kk : zKg p l e R s m args below meth c Q D cs A ρ h cells slots (pc + 3, ls, .int (if x.toInt < y.toInt then x else y) :: st, h)) : zWg p l e R s m args below meth c Q ρ pc lsC (.int y :: .int x :: st) H locs cells slots := by
  have k0 := zKg.same kk rfl hR hS lsC hL
  have h8 := zR8 C
  refine va_mmin C.1 C.2.1 (hml.trans hL.1.symm) C.2.2.1 (C.word hw) (C.word zw_minS) (C.word zw_mathI) (C.word zw_minC) (by omega) (by rw [zcat]; omega) hcs.1 hcs.2 hd ?_
  rw [zmin_eq]
  exact k0
theorem zs_abs {i : Nat} {x y : Int32} (C : zCtx k D cs A b e1 mi L xs p R s m args meth c) (hL : zLR ρ ls lsC) (hml : c.maxLocals = ls.length) (hR : zHR D cs A ρ h H) (hS : va_S A s.heap H locs) (hlen : (st.map fun v => v.category).sum ≤ 8) (hcs : cells ≤ R.cells ∧ slots ≤ R.slots) (hw : zSw (zY k).cls i 3 ∈ zW) (hd : decode (zB k) pc = .ok (.invokestatic i, 3)) (kk : zKg p l e R s m args below meth c Q D cs A ρ h cells slots (pc + 3, ls, .int (if x.toInt < 0 then 0 - x else x) :: st, h)) : zWg p l e R s m args below meth c Q ρ pc lsC (.int x :: st) H locs cells slots := by
  have k0 := zKg.same kk rfl hR hS lsC hL
  have h8 := zR8 C
  refine va_mabs C.1 C.2.1 (hml.trans hL.1.symm) C.2.2.1 (C.word hw) (C.word zw_absS) (C.word zw_mathI) (C.word zw_absC) (by omega) (by rw [zcat]; omega) hcs.1 hcs.2 hd ?_
  rw [show (if 0 ≤ x then x else 0 - x) = (if x.toInt < 0 then 0 - x else x) by by_cases hx : x.toInt < 0 <;> simp [hx, zi_le, zi_0, Int.not_le.mpr, Int.not_lt.mp]]
  exact k0
theorem zs_objInit {i a : Nat} (C : zCtx k D cs A b e1 mi L xs p R s m args meth c) (hL : zLR ρ ls lsC) (hml : c.maxLocals = ls.length) (hR : zHR D cs A ρ h H) (hS : va_S A s.heap H locs) (hlen : (st.map fun v => v.category).sum ≤ 8) (hcs : cells ≤ R.cells ∧ slots ≤ R.slots) (hw : zSw (zY k).cls i 0 ∈ zW) (hd : decode (zB k) pc = .ok (.invokespecial i, 3)) (kk : zKg p l e R s m args below meth c Q D cs A ρ h cells slots (pc + 3, ls, st, h)) : zWg p l e R s m args below meth c Q ρ pc lsC (.ref a :: st) H locs cells slots := by
  have k0 := zKg.same kk rfl hR hS lsC hL
  have h8 := zR8 C
  refine W.objInit C.1 C.2.1 C.2.2.1 (C.word hw) (C.word zw_oiI) (C.word zw_oiC) rfl (hL.1.trans hml.symm) rfl hd (by omega) ?_ k0
  show 2 * 0 + ((st.map (vmap ρ)).map fun v => v.category).sum + 12 ≤ R.locals
  rw [zcat]
  omega
theorem zs_getClass {i a : Nat} (C : zCtx k D cs A b e1 mi L xs p R s m args meth c) (hL : zLR ρ ls lsC) (hml : c.maxLocals = ls.length) (hR : zHR D cs A ρ h H) (hS : va_S A s.heap H locs) (hlen : (st.map fun v => v.category).sum ≤ 8) (hcs : cells ≤ R.cells ∧ slots ≤ R.slots) (hI : ZI L xs h) (hρ : ρ 0 = b ∧ ρ 1 = e1 ∧ ρ 2 = mi) (hk : zk h a = 26) (hw : zSw (zY k).cls i 7 ∈ zW) (hd : decode (zB k) pc = .ok (.invokevirtual i, 3)) (kk : zKg p l e R s m args below meth c Q D cs A ρ h cells slots (pc + 3, ls, .ref 2 :: st, h)) : zWg p l e R s m args below meth c Q ρ pc lsC (.ref a :: st) H locs cells slots := by
  have k0 := zKg.same kk rfl hR hS lsC hL
  have h8 := zR8 C
  obtain ⟨h3, hn⟩ := hI.at (a := a) (by omega)
  have hg := zws_get (ρ := ρ) (cs := cs) h3 hn
  rw [zcell_arr hk (by omega)] at hg
  have hcell := hR.1 _ _ hg
  have hRA := ((C.2.2.2.2.2.1).2 6 _ (ztys_get (by omega))).2
  refine va_getC (C := "[Ljava/lang/Object;") C.1 C.2.1 (hml.trans hL.1.symm) C.2.2.1 (C.word hw) (va_Dc.use C.2.2.2.2.2.2.2.2.2.2.2.2.2.2.1) (C.word zw_gcS) (C.word zw_gcI) (C.word zw_gcN) C.2.2.2.2.2.2.2.2.2.2.2.2.2.1 ⟨_, hcell, ?_, ?_⟩ (by omega) (by rw [zcat]; omega) hd ?_
  · unfold vp_cell
    split <;> rfl
  · have := va_nmO hRA (nm := "[Ljava/lang/Object;") (by decide)
    rw [this]
    unfold vp_cell
    split <;> rfl
  · rw [← hρ.2.2]
    exact k0
theorem zcell_fil {a q : Nat} {f : Nat → Value} (hq : q ≠ a) : zcell ρ cs (zfil h a f) q = zcell ρ cs h q := by
  have e : ∀ j, zm (zfil h a f) q j = zm h q j := fun j => if_neg hq
  have e1 : zk (zfil h a f) q = zk h q := rfl
  have e2 : zl (zfil h a f) q = zl h q := rfl
  unfold zcell zfs zct
  simp only [e1, e2, e]
theorem zs_arraycopy {i a a' : Nat} {n dp sp : Int32} (C : zCtx k D cs A b e1 mi L xs p R s m args meth c) (hI : ZI L xs h) (hok : ∀ a, zk h a < 20 → zcl[zk h a]? = some (zFq (zk h a))) (hL : zLR ρ ls lsC) (hml : c.maxLocals = ls.length) (hR : zHR D cs A ρ h H) (hS : va_S A s.heap H locs) (hlen : (st.map fun v => v.category).sum ≤ 8) (hw : zSw (zY k).cls i 4 ∈ zW) (hd : decode (zB k) pc = .ok (.invokestatic i, 3))
    (hk : zk h a = 26 ∧ zk h a' = 26) (h1 : 0 ≤ sp.toInt) (h2 : 0 ≤ dp.toInt) (h3 : 0 ≤ n.toInt) (h4 : sp.toInt + n.toInt ≤ zl h a) (h5 : dp.toInt + n.toInt ≤ zl h a') (h6 : (List.range n.toInt.toNat).all (fun i => zobj h (zm h a (sp.toInt.toNat + i))) = true)
    (kk : zKg p l e R s m args below meth c Q D cs A ρ h cells slots (pc + 3, ls, st, zfil h a' (fun j => if dp.toInt.toNat ≤ j ∧ j < dp.toInt.toNat + n.toInt.toNat then zm h a (sp.toInt.toNat + (j - dp.toInt.toNat)) else zm h a' j))) : zWg p l e R s m args below meth c Q ρ pc lsC (.int n :: .int dp :: .ref a' :: .int sp :: .ref a :: st) H locs cells slots := by
  have h8 := zR8 C
  obtain ⟨q3, qn⟩ := hI.at (a := a) (by omega)
  obtain ⟨r3, rn⟩ := hI.at (a := a') (by omega)
  have hg := zws_get (ρ := ρ) (cs := cs) q3 qn
  have hg' := zws_get (ρ := ρ) (cs := cs) r3 rn
  rw [zcell_arr hk.1 (by omega), zct_r hk.1 (by omega)] at hg
  rw [zcell_arr hk.2 (by omega), zct_r hk.2 (by omega)] at hg'
  have hnw : nativeFrameWords "java/lang/System" "arraycopy" 5 + 11 ≤ 100 := by decide
  refine va_copyM (D := D) (cl := zcl) (tys := ztys cs) (E0 := "java/lang/Object") (E1 := "java/lang/Object") C.1 C.2.1 (hml.trans hL.1.symm) C.2.2.1 (C.word hw) (C.word zw_acN) (C.word zw_acS) (C.word zw_sysI) C.2.2.2.2.2.1 hR.1 hR.2 hS (a - 3) (a' - 3) 6 6 hg hg' (ztys_get (by omega)) (ztys_get (by omega)) (by rw [zi_lt, zi_0]; omega) (by rw [zi_lt, zi_0]; omega) (by rw [zi_lt, zi_0]; omega) ?_ ?_ (fun j hj y hy => ?_) (by omega) (by rw [zcat]; omega) hd (fun H1 locs1 hP hD hS1 => ?_)
  · show sp.toInt.toNat + n.toInt.toNat ≤ _
    omega
  · show dp.toInt.toNat + n.toInt.toNat ≤ _
    omega
  · have hz := List.all_eq_true.mp h6 j (List.mem_range.mpr hj)
    have hy : vR ρ (zm h a (sp.toInt.toNat + j)) = some y := hy
    cases hv : zm h a (sp.toInt.toNat + j) with
    | ref v =>
      rw [hv] at hz hy
      simp only [zobj, decide_eq_true_eq] at hz
      simp only [vR, Option.some.injEq] at hy
      rw [← hy]
      exact zany C hI hR hok hz
    | _ => rw [hv] at hy; cases hy
  · generalize hh' : zfil h a' _ = h' at kk
    have e0 : zn h' = zn h := by rw [← hh']; rfl
    have hw1 := zws_set (ρ := ρ) (cs := cs) (h := h) (h' := h') r3 e0 (fun q hq => by rw [← hh']; exact zcell_fil hq)
    have hc : zcell ρ cs h' a' = .inl (cs (26 - 20), zl h a', .inr (.inr (.inr (.inr (va_cpy (fun i => vR ρ (zm h a i)) (fun i => vR ρ (zm h a' i)) sp.toNatClampNeg dp.toNatClampNeg n.toNatClampNeg))))) := by
      have k1 : zk h' a' = 26 := by rw [← hh']; exact hk.2
      rw [zcell_arr k1 (by omega), zct_r k1 (by omega)]
      have k2 : zl h' a' = zl h a' := by rw [← hh']; rfl
      rw [k2]
      refine congrArg (fun f => Sum.inl (cs (26 - 20), zl h a', Sum.inr (Sum.inr (Sum.inr (Sum.inr f))))) (funext fun j => ?_)
      have k3 : zm h' a' j = if dp.toInt.toNat ≤ j ∧ j < dp.toInt.toNat + n.toInt.toNat then zm h a (sp.toInt.toNat + (j - dp.toInt.toNat)) else zm h a' j := by
        rw [← hh']
        exact if_pos rfl
      rw [k3]
      show _ = if dp.toInt.toNat ≤ j ∧ j < dp.toInt.toNat + n.toInt.toNat then _ else _
      split <;> rfl
    rw [hc] at hw1
    rw [hw1] at hP hD
    have := kk ρ lsC H1 locs1 Ext.rf hL ⟨hP, hD⟩ hS1
    have u1 : zuc h' - zuc h = 0 := by rw [← hh']; exact Nat.sub_self _
    have u2 : zus h' - zus h = 0 := by rw [← hh']; exact Nat.sub_self _
    simp only [u1, u2, Nat.add_zero] at this
    exact this
end ZZ

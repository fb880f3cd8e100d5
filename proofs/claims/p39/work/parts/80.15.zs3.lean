/-! the steps that read and write cells, on the machine -/
section ZT
variable {p : Program} {l : Launch} {e : Env} {R : Room} {s : State} {m : MethodId} {args : Array Value} {below : List Frame} {meth : Method} {c : Code} {Q : State → Prop}
variable {k pc nx tg : Nat} {aux : List Nat} {D : va_G} {cs : Nat → ClassId} {A : Nat → Prop} {b e1 mi L : Nat} {xs : Nat → Int32} {ρ : Nat → Nat} {ls : zL} {st : zS} {h : zH} {lsC : Array Slot} {H : Heap} {locs : List Loc} {cells slots : Nat}
/-- going on at r, in whatever heap holds r's cells -/
abbrev zKg (p : Program) (l : Launch) (e : Env) (R : Room) (s : State) (m : MethodId) (args : Array Value) (below : List Frame) (meth : Method) (c : Code) (Q : State → Prop) (D : va_G) (cs : Nat → ClassId) (A : Nat → Prop) (ρ : Nat → Nat) (h : zH) (cells slots : Nat) (r : Nat × zL × zS × zH) : Prop := ∀ ρ' lsC' H' locs', Ext (zn h) ρ ρ' → zLR ρ' r.2.1 lsC' → zHR D cs A ρ' r.2.2.2 H' → va_S A s.heap H' locs' → W p l e R s m args below meth c H' locs' (cells + (zuc r.2.2.2 - zuc h)) (slots + (zus r.2.2.2 - zus h)) Q (F0 m r.1 lsC' (r.2.2.1.map (vmap ρ')))
/-- .. and the heap as it was -/
theorem zKg.same {r : Nat × zL × zS × zH} (kk : zKg p l e R s m args below meth c Q D cs A ρ h cells slots r) (hh : r.2.2.2 = h) (hR : zHR D cs A ρ h H) (hS : va_S A s.heap H locs) : zKo p l e R s m args below meth c Q ρ H locs cells slots r := by
  intro lsC' hl
  have := kk ρ lsC' H locs Ext.rf hl (by rw [hh]; exact hR) hS
  rwa [hh, Nat.sub_self, Nat.sub_self, Nat.add_zero, Nat.add_zero] at this
theorem zCtx.word (C : zCtx k D cs A b e1 mi L xs p R s m args meth c) {w : Jvm.Cond} (h : w ∈ zW) : w.before args s = true := C.2.2.2.1 w h
theorem zsame (C : zCtx k D cs A b e1 mi L xs p R s m args meth c) {ci kf : Nat} {ref : String} (hs : ref = ((zFq ci).2.1 kf).1 ∨ (Cond.sameField ref ((zFq ci).2.1 kf).1 ((zFq ci).2.1 kf).2.1 ((zFq ci).2.1 kf).2.2.1 : Jvm.Cond) ∈ zW) : ∀ x, s.fieldFound? ((zFq ci).2.1 kf).1 ((zFq ci).2.1 kf).2.1 ((zFq ci).2.1 kf).2.2.1 = some x → s.fieldFound? ref ((zFq ci).2.1 kf).2.1 ((zFq ci).2.1 kf).2.2.1 = some x := by
  intro x hx
  rcases hs with rfl | hs
  · exact hx
  · exact u_same (C.word hs) x hx
theorem ZI.at (hI : ZI L xs h) {a : Nat} (hk : zk h a < 29) : 3 ≤ a ∧ a < zn h := ⟨(hI.2.1 a hk).1, (hI.2.1 a hk).2.1⟩
theorem zs_getfield {n ci kf a : Nat} {r : Nat × zL × zS × zH} {st : zS} (C : zCtx k D cs A b e1 mi L xs p R s m args meth c) (hI : ZI L xs h) (hF : zFOK (zY k).cls n ci kf) (hL : zLR ρ ls lsC) (hR : zHR D cs A ρ h H) (hS : va_S A s.heap H locs)
    (hd : decode (zB k) pc = .ok (.getfield n, 3)) (hk : zk h a = ci) (kk : zKg p l e R s m args below meth c Q D cs A ρ h cells slots (pc + 3, ls, zm h a kf :: st, h)) : zWg p l e R s m args below meth c Q ρ pc lsC (.ref a :: st) H locs cells slots := by
  obtain ⟨hq, hkf, ref, hlk, hsm⟩ := hF
  have hci := zcl_lt hq
  obtain ⟨h3, hn⟩ := hI.at (a := a) (by omega)
  have hg := zws_get (ρ := ρ) (cs := cs) h3 hn
  rw [zcell_obj hk (by omega)] at hg
  refine va_get (D := D) (cl := zcl) (ci := ci) (C := (zFq ci).1) (T := (zFq ci).2.1) (N := (zFq ci).2.2) C.1 C.2.1 C.2.2.2.1 (zuws hq) C.2.2.1 C.2.2.2.2.2.1 hR.1 (a - 3) hg hq kf hkf (C.word hlk) (zsame C hsm) (zfs_get (by rw [hk, zN_q hq]; exact hkf)) hd ?_
  exact zKg.same kk rfl hR hS lsC hL
theorem zHR.put {a i : Nat} {v : Value} {H' : Heap} (hI : ZI L xs h) (hk : zk h a < 29) {ce : va_E} (hce : ce = zcell ρ cs (zput h a i v) a) (h1 : va_P D zcl ((zws ρ cs h).set (a - 3) (ρ a, ce)) H') (h2 : va_D A ((zws ρ cs h).set (a - 3) (ρ a, ce))) : zHR D cs A ρ (zput h a i v) H' := by
  subst hce
  obtain ⟨h3, hn⟩ := hI.at hk
  rw [zws_set (h := h) (h' := zput h a i v) h3 rfl (fun b hb => zcell_put hb)] at h1 h2
  exact ⟨h1, h2⟩
theorem zs_putfield {n ci kf t a : Nat} {v : Value} {st : zS} (C : zCtx k D cs A b e1 mi L xs p R s m args meth c) (hI : ZI L xs h) (hF : zFOK (zY k).cls n ci kf) (ht : zty ci kf = t) (hfin : ((zFq ci).2.1 kf).2.2.2 = true → (zY k).name = "<init>" ∧ ((zFq ci).2.1 kf).1 = (zY k).cls) (hL : zLR ρ ls lsC) (hR : zHR D cs A ρ h H) (hS : va_S A s.heap H locs)
    (hd : decode (zB k) pc = .ok (.putfield n, 3)) (hk : zk h a = ci) (hv : zfit t v = true) (kk : zKg p l e R s m args below meth c Q D cs A ρ h cells slots (pc + 3, ls, st, zput h a kf v)) : zWg p l e R s m args below meth c Q ρ pc lsC (v :: .ref a :: st) H locs cells slots := by
  obtain ⟨hq, hkf, ref, hlk, hsm⟩ := hF
  have hci := zcl_lt hq
  obtain ⟨h3, hn⟩ := hI.at (a := a) (by omega)
  have hg := zws_get (ρ := ρ) (cs := cs) h3 hn
  rw [zcell_obj hk (by omega)] at hg
  obtain ⟨tyf, htyf, hnm, htg⟩ := zFty hq
  obtain ⟨f1, f2⟩ := zfit_ok (ρ := ρ) (ty := tyf kf) (by rw [htg kf hkf, ht]; exact hv)
  have hcell : (Sum.inr (ci, (zfs ρ h a).set kf (vmap ρ v)) : va_E) = zcell ρ cs (zput h a kf v) a := by
    rw [zcell_obj (h := zput h a kf v) (ci := ci) hk (by omega), zfs_put]
  have go : ∀ (H1 : Heap) (locs1 : List Loc), va_P D zcl ((zws ρ cs h).set (a - 3) (ρ a, .inr (ci, (zfs ρ h a).set kf (vmap ρ v)))) H1 → va_D A ((zws ρ cs h).set (a - 3) (ρ a, .inr (ci, (zfs ρ h a).set kf (vmap ρ v)))) → va_S A s.heap H1 locs1 → W p l e R s m args below meth c H1 locs1 cells slots Q (F0 m (pc + 3) lsC (st.map (vmap ρ))) := by
    intro H1 locs1 hP hD hS1
    have := kk ρ lsC H1 locs1 Ext.rf hL (zHR.put hI (by omega) hcell hP hD) hS1
    simpa [zuc_put, zus_put] using this
  by_cases hf : ((zFq ci).2.1 kf).2.2.2 = true
  · obtain ⟨hi1, hi2⟩ := hfin hf
    exact va_putF (D := D) (cl := zcl) (ci := ci) (C := (zFq ci).1) (T := (zFq ci).2.1) (N := (zFq ci).2.2) C.1 C.2.1 C.2.2.2.1 (zuws hq) tyf htyf hnm C.2.2.1 C.2.2.2.2.2.1 hR.1 hR.2 hS (a - 3) hg hq kf hkf (C.word hlk) (zsame C hsm) hf (C.2.2.2.2.2.2.2.2.2.2.2.2.2.2.2.2.2.2.2.1.trans hi1) hi2 (htyf kf hkf) f1 f2 (by simp [zfs, hk, zN_q hq, hkf]) hd go
  · exact va_put (D := D) (cl := zcl) (ci := ci) (C := (zFq ci).1) (T := (zFq ci).2.1) (N := (zFq ci).2.2) C.1 C.2.1 C.2.2.2.1 (zuws hq) tyf htyf hnm C.2.2.1 C.2.2.2.2.2.1 hR.1 hR.2 hS (a - 3) hg hq kf hkf (C.word hlk) (zsame C hsm) (by simpa using hf) (htyf kf hkf) f1 f2 (by simp [zfs, hk, zN_q hq, hkf]) hd go
/-- an array's cell, by its kind -/
theorem zcell_arr {a kd : Nat} (hk : zk h a = kd) (h1 : 20 ≤ kd) : zcell ρ cs h a = .inl (cs (kd - 20), zl h a, zct ρ h a) := by
  unfold zcell
  rw [hk, if_neg (by omega)]
theorem zin_at {kd a : Nat} {i : Int32} (hi : zin h kd a i) : vp_in i (zl h a) ∧ i.toNatClampNeg = i.toInt.toNat := ⟨vp_in_iff.mpr hi.2, rfl⟩
theorem zct_i {a kd : Nat} (hk : zk h a = kd) (h2 : kd < 24) : zct ρ h a = .inl (fun i => vI (zm h a i)) := by
  unfold zct
  rw [hk, if_neg (by omega), if_neg (by omega), if_neg (by omega)]
theorem zct_l {a : Nat} (hk : zk h a = 24) : zct ρ h a = .inr (.inl (fun i => vJ (zm h a i))) := by
  unfold zct
  rw [hk, if_pos rfl]
theorem zct_d {a : Nat} (hk : zk h a = 25) : zct ρ h a = .inr (.inr (.inr (.inl (fun i => vD (zm h a i))))) := by
  unfold zct
  rw [hk, if_neg (by omega), if_pos rfl]
theorem zct_r {a kd : Nat} (hk : zk h a = kd) (h2 : 26 ≤ kd) : zct ρ h a = .inr (.inr (.inr (.inr (fun i => vR ρ (zm h a i))))) := by
  unfold zct
  rw [hk, if_neg (by omega), if_neg (by omega), if_pos h2]
theorem vI_so {v : Value} (h : zso v = 0) : vmap ρ v = .int (vI v) := by cases v <;> first | rfl | (simp [zso] at h; done)
theorem vJ_so {v : Value} (h : zso v = 1) : vmap ρ v = .long (vJ v) := by cases v <;> first | rfl | (simp [zso] at h; done)
theorem vD_so {v : Value} (h : zso v = 3) : vmap ρ v = .double (vD v) := by cases v <;> first | rfl | (simp [zso] at h; done)
theorem vR_so {v : Value} (h : zso v = 4) : vmap ρ v = va_rf (vR ρ v) := by cases v <;> first | rfl | (simp [zso] at h; done)
theorem zaldq {D : va_G} {cl : List vw_C} {tys : List (ClassId × FieldType)} {ws : va_W} {cc : ByteArray} {a : Nat} {rest : List Value} {ls : Array Slot} (hexec : p.tables.exec = Jvm.exec) (hb : c.code = cc) (hK : va_K D cl tys s) (hP : va_P D cl ws H) (q0 t0 : Nat) {cA : ClassId} {ty : FieldType} {n : Nat} {f : Nat → Option Nat} (ha : ws[q0]? = some (a, .inl (cA, n, .inr (.inr (.inr (.inr f)))))) (ht : tys[t0]? = some (cA, ty)) (hty : ty.isReference = true) {i : Int32} (hin : vp_in i n) (hdg : decode cc pc = .ok (.aaload, 1))
    (kk : W p l e R s m args below meth c H locs cells slots Q (F0 m (pc + 1) ls (va_rf (f i.toNatClampNeg) :: rest))) : W p l e R s m args below meth c H locs cells slots Q (F0 m pc ls (.int i :: .ref a :: rest)) := by
  have hlt : i.toNatClampNeg < n := Nat.not_le.mp fun q => hin (Or.inr q)
  exact W.aald (v := va_rf (f i.toNatClampNeg)) (ty := ty) hexec hb (hP q0 _ ha) ((hK.2 t0 _ ht).1 n (fun j => va_rf (f j))) hty (fun q => by cases q) (by show ¬ (i < 0 ∨ (arrV _ _ _).slots.size ≤ _); rw [arrV_size]; exact hin) (by show (arrV _ _ _).slots[_]? = _; rw [arrV_read _ _ hlt]) rfl rfl hdg kk
theorem zp_ald {kd so : Nat} {r : Nat × zL × zS × zH} (hp : zald kd so nx ls st h = some r) : ∃ i a st', st = .int i :: .ref a :: st' ∧ zin h kd a i ∧ zso (zm h a i.toInt.toNat) = so ∧ r = (nx, ls, zm h a i.toInt.toNat :: st', h) := by
  unfold zald at hp
  split at hp <;> first | contradiction | skip
  split at hp <;> first | contradiction | skip
  split at hp <;> first | contradiction | skip
  rename_i h1 h2
  cases hp
  exact ⟨_, _, _, rfl, h1, h2, rfl⟩
theorem zs_iaload {r : Nat × zL × zS × zH} (C : zCtx k D cs A b e1 mi L xs p R s m args meth c) (hI : ZI L xs h) (hL : zLR ρ ls lsC) (hR : zHR D cs A ρ h H) (hS : va_S A s.heap H locs) (hd : decode (zB k) pc = .ok (.iaload, 1)) (hp : zald 20 0 (pc + 1) ls st h = some r) (kk : zKg p l e R s m args below meth c Q D cs A ρ h cells slots r) : zWg p l e R s m args below meth c Q ρ pc lsC st H locs cells slots := by
  obtain ⟨i, a, st', rfl, h1, h2, rfl⟩ := zp_ald hp
  obtain ⟨h3, hn⟩ := hI.at (a := a) (by rw [h1.1]; omega)
  have hg := zws_get (ρ := ρ) (cs := cs) h3 hn
  rw [zcell_arr h1.1 (by omega), zct_i h1.1 (by omega)] at hg
  obtain ⟨v1, v2⟩ := zin_at h1
  refine va_iald (D := D) (cl := zcl) (tys := ztys cs) C.1 C.2.1 C.2.2.2.2.2.1 hR.1 (a - 3) 0 hg (ztys_get (by omega)) v1 hd ?_
  have := zKg.same kk rfl hR hS lsC hL
  simp only [List.map_cons, vI_so h2] at this
  exact this
theorem zs_baload {r : Nat × zL × zS × zH} (C : zCtx k D cs A b e1 mi L xs p R s m args meth c) (hI : ZI L xs h) (hL : zLR ρ ls lsC) (hR : zHR D cs A ρ h H) (hS : va_S A s.heap H locs) (hd : decode (zB k) pc = .ok (.baload, 1)) (hp : zald 21 0 (pc + 1) ls st h = some r) (kk : zKg p l e R s m args below meth c Q D cs A ρ h cells slots r) : zWg p l e R s m args below meth c Q ρ pc lsC st H locs cells slots := by
  obtain ⟨i, a, st', rfl, h1, h2, rfl⟩ := zp_ald hp
  obtain ⟨h3, hn⟩ := hI.at (a := a) (by rw [h1.1]; omega)
  have hg := zws_get (ρ := ρ) (cs := cs) h3 hn
  rw [zcell_arr h1.1 (by omega), zct_i h1.1 (by omega)] at hg
  obtain ⟨v1, v2⟩ := zin_at h1
  refine va_bald (D := D) (cl := zcl) (tys := ztys cs) C.1 C.2.1 C.2.2.2.2.2.1 hR.1 (a - 3) 1 hg (ztys_get (by omega)) v1 hd ?_
  have := zKg.same kk rfl hR hS lsC hL
  simp only [List.map_cons, vI_so h2] at this
  exact this
theorem zs_aaload6 {r : Nat × zL × zS × zH} (C : zCtx k D cs A b e1 mi L xs p R s m args meth c) (hI : ZI L xs h) (hL : zLR ρ ls lsC) (hR : zHR D cs A ρ h H) (hS : va_S A s.heap H locs) (hd : decode (zB k) pc = .ok (.aaload, 1)) (hp : zald 26 4 (pc + 1) ls st h = some r) (kk : zKg p l e R s m args below meth c Q D cs A ρ h cells slots r) : zWg p l e R s m args below meth c Q ρ pc lsC st H locs cells slots := by
  obtain ⟨i, a, st', rfl, h1, h2, rfl⟩ := zp_ald hp
  obtain ⟨h3, hn⟩ := hI.at (a := a) (by rw [h1.1]; omega)
  have hg := zws_get (ρ := ρ) (cs := cs) h3 hn
  rw [zcell_arr h1.1 (by omega), zct_r h1.1 (by omega)] at hg
  obtain ⟨v1, v2⟩ := zin_at h1
  refine zaldq (D := D) (cl := zcl) (tys := ztys cs) C.1 C.2.1 C.2.2.2.2.2.1 hR.1 (a - 3) 6 hg (ztys_get (by omega)) rfl v1 hd ?_
  have := zKg.same kk rfl hR hS lsC hL
  simp only [List.map_cons, vR_so h2] at this
  exact this
theorem zs_aaload7 {r : Nat × zL × zS × zH} (C : zCtx k D cs A b e1 mi L xs p R s m args meth c) (hI : ZI L xs h) (hL : zLR ρ ls lsC) (hR : zHR D cs A ρ h H) (hS : va_S A s.heap H locs) (hd : decode (zB k) pc = .ok (.aaload, 1)) (hp : zald 27 4 (pc + 1) ls st h = some r) (kk : zKg p l e R s m args below meth c Q D cs A ρ h cells slots r) : zWg p l e R s m args below meth c Q ρ pc lsC st H locs cells slots := by
  obtain ⟨i, a, st', rfl, h1, h2, rfl⟩ := zp_ald hp
  obtain ⟨h3, hn⟩ := hI.at (a := a) (by rw [h1.1]; omega)
  have hg := zws_get (ρ := ρ) (cs := cs) h3 hn
  rw [zcell_arr h1.1 (by omega), zct_r h1.1 (by omega)] at hg
  obtain ⟨v1, v2⟩ := zin_at h1
  refine zaldq (D := D) (cl := zcl) (tys := ztys cs) C.1 C.2.1 C.2.2.2.2.2.1 hR.1 (a - 3) 7 hg (ztys_get (by omega)) rfl v1 hd ?_
  have := zKg.same kk rfl hR hS lsC hL
  simp only [List.map_cons, vR_so h2] at this
  exact this
end ZT

/-! references in arrays, lengths, casts, constants, what is made -/
section ZV
variable {p : Program} {l : Launch} {e : Env} {R : Room} {s : State} {m : MethodId} {args : Array Value} {below : List Frame} {meth : Method} {c : Code} {Q : State → Prop}
variable {k pc nx tg : Nat} {aux : List Nat} {D : va_G} {cs : Nat → ClassId} {A : Nat → Prop} {b e1 mi L : Nat} {xs : Nat → Int32} {ρ : Nat → Nat} {ls : zL} {st : zS} {h : zH} {lsC : Array Slot} {H : Heap} {locs : List Loc} {cells slots : Nat}
theorem zany (C : zCtx k D cs A b e1 mi L xs p R s m args meth c) (hI : ZI L xs h) (hR : zHR D cs A ρ h H) (hok : ∀ a, zk h a < 20 → zcl[zk h a]? = some (zFq (zk h a))) {a : Nat} (hk : zk h a < 20) : va_Any "java/lang/Object" s H (ρ a) := by
  obtain ⟨h3, hn⟩ := hI.at (a := a) (by omega)
  have hg := zws_get (ρ := ρ) (cs := cs) h3 hn
  rw [zcell_obj rfl hk] at hg
  refine va_rAny (tys := ztys cs) C.2.2.2.2.2.1 hR.1 hg (hok a hk) fun comp c0 h1 h2 => ?_
  obtain ⟨x, y, e1, e2, e3⟩ := Cond.castable_spec (C.2.2.2.2.2.2.2.2.2.2.2.2.2.2.2.2.2.2.1 _ (List.mem_of_getElem? (hok a hk)))
  rw [e1] at h2
  rw [e2] at h1
  cases h1
  cases h2
  exact e3
theorem zs_aastore {i : Int32} {a v : Nat} (C : zCtx k D cs A b e1 mi L xs p R s m args meth c) (hI : ZI L xs h) (hok : ∀ a, zk h a < 20 → zcl[zk h a]? = some (zFq (zk h a))) (hL : zLR ρ ls lsC) (hR : zHR D cs A ρ h H) (hS : va_S A s.heap H locs) (hd : decode (zB k) pc = .ok (.aastore, 1)) (hi : zin h 26 a i) (hv : zk h v < 20) (kk : zKg p l e R s m args below meth c Q D cs A ρ h cells slots (pc + 1, ls, st, zput h a i.toInt.toNat (.ref v))) : zWg p l e R s m args below meth c Q ρ pc lsC (.ref v :: .int i :: .ref a :: st) H locs cells slots := by
  obtain ⟨h3, hn⟩ := hI.at (a := a) (by rw [hi.1]; omega)
  have hg := zws_get (ρ := ρ) (cs := cs) h3 hn
  rw [zcell_arr hi.1 (by omega), zct_r hi.1 (by omega)] at hg
  obtain ⟨v1, v2⟩ := zin_at hi
  refine va_astqM (D := D) (cl := zcl) (tys := ztys cs) C.1 C.2.1 C.2.2.2.2.2.1 hR.1 hR.2 hS (a - 3) 6 hg (ztys_get (by omega)) (zany C hI hR hok hv) v1 hd (zgo_put hI (by rw [hi.1]; omega) hL (zcell_ast hi.1 (by omega) ?_) kk)
  rw [zct_r (h := zput h a i.toInt.toNat (.ref v)) hi.1 (by omega)]
  refine congrArg (fun f => Sum.inr (Sum.inr (Sum.inr (Sum.inr f)))) (funext fun j => ?_)
  simp only [va_up, v2]
  by_cases e : j = i.toInt.toNat
  · subst e
    simp only [zm_put_s, if_true]
    rfl
  · simp only [zm_put_i e, if_neg e]
theorem zs_aastoreN {i : Int32} {a : Nat} (C : zCtx k D cs A b e1 mi L xs p R s m args meth c) (hI : ZI L xs h) (hL : zLR ρ ls lsC) (hR : zHR D cs A ρ h H) (hS : va_S A s.heap H locs) (hd : decode (zB k) pc = .ok (.aastore, 1)) (hi : zin h 26 a i) (kk : zKg p l e R s m args below meth c Q D cs A ρ h cells slots (pc + 1, ls, st, zput h a i.toInt.toNat .null)) : zWg p l e R s m args below meth c Q ρ pc lsC (.null :: .int i :: .ref a :: st) H locs cells slots := by
  obtain ⟨h3, hn⟩ := hI.at (a := a) (by rw [hi.1]; omega)
  have hg := zws_get (ρ := ρ) (cs := cs) h3 hn
  rw [zcell_arr hi.1 (by omega), zct_r hi.1 (by omega)] at hg
  obtain ⟨v1, v2⟩ := zin_at hi
  refine va_astqN (D := D) (cl := zcl) (tys := ztys cs) C.1 C.2.1 C.2.2.2.2.2.1 hR.1 hR.2 hS (a - 3) 6 hg (ztys_get (by omega)) v1 hd (zgo_put hI (by rw [hi.1]; omega) hL (zcell_ast hi.1 (by omega) ?_) kk)
  rw [zct_r (h := zput h a i.toInt.toNat .null) hi.1 (by omega)]
  refine congrArg (fun f => Sum.inr (Sum.inr (Sum.inr (Sum.inr f)))) (funext fun j => ?_)
  simp only [va_up, v2]
  by_cases e : j = i.toInt.toNat
  · subst e
    simp only [zm_put_s, if_true]
    rfl
  · simp only [zm_put_i e, if_neg e]
theorem zs_arraylength {a : Nat} (C : zCtx k D cs A b e1 mi L xs p R s m args meth c) (hI : ZI L xs h) (hρ : ρ 0 = b ∧ ρ 1 = e1 ∧ ρ 2 = mi) (hL : zLR ρ ls lsC) (hR : zHR D cs A ρ h H) (hS : va_S A s.heap H locs) (hd : decode (zB k) pc = .ok (.arraylength, 1)) (h1 : 20 ≤ zk h a) (h2 : zk h a < 29 ∨ a = 0 ∨ a = 1) (kk : zKg p l e R s m args below meth c Q D cs A ρ h cells slots (pc + 1, ls, .int (Int32.ofNat (zl h a)) :: st, h)) : zWg p l e R s m args below meth c Q ρ pc lsC (.ref a :: st) H locs cells slots := by
  have k0 := zKg.same kk rfl hR hS lsC hL
  obtain ⟨hx, hb, -, -, -, hK, hX, hbl, hbA, -, -, -, ⟨f, hT⟩, -⟩ := id C
  obtain ⟨-, -, -, -, -, l0, l1, -⟩ := id hI
  rcases h2 with h2 | rfl | rfl
  · obtain ⟨h3, hn⟩ := hI.at h2
    have hg := zws_get (ρ := ρ) (cs := cs) h3 hn
    rw [zcell_arr rfl h1] at hg
    exact va_alen (D := D) (cl := zcl) (tys := ztys cs) hx hb hK hR.1 (a - 3) (zk h a - 20) hg (ztys_get (by omega)) rfl hd k0
  · show W p l e R s m args below meth c H locs cells slots Q (F0 m pc lsC (.ref (ρ 0) :: st.map (vmap ρ)))
    rw [hρ.1]
    refine va_slen hx hb hX hbl hbA hS hd ?_
    rw [← l0]
    exact k0
  · show W p l e R s m args below meth c H locs cells slots Q (F0 m pc lsC (.ref (ρ 1) :: st.map (vmap ρ)))
    rw [hρ.2.1]
    refine va_tlen hx hb hT hS (v := Int32.ofNat (zl h 1)) (by rw [l1]) hd ?_
    exact k0
theorem zs_iaload0 {i : Int32} (C : zCtx k D cs A b e1 mi L xs p R s m args meth c) (hI : ZI L xs h) (hρ : ρ 0 = b ∧ ρ 1 = e1 ∧ ρ 2 = mi) (hL : zLR ρ ls lsC) (hR : zHR D cs A ρ h H) (hS : va_S A s.heap H locs) (hd : decode (zB k) pc = .ok (.iaload, 1)) (h1 : 0 ≤ i.toInt ∧ i.toInt < zl h 0) (kk : zKg p l e R s m args below meth c Q D cs A ρ h cells slots (pc + 1, ls, zm h 0 i.toInt.toNat :: st, h)) : zWg p l e R s m args below meth c Q ρ pc lsC (.int i :: .ref 0 :: st) H locs cells slots := by
  have k0 := zKg.same kk rfl hR hS lsC hL
  obtain ⟨hx, hb, -, -, -, hK, hX, hbl, hbA, -⟩ := id C
  obtain ⟨-, -, -, -, -, l0, -, lx, -⟩ := id hI
  show W p l e R s m args below meth c H locs cells slots Q (F0 m pc lsC (.int i :: .ref (ρ 0) :: st.map (vmap ρ)))
  rw [hρ.1]
  refine va_sld hx hb hX hbl hbA hS (vp_in_iff.mpr (by rw [← l0]; exact h1)) hd ?_
  have e : zm h 0 i.toInt.toNat = .int (xs i.toNatClampNeg) := lx _ (by rw [← l0]; omega)
  rw [List.map_cons, e] at k0
  exact k0
theorem zcastable (C : zCtx k D cs A b e1 mi L xs p R s m args meth c) {ci : Nat} (hq : zcl[ci]? = some (zFq ci)) : ∃ cC, ClassAt s (zFq ci).1 cC := by
  obtain ⟨_, hf, kC, hk, hkd⟩ := (C.2.2.2.2.2.1).1 ci _ hq
  exact ⟨_, hf, kC, hk, hkd⟩
theorem zs_checkcast {n ci a : Nat} (C : zCtx k D cs A b e1 mi L xs p R s m args meth c) (hI : ZI L xs h) (hF : zKOK (zY k).cls n ci) (hL : zLR ρ ls lsC) (hR : zHR D cs A ρ h H) (hS : va_S A s.heap H locs) (hd : decode (zB k) pc = .ok (.checkcast n, 3)) (hk : zk h a = ci) (kk : zKg p l e R s m args below meth c Q D cs A ρ h cells slots (pc + 3, ls, .ref a :: st, h)) : zWg p l e R s m args below meth c Q ρ pc lsC (.ref a :: st) H locs cells slots := by
  obtain ⟨hq, hlk⟩ := hF
  have hci := zcl_lt hq
  obtain ⟨h3, hn⟩ := hI.at (a := a) (by omega)
  have hg := zws_get (ρ := ρ) (cs := cs) h3 hn
  rw [zcell_obj hk (by omega)] at hg
  obtain ⟨cC, hC⟩ := zcastable C hq
  exact va_castS C.1 C.2.1 C.2.2.1 (C.word hlk) hC (va_recv C.2.2.2.2.2.1 hR.1 hq hg) hd (zKg.same kk rfl hR hS lsC hL)
theorem zs_getstatic {n : Nat} (C : zCtx k D cs A b e1 mi L xs p R s m args meth c) (hρ : ρ 0 = b ∧ ρ 1 = e1 ∧ ρ 2 = mi) (hw : zSw (zY k).cls n 9 ∈ zW) (hL : zLR ρ ls lsC) (hR : zHR D cs A ρ h H) (hS : va_S A s.heap H locs) (hd : decode (zB k) pc = .ok (.getstatic n, 3)) (kk : zKg p l e R s m args below meth c Q D cs A ρ h cells slots (pc + 3, ls, .ref 1 :: st, h)) : zWg p l e R s m args below meth c Q ρ pc lsC st H locs cells slots := by
  have k0 := zKg.same kk rfl hR hS lsC hL
  refine va_gets C.1 C.2.1 C.2.2.2.2.2.2.2.2.2.2.2.1 hS C.2.2.1 (C.word hw) (fun _ q => q) hd ?_
  rw [← hρ.2.1]
  exact k0
theorem zs_ldc {n sx v : Nat} {w : Value} (C : zCtx k D cs A b e1 mi L xs p R s m args meth c) (hF : zCOK (zY k).cls n sx v) (hw : w = if sx = 0 then .int (Int32.ofNat v) else .float (UInt32.ofNat v)) (h4 : sx ≠ 4) (hL : zLR ρ ls lsC) (hR : zHR D cs A ρ h H) (hS : va_S A s.heap H locs) (hd : decode (zB k) pc = .ok (.ldc n, 2)) (kk : zKg p l e R s m args below meth c Q D cs A ρ h cells slots (pc + 2, ls, w :: st, h)) : zWg p l e R s m args below meth c Q ρ pc lsC st H locs cells slots := by
  have k0 := zKg.same kk rfl hR hS lsC hL
  unfold zCOK at hF
  by_cases hs : sx = 0
  · rw [if_pos hs] at hF hw
    subst hw
    exact lv_ldc C.1 C.2.1 C.2.2.1 (C.word hF) hd k0
  · rw [if_neg hs, if_neg h4] at hF
    rw [if_neg hs] at hw
    subst hw
    exact lv_ldcf C.1 C.2.1 C.2.2.1 (C.word hF) hd k0
theorem zs_ldc2 {n v : Nat} (C : zCtx k D cs A b e1 mi L xs p R s m args meth c) (hF : zCOK (zY k).cls n 4 v) (hL : zLR ρ ls lsC) (hR : zHR D cs A ρ h H) (hS : va_S A s.heap H locs) (hd : decode (zB k) pc = .ok (.ldc2_w n, 3)) (kk : zKg p l e R s m args below meth c Q D cs A ρ h cells slots (pc + 3, ls, .long (Int64.ofNat v) :: st, h)) : zWg p l e R s m args below meth c Q ρ pc lsC st H locs cells slots := by
  have k0 := zKg.same kk rfl hR hS lsC hL
  have hF : (Cond.constantLong (zY k).cls n (Int64.ofNat v) : Jvm.Cond) ∈ zW := hF
  exact lv_ldc2 C.1 C.2.1 C.2.2.1 (C.word hF) hd k0
theorem zldcwF {T : State} (X : Stand p l e R s m args below meth c T locs cells slots) (hexec : p.tables.exec = Jvm.exec) {own : String} {index : Nat} {v : UInt32} (hown : s.vm.findClass own = some m.cls)
    (hconst : (Cond.constantFloat own index v).before args s = true) {g : JFrame} (hg : g.method = m) (hdg : decode c.code g.pc = .ok (.ldc_w index, 3)) :
    ∀ target, Steps p.tables e below (T.setTop { g with pc := g.pc + 3, stack := .float v :: g.stack }) target → Steps p.tables e below (T.setTop g) target := by
  obtain ⟨k, cf, hk, hcf, hcp⟩ := Cond.constantFloat_spec hown hconst
  obtain ⟨k', hk', he⟩ := X.warmed.alike.2.2 _ _ hk
  intro target hrest
  subst hg
  jvm_step X.here [hexec, hdg, ldc_w.wp_float (s := T) (f := g) X.here.top hk' (by rw [he]; exact hcf) hcp]
  exact hrest
theorem zlv_ldcwf {cc : ByteArray} {pc : Nat} {ls : Array Slot} {rest : List Value} (hexec : p.tables.exec = Jvm.exec) (hb : c.code = cc) {own : String} {index : Nat} {v : UInt32} (hown : s.vm.findClass own = some m.cls) (hconst : (Jvm.Cond.constantFloat own index v).before args s = true) (hdg : decode cc pc = .ok (.ldc_w index, 3)) (k : W p l e R s m args below meth c H locs cells slots Q (F0 m (pc + 3) ls (.float v :: rest))) : W p l e R s m args below meth c H locs cells slots Q (F0 m pc ls rest) := by
  intro T hT X
  obtain ⟨t, a, b⟩ := k T hT X
  exact ⟨t, zldcwF X hexec hown hconst (g := F0 m pc ls rest) rfl (by rw [hb]; exact hdg) t a, b⟩
theorem zs_ldcw {n sx v : Nat} {w : Value} (C : zCtx k D cs A b e1 mi L xs p R s m args meth c) (hF : zCOK (zY k).cls n sx v) (hw : w = if sx = 0 then .int (Int32.ofNat v) else .float (UInt32.ofNat v)) (h4 : sx ≠ 4) (hL : zLR ρ ls lsC) (hR : zHR D cs A ρ h H) (hS : va_S A s.heap H locs) (hd : decode (zB k) pc = .ok (.ldc_w n, 3)) (kk : zKg p l e R s m args below meth c Q D cs A ρ h cells slots (pc + 3, ls, w :: st, h)) : zWg p l e R s m args below meth c Q ρ pc lsC st H locs cells slots := by
  have k0 := zKg.same kk rfl hR hS lsC hL
  unfold zCOK at hF
  by_cases hs : sx = 0
  · rw [if_pos hs] at hF hw
    subst hw
    exact lv_ldcw C.1 C.2.1 C.2.2.1 (C.word hF) hd k0
  · rw [if_neg hs, if_neg h4] at hF
    rw [if_neg hs] at hw
    subst hw
    exact zlv_ldcwf C.1 C.2.1 C.2.2.1 (C.word hF) hd k0
theorem zs_ldcM {n : Nat} (C : zCtx k D cs A b e1 mi L xs p R s m args meth c) (hρ : ρ 0 = b ∧ ρ 1 = e1 ∧ ρ 2 = mi) (hw : zSw (zY k).cls n 10 ∈ zW) (hL : zLR ρ ls lsC) (hR : zHR D cs A ρ h H) (hS : va_S A s.heap H locs) (hd : decode (zB k) pc = .ok (.ldc n, 2)) (kk : zKg p l e R s m args below meth c Q D cs A ρ h cells slots (pc + 2, ls, .ref 2 :: st, h)) : zWg p l e R s m args below meth c Q ρ pc lsC st H locs cells slots := by
  have k0 := zKg.same kk rfl hR hS lsC hL
  refine va_ldcM C.1 C.2.1 C.2.2.1 (C.word hw) C.2.2.2.2.2.2.2.2.2.2.2.2.2.1 hd ?_
  rw [← hρ.2.2]
  exact k0
theorem zs_iinc {n : Nat} {z : Int} {x : Int32} {l' : zL} (C : zCtx k D cs A b e1 mi L xs p R s m args meth c) (hL : zLR ρ ls lsC) (hR : zHR D cs A ρ h H) (hS : va_S A s.heap H locs) (hd : decode (zB k) pc = .ok (.iinc n z, 3)) (hg : lget ls n = some (.int x)) (hl : lst ls n (.int (x + Int32.ofInt z)) = some l') (kk : zKg p l e R s m args below meth c Q D cs A ρ h cells slots (pc + 3, l', st, h)) : zWg p l e R s m args below meth c Q ρ pc lsC st H locs cells slots := by
  obtain ⟨q, hq⟩ := List.getElem?_of_mem (mem_zas (ρ := ρ) hg)
  exact lv_iinc C.1 C.2.1 hd hL.has hq rfl (lst_spec hl).1 rfl (fun lsC' hl' => zKg.same kk rfl hR hS lsC' (zLR.put hl hl'))
theorem zs_acmp {x y : Nat} {o : Int} {eq : Bool} {r : Nat × zL × zS × zH} (C : zCtx k D cs A b e1 mi L xs p R s m args meth c) (hinj : ρ x = ρ y → x = y) (hL : zLR ρ ls lsC) (hR : zHR D cs A ρ h H) (hS : va_S A s.heap H locs) (ht : (pc : Int) + o = (tg : Int)) (hd : decode (zB k) pc = .ok (.if_acmp (if eq then .eq else .ne) o, 3)) (hr : r = if x = y then (if eq then (tg, ls, st, h) else (pc + 3, ls, st, h)) else (if eq then (pc + 3, ls, st, h) else (tg, ls, st, h))) (kk : zKg p l e R s m args below meth c Q D cs A ρ h cells slots r) : zWg p l e R s m args below meth c Q ρ pc lsC (.ref y :: .ref x :: st) H locs cells slots := by
  cases eq
  · simp only [Bool.false_eq_true, if_false] at hr hd
    refine lv_acmp_ne (rx := some (ρ x)) (ry := some (ρ y)) C.1 C.2.1 hd ht (fun hc => ?_) (fun hc => ?_)
    · rw [if_neg (fun q => hc (by rw [q]))] at hr
      subst hr
      exact zKg.same kk rfl hR hS lsC hL
    · rw [if_pos (hinj (Option.some.inj hc))] at hr
      subst hr
      exact zKg.same kk rfl hR hS lsC hL
  · simp only [if_true] at hr hd
    refine lv_acmp_eq (rx := some (ρ x)) (ry := some (ρ y)) C.1 C.2.1 hd ht (fun hc => ?_) (fun hc => ?_)
    · rw [if_pos (hinj (Option.some.inj hc))] at hr
      subst hr
      exact zKg.same kk rfl hR hS lsC hL
    · rw [if_neg (fun q => hc (by rw [q]))] at hr
      subst hr
      exact zKg.same kk rfl hR hS lsC hL
theorem zs_tableswitch {dflt lo hi : Int} {offs : Array Int} {x : Int32} {r : Nat × zL × zS × zH} (C : zCtx k D cs A b e1 mi L xs p R s m args meth c) (hL : zLR ρ ls lsC) (hR : zHR D cs A ρ h H) (hS : va_S A s.heap H locs) (hT : ztab k pc dflt lo hi offs tg aux) (hp : (if x.toInt < lo ∨ hi < x.toInt then some (tg, ls, st, h) else (aux[(x.toInt - lo).toNat]?).map (fun t => (t, ls, st, h))) = some r) (kk : zKg p l e R s m args below meth c Q D cs A ρ h cells slots r) : zWg p l e R s m args below meth c Q ρ pc lsC (.int x :: st) H locs cells slots := by
  obtain ⟨⟨len, hd⟩, h1, h2, h3⟩ := hT
  by_cases hx : x.toInt < lo ∨ hi < x.toInt
  · rw [if_pos hx] at hp
    cases hp
    exact lv_tableOut C.1 C.2.1 hd hx h1 (zKg.same kk rfl hR hS lsC hL)
  · rw [if_neg hx] at hp
    cases ha : aux[(x.toInt - lo).toNat]? with
    | none => rw [ha] at hp; cases hp
    | some t =>
      rw [ha] at hp
      cases hp
      have e1 : (aux.map (fun (t : Nat) => (t : Int)))[(x.toInt - lo).toNat]? = some (t : Int) := by rw [List.getElem?_map, ha]; rfl
      rw [← h2, List.getElem?_map] at e1
      cases ho : offs.toList[(x.toInt - lo).toNat]? with
      | none => rw [ho] at e1; cases e1
      | some off =>
        rw [ho] at e1
        simp only [Option.map_some, Option.some.injEq] at e1
        exact lv_tableIn C.1 C.2.1 hd (fun q => hx (Or.inl q)) (fun q => hx (Or.inr q)) (by rw [← Array.getElem?_toList]; exact ho) e1 (zKg.same kk rfl hR hS lsC hL)
end ZV

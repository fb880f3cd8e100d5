section ZY
variable {p : Program} {l : Launch} {e : Env} {R : Room} {s : State} {m : MethodId} {args : Array Value} {below : List Frame} {meth : Method} {c : Code} {Q : State → Prop}
variable {k pc nx tg : Nat} {aux : List Nat} {D : va_G} {cs : Nat → ClassId} {A : Nat → Prop} {b e1 mi L : Nat} {xs : Nat → Int32} {ρ : Nat → Nat} {ls : zL} {st : zS} {h : zH} {lsC : Array Slot} {H : Heap} {locs : List Loc} {cells slots : Nat}
theorem znews_old {ke w n : Nat} {v : Value} {a : Nat} (ha : a < zn h) : zk (znews h ke w v n) a = zk h a ∧ zl (znews h ke w v n) a = zl h a ∧ ∀ i, zm (znews h ke w v n) a i = zm h a i := by
  have e : ¬ (h.1.1 ≤ a ∧ a < h.1.1 + n) := fun q => absurd ha (Nat.not_lt.mpr q.1)
  exact ⟨if_neg e, if_neg e, fun i => if_neg e⟩
theorem znews_new {ke w n j : Nat} {v : Value} (hj : j < n) : zk (znews h ke w v n) (zn h + j) = ke ∧ zl (znews h ke w v n) (zn h + j) = w ∧ ∀ i, zm (znews h ke w v n) (zn h + j) i = v := by
  have e : h.1.1 ≤ zn h + j ∧ zn h + j < h.1.1 + n := ⟨Nat.le_add_right _ _, Nat.add_lt_add_left hj _⟩
  exact ⟨if_pos e, if_pos e, fun i => if_pos e⟩
theorem zs_multi {i : Nat} {w n : Int32} {kd ke : Nat} {ty : FieldType} (C : zCtx k D cs A b e1 mi L xs p R s m args meth c) (hI : ZI L xs h) (hkd : kd = 27 ∧ ke = 21 ∧ ty = .byte) (hw : zSw (zY k).cls i kd ∈ zW) (hL : zLR ρ ls lsC) (hlk : zLOK (zn h) ls) (hsk : zSOK (zn h) st) (hR : zHR D cs A ρ h H) (hS : va_S A s.heap H locs) (hd : decode (zB k) pc = .ok (.multianewarray i 2, 4)) (hn : 0 ≤ n.toInt ∧ n.toInt ≤ 67108864 ∧ 0 ≤ w.toInt ∧ w.toInt ≤ 67108864) (hc : cells + (1 + n.toInt.toNat) ≤ R.cells) (hs : slots + (n.toInt.toNat + n.toInt.toNat * w.toInt.toNat) ≤ R.slots) (kk : zKg p l e R s m args below meth c Q D cs A ρ h cells slots (pc + 4, ls, .ref (zn h) :: st, znews (znew h kd n.toInt.toNat (fun i => if i < n.toInt.toNat then .ref (zn h + 1 + i) else .null)) ke w.toInt.toNat (.int 0) n.toInt.toNat)) : zWg p l e R s m args below meth c Q ρ pc lsC (.int w :: .int n :: st) H locs cells slots := by
  have hn0 : ¬ n < 0 := by rw [zi_lt, zi_0]; omega
  have hw0 : ¬ w < 0 := by rw [zi_lt, zi_0]; omega
  have hty : zT.getD (kd - 20) .int = .array ty ∧ zT.getD (ke - 20) .int = ty := by obtain ⟨rfl, rfl, rfl⟩ := hkd; exact ⟨rfl, rfl⟩
  have hlt : 26 < kd ∧ kd < 29 ∧ 20 ≤ ke ∧ ke < 24 := by obtain ⟨rfl, rfl, rfl⟩ := hkd; decide
  have hlink : (Cond.classLink (zY k).cls i ("[" ++ (FieldType.array ty).toString)).before args s = true := by
    obtain ⟨rfl, rfl, rfl⟩ := hkd; exact C.word hw
  have hover : (Cond.arrayOver (.array ty)).before #[] s = true := by
    obtain ⟨rfl, rfl, rfl⟩ := hkd
    exact C.2.2.2.2.2.2.2.2.2.2.2.2.2.2.2.2.1
  have harr : (Cond.arrayClass ty).before args s = true := by
    obtain ⟨rfl, rfl, rfl⟩ := hkd
    exact C.word (zAC .byte (Or.inr rfl))
  have hcy : s.vm.findClass (FieldType.array ty).toString = some (cs (ke - 20)) := by
    have := ((C.2.2.2.2.2.1).2 (ke - 20) _ (ztys_get (by omega))).2
    rw [hty.2] at this
    obtain ⟨rfl, rfl, rfl⟩ := hkd; exact this
  have hdf : fits ty (defaultValue ty) = true ∧ (defaultValue ty).isDefault = true ∧ componentBytes ty ≤ 4 ∧ defaultValue ty = .int 0 := by obtain ⟨rfl, rfl, rfl⟩ := hkd; decide
  refine va_mna (X := zws ρ cs h) (L := []) (f := fun _ => .inr (0, [])) (ty := ty) (cy := cs (ke - 20)) (N' := n.toInt.toNat) (K' := w.toInt.toNat) (z := (w.toInt.toNat, .inl (fun _ => 0))) C.1 C.2.1 C.2.2.1 hlink hover harr hcy C.2.2.2.2.2.1 (by rw [show va_pl [] (fun _ => (Sum.inr (0, []) : va_E)) = [] from rfl, List.append_nil]; exact hR.1) (by rw [show va_pl [] (fun _ => (Sum.inr (0, []) : va_E)) = [] from rfl, List.append_nil]; exact hR.2) hS C.2.2.2.2.2.2.2.2.2.1 hn0 hw0 rfl rfl (by omega) ?_ (by omega) hdf.1 hdf.2.1 hc hs (fun cc => ?_) hd (fun q r cA H1 hr1 hr2 hK1 hP hD hS1 => ?_)
  · calc w.toInt.toNat * componentBytes ty ≤ 67108864 * 4 := Nat.mul_le_mul (by omega) hdf.2.2.1
      _ ≤ 536870912 := by decide
  · rw [hdf.2.2.2]
    exact arrV_new cc w.toInt.toNat (.int 0)
  · obtain rfl := ztys_new (j := kd - 20) (by omega) hty.1 hK1
    generalize hN : n.toInt.toNat = N at *
    generalize hM : w.toInt.toNat = M at *
    generalize hh1 : znew h kd N (fun i => if i < N then .ref (zn h + 1 + i) else .null) = h1 at *
    have z1 : zn h1 = zn h + 1 := by rw [← hh1]; rfl
    have hρ2 : ∃ ρ2 : Nat → Nat, Ext (zn h) ρ ρ2 ∧ ρ2 (zn h) = q ∧ ∀ i, i < N → ρ2 (zn h1 + i) = r i := by
      refine ⟨fun a => if a < zn h then ρ a else if a = zn h then q else r (a - zn h1), fun a ha => if_pos ha, ?_, fun i hi => ?_⟩
      · simp
      · show (if zn h1 + i < zn h then _ else if zn h1 + i = zn h then _ else _) = _
        rw [if_neg (by omega), if_neg (by omega), Nat.add_sub_cancel_left]
    obtain ⟨ρ2, x1, x2, x3⟩ := hρ2
    have hok1 : ∀ a i, VOK (zn h1) (zm h1 a i) ∨ zn h ≤ a := by
      intro a i
      by_cases ha : a < zn h
      · left
        rw [← hh1, (znew_old ha).2.2 i]
        exact VOK.mono (by rw [hh1, z1]; omega) (hI.2.2.2.2.2.2.2.2 a i)
      · exact Or.inr (by omega)
    have w1 : zws ρ2 cs (znews h1 ke M (.int 0) N) = (zws ρ cs h ++ [(q, .inl (cs (kd - 20), N, .inr (.inr (.inr (.inr (fun i => if i < N then some (r i) else none))))))]) ++ (List.range N).map (fun i => (r i, .inl (cs (ke - 20), M, .inl (fun _ => 0)))) := by
      refine List.ext_getElem? fun i => ?_
      have zz : zn (znews h1 ke M (.int 0) N) = zn h + 1 + N := by show zn h1 + N = _; rw [z1]
      have h3 := hI.1
      by_cases hi : i + 3 < zn h
      · rw [List.append_assoc, List.getElem?_append_left (by rw [zws_len]; omega)]
        have g1 := zws_get (ρ := ρ) (cs := cs) (h := h) (a := i + 3) (by omega) hi
        have g2 := zws_get (ρ := ρ2) (cs := cs) (h := znews h1 ke M (.int 0) N) (a := i + 3) (by omega) (by omega)
        rw [Nat.add_sub_cancel] at g1 g2
        obtain ⟨a1, a2, a3⟩ := znews_old (h := h1) (ke := ke) (w := M) (n := N) (v := .int 0) (a := i + 3) (by omega)
        have b0 := znew_old (h := h) (kd := kd) (n := N) (f := fun i => if i < N then Value.ref (zn h + 1 + i) else .null) hi
        rw [hh1] at b0
        obtain ⟨b1, b2, b3⟩ := b0
        rw [g1, g2, zcell_ext (h := h) (h' := znews h1 ke M (.int 0) N) x1 (fun j => hI.2.2.2.2.2.2.2.2 _ j) (a1.trans b1) (a2.trans b2) (fun j => (a3 j).trans (b3 j)), x1 _ hi]
      · by_cases hi2 : i + 3 = zn h
        · rw [List.append_assoc, List.getElem?_append_right (by rw [zws_len]; omega), zws_len, show i - (zn h - 3) = 0 by omega]
          have g2 := zws_get (ρ := ρ2) (cs := cs) (h := znews h1 ke M (.int 0) N) (a := i + 3) (by omega) (by omega)
          rw [Nat.add_sub_cancel] at g2
          obtain ⟨a1, a2, a3⟩ := znews_old (h := h1) (ke := ke) (w := M) (n := N) (v := .int 0) (a := i + 3) (by omega)
          have b0 := znew_new (h := h) (kd := kd) (n := N) (f := fun i => if i < N then Value.ref (zn h + 1 + i) else .null)
          rw [hh1, ← hi2] at b0
          obtain ⟨b1, b2, b3⟩ := b0
          rw [g2, zcell_arr (h := znews h1 ke M (.int 0) N) (a1.trans b1) (by omega), zct_r (h := znews h1 ke M (.int 0) N) (a1.trans b1) (by omega), a2.trans b2, hi2, x2]
          simp only [List.cons_append, List.getElem?_cons_zero]
          refine congrArg (fun f => some (q, (Sum.inl (cs (kd - 20), N, Sum.inr (Sum.inr (Sum.inr (Sum.inr f)))) : va_E))) (funext fun j => ?_)
          rw [← hi2, a3 j, b3 j]
          by_cases hj : j < N
          · simp only [hj, if_true, vR]
            rw [show i + 3 + 1 + j = zn h1 + j by omega, x3 j hj]
          · simp [hj, vR]
        · rw [List.getElem?_append_right (by simp [zws_len]; omega), List.getElem?_map]
          simp only [List.length_append, zws_len, List.length_cons, List.length_nil]
          by_cases hl : i < zn h - 2 + N
          · have g2 := zws_get (ρ := ρ2) (cs := cs) (h := znews h1 ke M (.int 0) N) (a := i + 3) (by omega) (by omega)
            rw [Nat.add_sub_cancel] at g2
            obtain ⟨a1, a2, a3⟩ := znews_new (h := h1) (ke := ke) (w := M) (n := N) (v := .int 0) (j := i - (zn h - 2)) (by omega)
            rw [show zn h1 + (i - (zn h - 2)) = i + 3 by omega] at a1 a2 a3
            rw [g2, List.getElem?_range (by omega), zcell_arr (h := znews h1 ke M (.int 0) N) a1 (by omega), zct_i (h := znews h1 ke M (.int 0) N) a1 (by omega), a2]
            simp only [Option.map_some, a3, vI]
            have := x3 (i - (zn h - 2)) (by omega)
            rw [show zn h1 + (i - (zn h - 2)) = i + 3 by omega] at this
            rw [this, show i - (zn h - 3 + (0 + 1)) = i - (zn h - 2) by omega]
          · rw [List.getElem?_eq_none (by rw [zws_len, zz]; omega), List.getElem?_eq_none (by simp; omega)]
            rfl
    have w2 : va_pl ([] ++ (List.range N).map r) (vr_up (fun _ => (Sum.inr (0, []) : va_E)) ((List.range N).map r) (.inl (cs (ke - 20), M, .inl (fun _ => 0)))) = (List.range N).map (fun i => (r i, (.inl (cs (ke - 20), M, .inl (fun _ => 0)) : va_E))) := by
      unfold va_pl
      rw [List.nil_append, List.map_map]
      refine List.map_congr_left fun i hi => ?_
      simp only [Function.comp]
      rw [vr_up_in (List.mem_map.mpr ⟨i, hi, rfl⟩)]
    rw [w2, ← w1] at hP hD
    have := kk ρ2 lsC H1 locs x1 (hL.ext x1 hlk) ⟨hP, hD⟩ hS1
    have u1 : zuc (znews h1 ke M (.int 0) N) - zuc h = 1 + N := by
      rw [← hh1]
      show h.1.2.1 + 1 + N - h.1.2.1 = 1 + N
      omega
    have u2 : zus (znews h1 ke M (.int 0) N) - zus h = N + N * M := by
      rw [← hh1]
      show h.1.2.2 + N + N * M - h.1.2.2 = N + N * M
      omega
    simp only [u1, u2, List.map_cons, vmap, x2, zst_ext x1 hsk, ← Nat.add_assoc] at this
    exact this
end ZY

/-! what holds of the cells stays -/
theorem VOK_int {n : Nat} {x : Int32} : VOK n (.int x) ↔ True := iff_true_intro fun _ h => nomatch h
theorem VOK_long {n : Nat} {x : Int64} : VOK n (.long x) ↔ True := iff_true_intro fun _ h => nomatch h
theorem VOK_float {n : Nat} {x : UInt32} : VOK n (.float x) ↔ True := iff_true_intro fun _ h => nomatch h
theorem VOK_double {n : Nat} {x : UInt64} : VOK n (.double x) ↔ True := iff_true_intro fun _ h => nomatch h
theorem VOK_null {n : Nat} : VOK n .null ↔ True := iff_true_intro fun _ h => nomatch h
theorem VOK_ref {n a : Nat} : VOK n (.ref a) ↔ a < n := ⟨fun h => h a rfl, fun h _ e => by cases e; exact h⟩
theorem zSOK_nil {n : Nat} : zSOK n [] ↔ True := iff_true_intro fun _ h => absurd h List.not_mem_nil
theorem zSOK_cons {n : Nat} {v : Value} {st : zS} : zSOK n (v :: st) ↔ VOK n v ∧ zSOK n st := ⟨fun h => ⟨h v List.mem_cons_self, fun w hw => h w (List.mem_cons_of_mem _ hw)⟩, fun h w hw => (List.mem_cons.mp hw).elim (fun e => e ▸ h.1) (h.2 w)⟩
theorem zSOK.mono {n n' : Nat} (hn : n ≤ n') {st : zS} (h : zSOK n st) : zSOK n' st := fun v hv => (h v hv).mono hn
theorem zLOK.mono {n n' : Nat} (hn : n ≤ n') {ls : zL} (h : zLOK n ls) : zLOK n' ls := fun i v hv => (h i v hv).mono hn
theorem zLOK.put {n i : Nat} {v : Value} {ls l' : zL} (h : zLOK n ls) (hv : VOK n v) (hl : lst ls i v = some l') : zLOK n l' := by
  intro j w hj
  rw [(lst_spec hl).2.2.1 j] at hj
  by_cases e : j = i
  · rw [if_pos e] at hj
    cases hj
    exact hv
  · rw [if_neg e] at hj
    exact h j w hj
theorem zLOK.put2 {n i : Nat} {v : Value} {ls l' : zL} (h : zLOK n ls) (hv : VOK n v) (hl : lst2 ls i v = some l') : zLOK n l' := by
  intro j w hj
  rw [(lst2_spec hl).2.2.1 j] at hj
  by_cases e : j = i
  · rw [if_pos e] at hj
    cases hj
    exact hv
  · rw [if_neg e] at hj
    by_cases e2 : j = i + 1
    · rw [if_pos e2] at hj
      cases hj
    · rw [if_neg e2] at hj
      exact h j w hj
theorem zINV.put {L : Nat} {xs : Nat → Int32} {h : zH} {a i : Nat} {v : Value} (hI : zINV L xs h) (hk : zk h a < 29) (hv : VOK (zn h) v) : zINV L xs (zput h a i v) := by
  obtain ⟨⟨h1, h2, h3, h4, h5, h6, h7, h8, h9⟩, h10, h11⟩ := hI
  obtain ⟨a3, an⟩ := h2 a hk
  refine ⟨⟨h1, h2, h3, h4, h5, h6, h7, fun j hj => ?_, fun b j => ?_⟩, h10, h11⟩
  · rw [zm_put_a (by omega)]
    exact h8 j hj
  · rw [zm_put]
    split
    · exact hv
    · exact h9 b j
theorem zINV.new {L : Nat} {xs : Nat → Int32} {h : zH} {kd n : Nat} {f : Nat → Value} (hI : zINV L xs h) (hk : kd < 8 ∨ (20 ≤ kd ∧ kd < 29 ∧ kd ≠ 23 ∧ kd ≠ 28)) (hv : ∀ i, VOK (zn h + 1) (f i)) : zINV L xs (znew h kd n f) := by
  obtain ⟨⟨h1, h2, h3, h4, h5, h6, h7, h8, h9⟩, h10, h11⟩ := hI
  have old := fun {a : Nat} (ha : a < zn h) => znew_old (h := h) (kd := kd) (n := n) (f := f) ha
  have ek : ∀ a, zk (znew h kd n f) a = if a = zn h then kd else zk h a := fun a => rfl
  have em : ∀ a i, zm (znew h kd n f) a i = if a = zn h then f i else zm h a i := fun a i => rfl
  have z0 : zn (znew h kd n f) = zn h + 1 := rfl
  refine ⟨⟨by rw [z0]; omega, fun a ha => ?_, by rw [(old (by omega)).1, h3], by rw [(old (by omega)).1, h4], by rw [(old (by omega)).1, h5], by rw [(old (by omega)).2.1, h6], by rw [(old (by omega)).2.1, h7], fun j hj => by rw [(old (by omega)).2.2, h8 j hj], fun a j => ?_⟩, fun a ha => ?_, fun a ha => ?_⟩
  · rw [ek] at ha ⊢
    rw [z0]
    by_cases e : a = zn h
    · rw [if_pos e] at ha ⊢
      omega
    · rw [if_neg e] at ha ⊢
      have := h2 a ha
      omega
  · rw [em, z0]
    split
    · exact hv j
    · exact (h9 a j).mono (by omega)
  · rw [ek] at ha ⊢
    split
    · rename_i e
      rw [if_pos e] at ha
      omega
    · rename_i e
      rw [if_neg e] at ha
      exact h10 a ha
  · rw [ek] at ha ⊢
    split
    · rename_i e
      rw [if_pos e] at ha
      omega
    · rename_i e
      rw [if_neg e] at ha
      exact h11 a ha
theorem zINV.news {L : Nat} {xs : Nat → Int32} {h : zH} {ke w n : Nat} {v : Value} (hI : zINV L xs h) (hk : 20 ≤ ke ∧ ke < 29 ∧ ke ≠ 23 ∧ ke ≠ 28) (hv : VOK 0 v) : zINV L xs (znews h ke w v n) := by
  obtain ⟨⟨h1, h2, h3, h4, h5, h6, h7, h8, h9⟩, h10, h11⟩ := hI
  have old := fun {a : Nat} (ha : a < zn h) => znews_old (h := h) (ke := ke) (w := w) (n := n) (v := v) ha
  have ek : ∀ a, zk (znews h ke w v n) a = if zn h ≤ a ∧ a < zn h + n then ke else zk h a := fun a => rfl
  have em : ∀ a i, zm (znews h ke w v n) a i = if zn h ≤ a ∧ a < zn h + n then v else zm h a i := fun a i => rfl
  have z0 : zn (znews h ke w v n) = zn h + n := rfl
  refine ⟨⟨by rw [z0]; omega, fun a ha => ?_, by rw [(old (by omega)).1, h3], by rw [(old (by omega)).1, h4], by rw [(old (by omega)).1, h5], by rw [(old (by omega)).2.1, h6], by rw [(old (by omega)).2.1, h7], fun j hj => by rw [(old (by omega)).2.2, h8 j hj], fun a j => ?_⟩, fun a ha => ?_, fun a ha => ?_⟩
  · rw [ek] at ha ⊢
    rw [z0]
    by_cases e : zn h ≤ a ∧ a < zn h + n
    · rw [if_pos e] at ha ⊢
      omega
    · rw [if_neg e] at ha ⊢
      have := h2 a ha
      omega
  · rw [em, z0]
    split
    · exact hv.mono (by omega)
    · exact (h9 a j).mono (by omega)
  · rw [ek] at ha ⊢
    split
    · rename_i e
      rw [if_pos e] at ha
      omega
    · rename_i e
      rw [if_neg e] at ha
      exact h10 a ha
  · rw [ek] at ha ⊢
    split
    · rename_i e
      rw [if_pos e] at ha
      omega
    · rename_i e
      rw [if_neg e] at ha
      exact h11 a ha
theorem zINV.multi {L : Nat} {xs : Nat → Int32} {h : zH} {kd ke w n : Nat} (hI : zINV L xs h) (hk : kd = 27) (hk2 : ke = 21) : zINV L xs (znews (znew h kd n (fun i => if i < n then .ref (zn h + 1 + i) else .null)) ke w (.int 0) n) := by
  obtain ⟨⟨h1, h2, h3, h4, h5, h6, h7, h8, h9⟩, h10, h11⟩ := hI
  generalize hh : znews (znew h kd n (fun i => if i < n then .ref (zn h + 1 + i) else .null)) ke w (.int 0) n = h'
  have ek : ∀ a, zk h' a = if zn h + 1 ≤ a ∧ a < zn h + 1 + n then ke else if a = zn h then kd else zk h a := fun a => by rw [← hh]; rfl
  have el : ∀ a, zl h' a = if zn h + 1 ≤ a ∧ a < zn h + 1 + n then w else if a = zn h then n else zl h a := fun a => by rw [← hh]; rfl
  have em : ∀ a i, zm h' a i = if zn h + 1 ≤ a ∧ a < zn h + 1 + n then .int 0 else if a = zn h then (if i < n then .ref (zn h + 1 + i) else .null) else zm h a i := fun a i => by rw [← hh]; rfl
  have z0 : zn h' = zn h + 1 + n := by rw [← hh]; rfl
  refine ⟨⟨by omega, fun a ha => ?_, ?_, ?_, ?_, ?_, ?_, fun j hj => ?_, fun a j => ?_⟩, fun a ha => ?_, fun a ha => ?_⟩
  · rw [ek] at ha ⊢
    rw [z0]
    by_cases e : zn h + 1 ≤ a ∧ a < zn h + 1 + n
    · rw [if_pos e] at ha ⊢
      omega
    · rw [if_neg e] at ha ⊢
      by_cases e1 : a = zn h
      · rw [if_pos e1] at ha ⊢
        omega
      · rw [if_neg e1] at ha ⊢
        have := h2 a ha
        omega
  · rw [ek, if_neg (by omega), if_neg (by omega), h3]
  · rw [ek, if_neg (by omega), if_neg (by omega), h4]
  · rw [ek, if_neg (by omega), if_neg (by omega), h5]
  · rw [el, if_neg (by omega), if_neg (by omega), h6]
  · rw [el, if_neg (by omega), if_neg (by omega), h7]
  · rw [em, if_neg (by omega), if_neg (by omega), h8 j hj]
  · rw [em, z0]
    split
    · exact VOK_int.mpr trivial
    · split
      · split
        · exact VOK_ref.mpr (by omega)
        · exact VOK_null.mpr trivial
      · exact (h9 a j).mono (by omega)
  · rw [ek] at ha ⊢
    by_cases e1 : zn h + 1 ≤ a ∧ a < zn h + 1 + n
    · rw [if_pos e1] at ha
      omega
    · rw [if_neg e1] at ha ⊢
      by_cases e2 : a = zn h
      · rw [if_pos e2] at ha
        omega
      · rw [if_neg e2] at ha ⊢
        exact h10 a ha
  · rw [ek] at ha ⊢
    by_cases e1 : zn h + 1 ≤ a ∧ a < zn h + 1 + n
    · rw [if_pos e1]
      omega
    · rw [if_neg e1] at ha ⊢
      by_cases e2 : a = zn h
      · rw [if_pos e2]
        omega
      · rw [if_neg e2] at ha ⊢
        exact h11 a ha
theorem zINV.fil {L : Nat} {xs : Nat → Int32} {h : zH} {a : Nat} {f : Nat → Value} (hI : zINV L xs h) (hk : zk h a < 29) (hv : ∀ j, VOK (zn h) (f j)) : zINV L xs (zfil h a f) := by
  obtain ⟨⟨h1, h2, h3, h4, h5, h6, h7, h8, h9⟩, h10, h11⟩ := hI
  obtain ⟨a3, an⟩ := h2 a hk
  have em : ∀ b i, zm (zfil h a f) b i = if b = a then f i else zm h b i := fun b i => rfl
  refine ⟨⟨h1, h2, h3, h4, h5, h6, h7, fun j hj => ?_, fun b j => ?_⟩, h10, h11⟩
  · rw [em, if_neg (by omega)]
    exact h8 j hj
  · rw [em]
    split
    · exact hv j
    · exact h9 b j
theorem zINV.chg {L : Nat} {xs : Nat → Int32} {h : zH} {c n : Nat} (hI : zINV L xs h) : zINV L xs (zchg h c n) := hI
theorem zdef_ok {t n : Nat} : VOK n (zdef t) := by
  intro a e
  unfold zdef at e
  repeat (split at e <;> first | contradiction | skip)

/-- what a step leaves as it was, what only grows -/
def zGood (L : Nat) (xs : Nat → Int32) (h : zH) (ls : zL) (r : Nat × zL × zS × zH) : Prop := zINV L xs r.2.2.2 ∧ zLOK (zn r.2.2.2) r.2.1 ∧ zSOK (zn r.2.2.2) r.2.2.1 ∧ zn h ≤ zn r.2.2.2 ∧ zuc h ≤ zuc r.2.2.2 ∧ zus h ≤ zus r.2.2.2 ∧ r.2.1.length = ls.length
section ZB
variable {k pc nx tg : Nat} {aux : List Nat} {L : Nat} {xs : Nat → Int32} {ls : zL} {st : zS} {h : zH}
theorem zGood.same {pc' : Nat} {st' : zS} (hI : zINV L xs h) (hl : zLOK (zn h) ls) (hs : zSOK (zn h) st') : zGood L xs h ls (pc', ls, st', h) := ⟨hI, hl, hs, Nat.le_refl _, Nat.le_refl _, Nat.le_refl _, rfl⟩
theorem zGood.put {pc' : Nat} {st' : zS} {a i : Nat} {v : Value} (hI : zINV L xs h) (hl : zLOK (zn h) ls) (hs : zSOK (zn h) st') (hk : zk h a < 29) (hv : VOK (zn h) v) : zGood L xs h ls (pc', ls, st', zput h a i v) := ⟨hI.put hk hv, hl, hs, Nat.le_refl _, Nat.le_refl _, Nat.le_refl _, rfl⟩
theorem zGood.new {pc' : Nat} {st' : zS} {kd n : Nat} {f : Nat → Value} (hI : zINV L xs h) (hl : zLOK (zn h) ls) (hs : zSOK (zn h) st') (hk : kd < 8 ∨ (20 ≤ kd ∧ kd < 29 ∧ kd ≠ 23 ∧ kd ≠ 28)) (hv : ∀ i, VOK (zn h + 1) (f i)) : zGood L xs h ls (pc', ls, .ref (zn h) :: st', znew h kd n f) := ⟨hI.new hk hv, hl.mono (Nat.le_succ _), zSOK_cons.mpr ⟨VOK_ref.mpr (Nat.lt_succ_self _), hs.mono (Nat.le_succ _)⟩, Nat.le_succ _, Nat.le_succ _, Nat.le_add_right _ _, rfl⟩
set_option maxHeartbeats 2000000 in
theorem zpure_inv {i : Instr} {r : Nat × zL × zS × zH} (hI0 : zINV L xs h) (hz : zok0 k pc i nx tg aux) (hp : zpure i nx tg aux ls st h = some r) (hlk : zLOK (zn h) ls) (hsk : zSOK (zn h) st) : zGood L xs h ls r := by
  have hI := hI0.1
  have hm : ∀ a j, VOK (zn h) (zm h a j) := hI.2.2.2.2.2.2.2.2
  cases i
  case iload n =>
    obtain ⟨v, h1, h2, rfl⟩ := zp_lo hp
    exact zGood.same hI0 hlk (zSOK_cons.mpr ⟨hlk _ _ h1, hsk⟩)
  case iload_n n =>
    obtain ⟨v, h1, h2, rfl⟩ := zp_lo hp
    exact zGood.same hI0 hlk (zSOK_cons.mpr ⟨hlk _ _ h1, hsk⟩)
  case lload n =>
    obtain ⟨v, h1, h2, rfl⟩ := zp_lo hp
    exact zGood.same hI0 hlk (zSOK_cons.mpr ⟨hlk _ _ h1, hsk⟩)
  case lload_n n =>
    obtain ⟨v, h1, h2, rfl⟩ := zp_lo hp
    exact zGood.same hI0 hlk (zSOK_cons.mpr ⟨hlk _ _ h1, hsk⟩)
  case fload n =>
    obtain ⟨v, h1, h2, rfl⟩ := zp_lo hp
    exact zGood.same hI0 hlk (zSOK_cons.mpr ⟨hlk _ _ h1, hsk⟩)
  case fload_n n =>
    obtain ⟨v, h1, h2, rfl⟩ := zp_lo hp
    exact zGood.same hI0 hlk (zSOK_cons.mpr ⟨hlk _ _ h1, hsk⟩)
  case aload n =>
    obtain ⟨v, h1, h2, rfl⟩ := zp_lo hp
    exact zGood.same hI0 hlk (zSOK_cons.mpr ⟨hlk _ _ h1, hsk⟩)
  case aload_n n =>
    obtain ⟨v, h1, h2, rfl⟩ := zp_lo hp
    exact zGood.same hI0 hlk (zSOK_cons.mpr ⟨hlk _ _ h1, hsk⟩)
  case istore n =>
    obtain ⟨v, st', l', rfl, h2, h3, rfl⟩ := zp_sto hp
    rw [zSOK_cons] at hsk
    exact ⟨hI0, hlk.put hsk.1 h3, hsk.2, Nat.le_refl _, Nat.le_refl _, Nat.le_refl _, (lst_spec h3).2.1⟩
  case istore_n n =>
    obtain ⟨v, st', l', rfl, h2, h3, rfl⟩ := zp_sto hp
    rw [zSOK_cons] at hsk
    exact ⟨hI0, hlk.put hsk.1 h3, hsk.2, Nat.le_refl _, Nat.le_refl _, Nat.le_refl _, (lst_spec h3).2.1⟩
  case fstore n =>
    obtain ⟨v, st', l', rfl, h2, h3, rfl⟩ := zp_sto hp
    rw [zSOK_cons] at hsk
    exact ⟨hI0, hlk.put hsk.1 h3, hsk.2, Nat.le_refl _, Nat.le_refl _, Nat.le_refl _, (lst_spec h3).2.1⟩
  case fstore_n n =>
    obtain ⟨v, st', l', rfl, h2, h3, rfl⟩ := zp_sto hp
    rw [zSOK_cons] at hsk
    exact ⟨hI0, hlk.put hsk.1 h3, hsk.2, Nat.le_refl _, Nat.le_refl _, Nat.le_refl _, (lst_spec h3).2.1⟩
  case astore n =>
    obtain ⟨v, st', l', rfl, h2, h3, rfl⟩ := zp_sto hp
    rw [zSOK_cons] at hsk
    exact ⟨hI0, hlk.put hsk.1 h3, hsk.2, Nat.le_refl _, Nat.le_refl _, Nat.le_refl _, (lst_spec h3).2.1⟩
  case astore_n n =>
    obtain ⟨v, st', l', rfl, h2, h3, rfl⟩ := zp_sto hp
    rw [zSOK_cons] at hsk
    exact ⟨hI0, hlk.put hsk.1 h3, hsk.2, Nat.le_refl _, Nat.le_refl _, Nat.le_refl _, (lst_spec h3).2.1⟩
  case lstore n =>
    obtain ⟨v, st', l', rfl, h2, h3, rfl⟩ := zp_sto2 hp
    rw [zSOK_cons] at hsk
    exact ⟨hI0, hlk.put2 hsk.1 h3, hsk.2, Nat.le_refl _, Nat.le_refl _, Nat.le_refl _, (lst2_spec h3).2.1⟩
  case lstore_n n =>
    obtain ⟨v, st', l', rfl, h2, h3, rfl⟩ := zp_sto2 hp
    rw [zSOK_cons] at hsk
    exact ⟨hI0, hlk.put2 hsk.1 h3, hsk.2, Nat.le_refl _, Nat.le_refl _, Nat.le_refl _, (lst2_spec h3).2.1⟩
  case iconst n =>
    cases hp
    refine zGood.same hI0 hlk ?_
    first | exact hsk | (simp only [zSOK_cons, VOK_int, VOK_long, VOK_float, VOK_double, VOK_null, VOK_ref, true_and, and_true] at hsk ⊢ <;> first | exact hsk | exact hsk.2 | exact hsk.2.2 | (simp_all; done)) | (simp only [zSOK_cons, VOK_int, VOK_long, VOK_float, VOK_double, VOK_null, VOK_ref, true_and, and_true] <;> first | exact hsk | (simp_all; done))
  case lconst n =>
    cases hp
    refine zGood.same hI0 hlk ?_
    first | exact hsk | (simp only [zSOK_cons, VOK_int, VOK_long, VOK_float, VOK_double, VOK_null, VOK_ref, true_and, and_true] at hsk ⊢ <;> first | exact hsk | exact hsk.2 | exact hsk.2.2 | (simp_all; done)) | (simp only [zSOK_cons, VOK_int, VOK_long, VOK_float, VOK_double, VOK_null, VOK_ref, true_and, and_true] <;> first | exact hsk | (simp_all; done))
  case aconst_null =>
    cases hp
    refine zGood.same hI0 hlk ?_
    first | exact hsk | (simp only [zSOK_cons, VOK_int, VOK_long, VOK_float, VOK_double, VOK_null, VOK_ref, true_and, and_true] at hsk ⊢ <;> first | exact hsk | exact hsk.2 | exact hsk.2.2 | (simp_all; done)) | (simp only [zSOK_cons, VOK_int, VOK_long, VOK_float, VOK_double, VOK_null, VOK_ref, true_and, and_true] <;> first | exact hsk | (simp_all; done))
  case bipush n =>
    cases hp
    refine zGood.same hI0 hlk ?_
    first | exact hsk | (simp only [zSOK_cons, VOK_int, VOK_long, VOK_float, VOK_double, VOK_null, VOK_ref, true_and, and_true] at hsk ⊢ <;> first | exact hsk | exact hsk.2 | exact hsk.2.2 | (simp_all; done)) | (simp only [zSOK_cons, VOK_int, VOK_long, VOK_float, VOK_double, VOK_null, VOK_ref, true_and, and_true] <;> first | exact hsk | (simp_all; done))
  case sipush n =>
    cases hp
    refine zGood.same hI0 hlk ?_
    first | exact hsk | (simp only [zSOK_cons, VOK_int, VOK_long, VOK_float, VOK_double, VOK_null, VOK_ref, true_and, and_true] at hsk ⊢ <;> first | exact hsk | exact hsk.2 | exact hsk.2.2 | (simp_all; done)) | (simp only [zSOK_cons, VOK_int, VOK_long, VOK_float, VOK_double, VOK_null, VOK_ref, true_and, and_true] <;> first | exact hsk | (simp_all; done))
  case goto o =>
    cases hp
    refine zGood.same hI0 hlk ?_
    first | exact hsk | (simp only [zSOK_cons, VOK_int, VOK_long, VOK_float, VOK_double, VOK_null, VOK_ref, true_and, and_true] at hsk ⊢ <;> first | exact hsk | exact hsk.2 | exact hsk.2.2 | (simp_all; done)) | (simp only [zSOK_cons, VOK_int, VOK_long, VOK_float, VOK_double, VOK_null, VOK_ref, true_and, and_true] <;> first | exact hsk | (simp_all; done))
  case fconst n =>
    simp only [zpure] at hp
    split at hp
    · cases hp
      exact zGood.same hI0 hlk (zSOK_cons.mpr ⟨VOK_float.mpr trivial, hsk⟩)
    · split at hp <;> cases hp <;> exact zGood.same hI0 hlk (zSOK_cons.mpr ⟨VOK_float.mpr trivial, hsk⟩)
  case iadd =>
    simp only [zpure] at hp
    split at hp <;> first | contradiction | skip
    cases hp
    refine zGood.same hI0 hlk ?_
    first | exact hsk | (simp only [zSOK_cons, VOK_int, VOK_long, VOK_float, VOK_double, VOK_null, VOK_ref, true_and, and_true] at hsk ⊢ <;> first | exact hsk | exact hsk.2 | exact hsk.2.2 | (simp_all; done)) | (simp only [zSOK_cons, VOK_int, VOK_long, VOK_float, VOK_double, VOK_null, VOK_ref, true_and, and_true] <;> first | exact hsk | (simp_all; done))
  case isub =>
    simp only [zpure] at hp
    split at hp <;> first | contradiction | skip
    cases hp
    refine zGood.same hI0 hlk ?_
    first | exact hsk | (simp only [zSOK_cons, VOK_int, VOK_long, VOK_float, VOK_double, VOK_null, VOK_ref, true_and, and_true] at hsk ⊢ <;> first | exact hsk | exact hsk.2 | exact hsk.2.2 | (simp_all; done)) | (simp only [zSOK_cons, VOK_int, VOK_long, VOK_float, VOK_double, VOK_null, VOK_ref, true_and, and_true] <;> first | exact hsk | (simp_all; done))
  case imul =>
    simp only [zpure] at hp
    split at hp <;> first | contradiction | skip
    cases hp
    refine zGood.same hI0 hlk ?_
    first | exact hsk | (simp only [zSOK_cons, VOK_int, VOK_long, VOK_float, VOK_double, VOK_null, VOK_ref, true_and, and_true] at hsk ⊢ <;> first | exact hsk | exact hsk.2 | exact hsk.2.2 | (simp_all; done)) | (simp only [zSOK_cons, VOK_int, VOK_long, VOK_float, VOK_double, VOK_null, VOK_ref, true_and, and_true] <;> first | exact hsk | (simp_all; done))
  case iand =>
    simp only [zpure] at hp
    split at hp <;> first | contradiction | skip
    cases hp
    refine zGood.same hI0 hlk ?_
    first | exact hsk | (simp only [zSOK_cons, VOK_int, VOK_long, VOK_float, VOK_double, VOK_null, VOK_ref, true_and, and_true] at hsk ⊢ <;> first | exact hsk | exact hsk.2 | exact hsk.2.2 | (simp_all; done)) | (simp only [zSOK_cons, VOK_int, VOK_long, VOK_float, VOK_double, VOK_null, VOK_ref, true_and, and_true] <;> first | exact hsk | (simp_all; done))
  case ior =>
    simp only [zpure] at hp
    split at hp <;> first | contradiction | skip
    cases hp
    refine zGood.same hI0 hlk ?_
    first | exact hsk | (simp only [zSOK_cons, VOK_int, VOK_long, VOK_float, VOK_double, VOK_null, VOK_ref, true_and, and_true] at hsk ⊢ <;> first | exact hsk | exact hsk.2 | exact hsk.2.2 | (simp_all; done)) | (simp only [zSOK_cons, VOK_int, VOK_long, VOK_float, VOK_double, VOK_null, VOK_ref, true_and, and_true] <;> first | exact hsk | (simp_all; done))
  case ixor =>
    simp only [zpure] at hp
    split at hp <;> first | contradiction | skip
    cases hp
    refine zGood.same hI0 hlk ?_
    first | exact hsk | (simp only [zSOK_cons, VOK_int, VOK_long, VOK_float, VOK_double, VOK_null, VOK_ref, true_and, and_true] at hsk ⊢ <;> first | exact hsk | exact hsk.2 | exact hsk.2.2 | (simp_all; done)) | (simp only [zSOK_cons, VOK_int, VOK_long, VOK_float, VOK_double, VOK_null, VOK_ref, true_and, and_true] <;> first | exact hsk | (simp_all; done))
  case ishl =>
    simp only [zpure] at hp
    split at hp <;> first | contradiction | skip
    cases hp
    refine zGood.same hI0 hlk ?_
    first | exact hsk | (simp only [zSOK_cons, VOK_int, VOK_long, VOK_float, VOK_double, VOK_null, VOK_ref, true_and, and_true] at hsk ⊢ <;> first | exact hsk | exact hsk.2 | exact hsk.2.2 | (simp_all; done)) | (simp only [zSOK_cons, VOK_int, VOK_long, VOK_float, VOK_double, VOK_null, VOK_ref, true_and, and_true] <;> first | exact hsk | (simp_all; done))
  case ishr =>
    simp only [zpure] at hp
    split at hp <;> first | contradiction | skip
    cases hp
    refine zGood.same hI0 hlk ?_
    first | exact hsk | (simp only [zSOK_cons, VOK_int, VOK_long, VOK_float, VOK_double, VOK_null, VOK_ref, true_and, and_true] at hsk ⊢ <;> first | exact hsk | exact hsk.2 | exact hsk.2.2 | (simp_all; done)) | (simp only [zSOK_cons, VOK_int, VOK_long, VOK_float, VOK_double, VOK_null, VOK_ref, true_and, and_true] <;> first | exact hsk | (simp_all; done))
  case iushr =>
    simp only [zpure] at hp
    split at hp <;> first | contradiction | skip
    cases hp
    refine zGood.same hI0 hlk ?_
    first | exact hsk | (simp only [zSOK_cons, VOK_int, VOK_long, VOK_float, VOK_double, VOK_null, VOK_ref, true_and, and_true] at hsk ⊢ <;> first | exact hsk | exact hsk.2 | exact hsk.2.2 | (simp_all; done)) | (simp only [zSOK_cons, VOK_int, VOK_long, VOK_float, VOK_double, VOK_null, VOK_ref, true_and, and_true] <;> first | exact hsk | (simp_all; done))
  case ineg =>
    simp only [zpure] at hp
    split at hp <;> first | contradiction | skip
    cases hp
    refine zGood.same hI0 hlk ?_
    first | exact hsk | (simp only [zSOK_cons, VOK_int, VOK_long, VOK_float, VOK_double, VOK_null, VOK_ref, true_and, and_true] at hsk ⊢ <;> first | exact hsk | exact hsk.2 | exact hsk.2.2 | (simp_all; done)) | (simp only [zSOK_cons, VOK_int, VOK_long, VOK_float, VOK_double, VOK_null, VOK_ref, true_and, and_true] <;> first | exact hsk | (simp_all; done))
  case ladd =>
    simp only [zpure] at hp
    split at hp <;> first | contradiction | skip
    cases hp
    refine zGood.same hI0 hlk ?_
    first | exact hsk | (simp only [zSOK_cons, VOK_int, VOK_long, VOK_float, VOK_double, VOK_null, VOK_ref, true_and, and_true] at hsk ⊢ <;> first | exact hsk | exact hsk.2 | exact hsk.2.2 | (simp_all; done)) | (simp only [zSOK_cons, VOK_int, VOK_long, VOK_float, VOK_double, VOK_null, VOK_ref, true_and, and_true] <;> first | exact hsk | (simp_all; done))
  case lcmp =>
    simp only [zpure] at hp
    split at hp <;> first | contradiction | skip
    cases hp
    refine zGood.same hI0 hlk ?_
    first | exact hsk | (simp only [zSOK_cons, VOK_int, VOK_long, VOK_float, VOK_double, VOK_null, VOK_ref, true_and, and_true] at hsk ⊢ <;> first | exact hsk | exact hsk.2 | exact hsk.2.2 | (simp_all; done)) | (simp only [zSOK_cons, VOK_int, VOK_long, VOK_float, VOK_double, VOK_null, VOK_ref, true_and, and_true] <;> first | exact hsk | (simp_all; done))
  case lmul =>
    simp only [zpure] at hp
    split at hp <;> first | contradiction | skip
    cases hp
    refine zGood.same hI0 hlk ?_
    first | exact hsk | (simp only [zSOK_cons, VOK_int, VOK_long, VOK_float, VOK_double, VOK_null, VOK_ref, true_and, and_true] at hsk ⊢ <;> first | exact hsk | exact hsk.2 | exact hsk.2.2 | (simp_all; done)) | (simp only [zSOK_cons, VOK_int, VOK_long, VOK_float, VOK_double, VOK_null, VOK_ref, true_and, and_true] <;> first | exact hsk | (simp_all; done))
  case i2l =>
    simp only [zpure] at hp
    split at hp <;> first | contradiction | skip
    cases hp
    refine zGood.same hI0 hlk ?_
    first | exact hsk | (simp only [zSOK_cons, VOK_int, VOK_long, VOK_float, VOK_double, VOK_null, VOK_ref, true_and, and_true] at hsk ⊢ <;> first | exact hsk | exact hsk.2 | exact hsk.2.2 | (simp_all; done)) | (simp only [zSOK_cons, VOK_int, VOK_long, VOK_float, VOK_double, VOK_null, VOK_ref, true_and, and_true] <;> first | exact hsk | (simp_all; done))
  case i2b =>
    simp only [zpure] at hp
    split at hp <;> first | contradiction | skip
    cases hp
    refine zGood.same hI0 hlk ?_
    first | exact hsk | (simp only [zSOK_cons, VOK_int, VOK_long, VOK_float, VOK_double, VOK_null, VOK_ref, true_and, and_true] at hsk ⊢ <;> first | exact hsk | exact hsk.2 | exact hsk.2.2 | (simp_all; done)) | (simp only [zSOK_cons, VOK_int, VOK_long, VOK_float, VOK_double, VOK_null, VOK_ref, true_and, and_true] <;> first | exact hsk | (simp_all; done))
  case i2c =>
    simp only [zpure] at hp
    split at hp <;> first | contradiction | skip
    cases hp
    refine zGood.same hI0 hlk ?_
    first | exact hsk | (simp only [zSOK_cons, VOK_int, VOK_long, VOK_float, VOK_double, VOK_null, VOK_ref, true_and, and_true] at hsk ⊢ <;> first | exact hsk | exact hsk.2 | exact hsk.2.2 | (simp_all; done)) | (simp only [zSOK_cons, VOK_int, VOK_long, VOK_float, VOK_double, VOK_null, VOK_ref, true_and, and_true] <;> first | exact hsk | (simp_all; done))
  case i2f =>
    simp only [zpure] at hp
    split at hp <;> first | contradiction | skip
    cases hp
    refine zGood.same hI0 hlk ?_
    first | exact hsk | (simp only [zSOK_cons, VOK_int, VOK_long, VOK_float, VOK_double, VOK_null, VOK_ref, true_and, and_true] at hsk ⊢ <;> first | exact hsk | exact hsk.2 | exact hsk.2.2 | (simp_all; done)) | (simp only [zSOK_cons, VOK_int, VOK_long, VOK_float, VOK_double, VOK_null, VOK_ref, true_and, and_true] <;> first | exact hsk | (simp_all; done))
  case f2i =>
    simp only [zpure] at hp
    split at hp <;> first | contradiction | skip
    cases hp
    refine zGood.same hI0 hlk ?_
    first | exact hsk | (simp only [zSOK_cons, VOK_int, VOK_long, VOK_float, VOK_double, VOK_null, VOK_ref, true_and, and_true] at hsk ⊢ <;> first | exact hsk | exact hsk.2 | exact hsk.2.2 | (simp_all; done)) | (simp only [zSOK_cons, VOK_int, VOK_long, VOK_float, VOK_double, VOK_null, VOK_ref, true_and, and_true] <;> first | exact hsk | (simp_all; done))
  case fneg =>
    simp only [zpure] at hp
    split at hp <;> first | contradiction | skip
    cases hp
    refine zGood.same hI0 hlk ?_
    first | exact hsk | (simp only [zSOK_cons, VOK_int, VOK_long, VOK_float, VOK_double, VOK_null, VOK_ref, true_and, and_true] at hsk ⊢ <;> first | exact hsk | exact hsk.2 | exact hsk.2.2 | (simp_all; done)) | (simp only [zSOK_cons, VOK_int, VOK_long, VOK_float, VOK_double, VOK_null, VOK_ref, true_and, and_true] <;> first | exact hsk | (simp_all; done))
  case fcmp o =>
    simp only [zpure] at hp
    split at hp <;> first | contradiction | skip
    cases hp
    refine zGood.same hI0 hlk ?_
    first | exact hsk | (simp only [zSOK_cons, VOK_int, VOK_long, VOK_float, VOK_double, VOK_null, VOK_ref, true_and, and_true] at hsk ⊢ <;> first | exact hsk | exact hsk.2 | exact hsk.2.2 | (simp_all; done)) | (simp only [zSOK_cons, VOK_int, VOK_long, VOK_float, VOK_double, VOK_null, VOK_ref, true_and, and_true] <;> first | exact hsk | (simp_all; done))
  case dcmp o =>
    simp only [zpure] at hp
    split at hp <;> first | contradiction | skip
    cases hp
    refine zGood.same hI0 hlk ?_
    first | exact hsk | (simp only [zSOK_cons, VOK_int, VOK_long, VOK_float, VOK_double, VOK_null, VOK_ref, true_and, and_true] at hsk ⊢ <;> first | exact hsk | exact hsk.2 | exact hsk.2.2 | (simp_all; done)) | (simp only [zSOK_cons, VOK_int, VOK_long, VOK_float, VOK_double, VOK_null, VOK_ref, true_and, and_true] <;> first | exact hsk | (simp_all; done))
  case idiv =>
    simp only [zpure] at hp
    split at hp <;> first | contradiction | skip
    split at hp <;> first | contradiction | skip
    cases hp
    refine zGood.same hI0 hlk ?_
    first | exact hsk | (simp only [zSOK_cons, VOK_int, VOK_long, VOK_float, VOK_double, VOK_null, VOK_ref, true_and, and_true] at hsk ⊢ <;> first | exact hsk | exact hsk.2 | exact hsk.2.2 | (simp_all; done)) | (simp only [zSOK_cons, VOK_int, VOK_long, VOK_float, VOK_double, VOK_null, VOK_ref, true_and, and_true] <;> first | exact hsk | (simp_all; done))
  case irem =>
    simp only [zpure] at hp
    split at hp <;> first | contradiction | skip
    split at hp <;> first | contradiction | skip
    cases hp
    refine zGood.same hI0 hlk ?_
    first | exact hsk | (simp only [zSOK_cons, VOK_int, VOK_long, VOK_float, VOK_double, VOK_null, VOK_ref, true_and, and_true] at hsk ⊢ <;> first | exact hsk | exact hsk.2 | exact hsk.2.2 | (simp_all; done)) | (simp only [zSOK_cons, VOK_int, VOK_long, VOK_float, VOK_double, VOK_null, VOK_ref, true_and, and_true] <;> first | exact hsk | (simp_all; done))
  case fadd =>
    simp only [zpure] at hp
    split at hp <;> first | contradiction | skip
    split at hp <;> first | contradiction | skip
    cases hp
    refine zGood.same hI0 hlk ?_
    first | exact hsk | (simp only [zSOK_cons, VOK_int, VOK_long, VOK_float, VOK_double, VOK_null, VOK_ref, true_and, and_true] at hsk ⊢ <;> first | exact hsk | exact hsk.2 | exact hsk.2.2 | (simp_all; done)) | (simp only [zSOK_cons, VOK_int, VOK_long, VOK_float, VOK_double, VOK_null, VOK_ref, true_and, and_true] <;> first | exact hsk | (simp_all; done))
  case fsub =>
    simp only [zpure] at hp
    split at hp <;> first | contradiction | skip
    split at hp <;> first | contradiction | skip
    cases hp
    refine zGood.same hI0 hlk ?_
    first | exact hsk | (simp only [zSOK_cons, VOK_int, VOK_long, VOK_float, VOK_double, VOK_null, VOK_ref, true_and, and_true] at hsk ⊢ <;> first | exact hsk | exact hsk.2 | exact hsk.2.2 | (simp_all; done)) | (simp only [zSOK_cons, VOK_int, VOK_long, VOK_float, VOK_double, VOK_null, VOK_ref, true_and, and_true] <;> first | exact hsk | (simp_all; done))
  case fmul =>
    simp only [zpure] at hp
    split at hp <;> first | contradiction | skip
    split at hp <;> first | contradiction | skip
    cases hp
    refine zGood.same hI0 hlk ?_
    first | exact hsk | (simp only [zSOK_cons, VOK_int, VOK_long, VOK_float, VOK_double, VOK_null, VOK_ref, true_and, and_true] at hsk ⊢ <;> first | exact hsk | exact hsk.2 | exact hsk.2.2 | (simp_all; done)) | (simp only [zSOK_cons, VOK_int, VOK_long, VOK_float, VOK_double, VOK_null, VOK_ref, true_and, and_true] <;> first | exact hsk | (simp_all; done))
  case fdiv =>
    simp only [zpure] at hp
    split at hp <;> first | contradiction | skip
    split at hp <;> first | contradiction | skip
    cases hp
    refine zGood.same hI0 hlk ?_
    first | exact hsk | (simp only [zSOK_cons, VOK_int, VOK_long, VOK_float, VOK_double, VOK_null, VOK_ref, true_and, and_true] at hsk ⊢ <;> first | exact hsk | exact hsk.2 | exact hsk.2.2 | (simp_all; done)) | (simp only [zSOK_cons, VOK_int, VOK_long, VOK_float, VOK_double, VOK_null, VOK_ref, true_and, and_true] <;> first | exact hsk | (simp_all; done))
  case f2d =>
    simp only [zpure] at hp
    split at hp <;> first | contradiction | skip
    split at hp <;> first | contradiction | skip
    cases hp
    refine zGood.same hI0 hlk ?_
    first | exact hsk | (simp only [zSOK_cons, VOK_int, VOK_long, VOK_float, VOK_double, VOK_null, VOK_ref, true_and, and_true] at hsk ⊢ <;> first | exact hsk | exact hsk.2 | exact hsk.2.2 | (simp_all; done)) | (simp only [zSOK_cons, VOK_int, VOK_long, VOK_float, VOK_double, VOK_null, VOK_ref, true_and, and_true] <;> first | exact hsk | (simp_all; done))
  case pop =>
    simp only [zpure] at hp
    split at hp <;> first | contradiction | skip
    split at hp <;> first | contradiction | skip
    cases hp
    refine zGood.same hI0 hlk ?_
    first | exact hsk | (simp only [zSOK_cons, VOK_int, VOK_long, VOK_float, VOK_double, VOK_null, VOK_ref, true_and, and_true] at hsk ⊢ <;> first | exact hsk | exact hsk.2 | exact hsk.2.2 | (simp_all; done)) | (simp only [zSOK_cons, VOK_int, VOK_long, VOK_float, VOK_double, VOK_null, VOK_ref, true_and, and_true] <;> first | exact hsk | (simp_all; done))
  case dup =>
    simp only [zpure] at hp
    split at hp <;> first | contradiction | skip
    split at hp <;> first | contradiction | skip
    cases hp
    refine zGood.same hI0 hlk ?_
    first | exact hsk | (simp only [zSOK_cons, VOK_int, VOK_long, VOK_float, VOK_double, VOK_null, VOK_ref, true_and, and_true] at hsk ⊢ <;> first | exact hsk | exact hsk.2 | exact hsk.2.2 | (simp_all; done)) | (simp only [zSOK_cons, VOK_int, VOK_long, VOK_float, VOK_double, VOK_null, VOK_ref, true_and, and_true] <;> first | exact hsk | (simp_all; done))
  case dup_x1 =>
    simp only [zpure] at hp
    split at hp <;> first | contradiction | skip
    split at hp <;> first | contradiction | skip
    cases hp
    refine zGood.same hI0 hlk ?_
    first | exact hsk | (simp only [zSOK_cons, VOK_int, VOK_long, VOK_float, VOK_double, VOK_null, VOK_ref, true_and, and_true] at hsk ⊢ <;> first | exact hsk | exact hsk.2 | exact hsk.2.2 | (simp_all; done)) | (simp only [zSOK_cons, VOK_int, VOK_long, VOK_float, VOK_double, VOK_null, VOK_ref, true_and, and_true] <;> first | exact hsk | (simp_all; done))
  case dup2 =>
    simp only [zpure] at hp
    split at hp <;> first | contradiction | skip
    split at hp <;> first | contradiction | skip
    cases hp
    refine zGood.same hI0 hlk ?_
    first | exact hsk | (simp only [zSOK_cons, VOK_int, VOK_long, VOK_float, VOK_double, VOK_null, VOK_ref, true_and, and_true] at hsk ⊢ <;> first | exact hsk | exact hsk.2 | exact hsk.2.2 | (simp_all; done)) | (simp only [zSOK_cons, VOK_int, VOK_long, VOK_float, VOK_double, VOK_null, VOK_ref, true_and, and_true] <;> first | exact hsk | (simp_all; done))
  case ifCond cnd o =>
    simp only [zpure] at hp
    split at hp <;> first | contradiction | skip
    cases cnd <;> simp only [zat] at hp <;> split at hp <;> cases hp <;> refine zGood.same hI0 hlk ?_ <;> simp only [zSOK_cons, VOK_int, true_and] at hsk <;> exact hsk
  case if_icmp cnd o =>
    simp only [zpure] at hp
    split at hp <;> first | contradiction | skip
    cases cnd <;> simp only [zat] at hp <;> split at hp <;> cases hp <;> refine zGood.same hI0 hlk ?_ <;> simp only [zSOK_cons, VOK_int, true_and] at hsk <;> exact hsk
  case if_acmp cnd o =>
    cases cnd <;> simp only [zpure] at hp <;> split at hp <;> first | contradiction | skip
    · split at hp
      · cases hp
        exact zGood.same hI0 hlk (zSOK_cons.mp (zSOK_cons.mp hsk).2).2
      · split at hp <;> cases hp
        exact zGood.same hI0 hlk (zSOK_cons.mp (zSOK_cons.mp hsk).2).2
    · split at hp
      · cases hp
        exact zGood.same hI0 hlk (zSOK_cons.mp (zSOK_cons.mp hsk).2).2
      · split at hp <;> cases hp
        exact zGood.same hI0 hlk (zSOK_cons.mp (zSOK_cons.mp hsk).2).2
  case iinc n z =>
    simp only [zpure] at hp
    split at hp <;> first | contradiction | skip
    rename_i x hg
    cases hl : lst ls n (.int (x + Int32.ofInt z)) with
    | none => rw [hl] at hp; cases hp
    | some l' =>
      rw [hl] at hp
      cases hp
      exact ⟨hI0, hlk.put (VOK_int.mpr trivial) hl, hsk, Nat.le_refl _, Nat.le_refl _, Nat.le_refl _, (lst_spec hl).2.1⟩
  case tableswitch dflt lo hi offs =>
    simp only [zpure] at hp
    split at hp <;> first | contradiction | skip
    split at hp
    · cases hp
      exact zGood.same hI0 hlk (zSOK_cons.mp hsk).2
    · rename_i x _ _
      cases ha : aux[(x.toInt - lo).toNat]? with
      | none => simp [ha] at hp
      | some t =>
        simp only [ha, Option.map_some, Option.some.injEq] at hp
        subst hp
        exact zGood.same hI0 hlk (zSOK_cons.mp hsk).2
  case getfield n =>
    simp only [zpure] at hp
    split at hp <;> first | contradiction | skip
    split at hp <;> first | contradiction | skip
    cases hp
    exact zGood.same hI0 hlk (zSOK_cons.mpr ⟨hm _ _, (zSOK_cons.mp hsk).2⟩)
  case putfield n =>
    obtain ⟨hd, rfl, ht, ha⟩ := hz
    simp only [zpure] at hp
    split at hp <;> first | contradiction | skip
    split at hp <;> first | contradiction | skip
    rename_i hq
    cases hp
    simp only [zaux, Bool.and_eq_true] at ha
    have hF := zFTab_ok _ (List.contains_iff_mem.mp ha.1.1)
    have hci := zcl_lt hF.1
    rw [zSOK_cons, zSOK_cons] at hsk
    exact zGood.put hI0 hlk hsk.2.2 (by rw [hq.1]; exact Nat.lt_trans hci (by decide)) hsk.1
  case getstatic n =>
    simp only [zpure] at hp
    split at hp <;> first | contradiction | skip
    split at hp <;> first | contradiction | skip
    cases hp
    exact zGood.same hI0 hlk (zSOK_cons.mpr ⟨VOK_ref.mpr (by have := hI.1; omega), hsk⟩)
  case new n =>
    obtain ⟨hd, rfl, ht, ha⟩ := hz
    simp only [zpure] at hp
    split at hp <;> first | contradiction | skip
    cases hp
    simp only [zaux, Bool.and_eq_true] at ha
    have hF := zNTab_ok _ (List.contains_iff_mem.mp ha.1)
    exact zGood.new hI0 hlk hsk (Or.inl (zcl_lt hF.1)) (fun i => zdef_ok)
  case newarray t =>
    obtain ⟨hd, rfl, ht, ha⟩ := hz
    simp only [zpure] at hp
    split at hp <;> first | contradiction | skip
    split at hp <;> first | contradiction | skip
    cases hp
    rw [zSOK_cons] at hsk
    exact zGood.new hI0 hlk hsk.2 (Or.inr (by cases t <;> first | decide | (rcases ha with ha | ha <;> exact absurd ha (by decide)) | (simp [zaux] at ha))) (fun i => zdef_ok)
  case anewarray n =>
    obtain ⟨hd, rfl, ht, ha⟩ := hz
    simp only [zpure] at hp
    split at hp <;> first | contradiction | skip
    split at hp <;> first | contradiction | skip
    cases hp
    rw [zSOK_cons] at hsk
    exact zGood.new hI0 hlk hsk.2 (Or.inr (by decide)) (fun i => VOK_null.mpr trivial)
  case multianewarray n d =>
    obtain ⟨hd, rfl, ht, ha⟩ := hz
    simp only [zpure] at hp
    split at hp <;> first | contradiction | skip
    split at hp <;> first | contradiction | skip
    rename_i kd ke w z st' hn
    cases hp
    simp only [zaux, Bool.and_eq_true, Bool.or_eq_true, beq_iff_eq] at ha
    rw [zSOK_cons, zSOK_cons] at hsk
    have hkk : kd = 27 ∧ ke = 21 := ha.2
    generalize hN : z.toInt.toNat = N
    generalize hW : w.toInt.toNat = W
    have z0 : zn (znew h kd N (fun i => if i < N then .ref (zn h + 1 + i) else .null)) = zn h + 1 := rfl
    have zz : zn (znews (znew h kd N (fun i => if i < N then .ref (zn h + 1 + i) else .null)) ke W (.int 0) N) = zn h + 1 + N := rfl
    refine ⟨?_, hlk.mono (by rw [zz]; omega), zSOK_cons.mpr ⟨VOK_ref.mpr (by rw [zz]; omega), hsk.2.2.mono (by rw [zz]; omega)⟩, by rw [zz]; omega, by show h.1.2.1 ≤ h.1.2.1 + 1 + N; omega, by show h.1.2.2 ≤ h.1.2.2 + N + N * W; omega, rfl⟩
    exact zINV.multi hI0 hkk.1 hkk.2
  case arraylength =>
    simp only [zpure] at hp
    split at hp <;> first | contradiction | skip
    split at hp <;> first | contradiction | skip
    split at hp <;> first | contradiction | skip
    cases hp
    exact zGood.same hI0 hlk (zSOK_cons.mpr ⟨VOK_int.mpr trivial, (zSOK_cons.mp hsk).2⟩)
  case caload =>
    obtain ⟨j, a, st', rfl, h1, h2, rfl⟩ := zp_ald hp
    exact zGood.same hI0 hlk (zSOK_cons.mpr ⟨hm _ _, (zSOK_cons.mp (zSOK_cons.mp hsk).2).2⟩)
  case laload =>
    obtain ⟨j, a, st', rfl, h1, h2, rfl⟩ := zp_ald hp
    exact zGood.same hI0 hlk (zSOK_cons.mpr ⟨hm _ _, (zSOK_cons.mp (zSOK_cons.mp hsk).2).2⟩)
  case daload =>
    obtain ⟨j, a, st', rfl, h1, h2, rfl⟩ := zp_ald hp
    exact zGood.same hI0 hlk (zSOK_cons.mpr ⟨hm _ _, (zSOK_cons.mp (zSOK_cons.mp hsk).2).2⟩)
  case iaload =>
    simp only [zpure] at hp
    split at hp
    · split at hp <;> first | contradiction | skip
      split at hp <;> first | contradiction | skip
      cases hp
      exact zGood.same hI0 hlk (zSOK_cons.mpr ⟨hm _ _, (zSOK_cons.mp (zSOK_cons.mp hsk).2).2⟩)
    · obtain ⟨j, a, st', rfl, h1, h2, rfl⟩ := zp_ald hp
      exact zGood.same hI0 hlk (zSOK_cons.mpr ⟨hm _ _, (zSOK_cons.mp (zSOK_cons.mp hsk).2).2⟩)
  case baload =>
    simp only [zpure] at hp
    split at hp <;> first | contradiction | skip
    split at hp <;> (obtain ⟨j, a, st', e, h1, h2, rfl⟩ := zp_ald hp; cases e; exact zGood.same hI0 hlk (zSOK_cons.mpr ⟨hm _ _, (zSOK_cons.mp (zSOK_cons.mp hsk).2).2⟩))
  case aaload =>
    simp only [zpure] at hp
    split at hp <;> first | contradiction | skip
    split at hp <;> first | contradiction | skip
    obtain ⟨j, a, st', e, h1, h2, rfl⟩ := zp_ald hp
    cases e
    exact zGood.same hI0 hlk (zSOK_cons.mpr ⟨hm _ _, (zSOK_cons.mp (zSOK_cons.mp hsk).2).2⟩)
  case iastore =>
    simp only [zpure] at hp
    split at hp <;> first | contradiction | skip
    obtain ⟨q, rfl⟩ := zp_ast hp
    rw [zSOK_cons, zSOK_cons, zSOK_cons] at hsk
    exact zGood.put hI0 hlk hsk.2.2.2 (by rw [q.1]; decide) (by simp only [VOK_int, VOK_long, VOK_double])
  case castore =>
    simp only [zpure] at hp
    split at hp <;> first | contradiction | skip
    obtain ⟨q, rfl⟩ := zp_ast hp
    rw [zSOK_cons, zSOK_cons, zSOK_cons] at hsk
    exact zGood.put hI0 hlk hsk.2.2.2 (by rw [q.1]; decide) (by simp only [VOK_int, VOK_long, VOK_double])
  case lastore =>
    simp only [zpure] at hp
    split at hp <;> first | contradiction | skip
    obtain ⟨q, rfl⟩ := zp_ast hp
    rw [zSOK_cons, zSOK_cons, zSOK_cons] at hsk
    exact zGood.put hI0 hlk hsk.2.2.2 (by rw [q.1]; decide) (by simp only [VOK_int, VOK_long, VOK_double])
  case dastore =>
    simp only [zpure] at hp
    split at hp <;> first | contradiction | skip
    obtain ⟨q, rfl⟩ := zp_ast hp
    rw [zSOK_cons, zSOK_cons, zSOK_cons] at hsk
    exact zGood.put hI0 hlk hsk.2.2.2 (by rw [q.1]; decide) (by simp only [VOK_int, VOK_long, VOK_double])
  case bastore =>
    simp only [zpure] at hp
    split at hp <;> first | contradiction | skip
    split at hp
    · split at hp <;> first | contradiction | skip
      obtain ⟨q, rfl⟩ := zp_ast hp
      rw [zSOK_cons, zSOK_cons, zSOK_cons] at hsk
      exact zGood.put hI0 hlk hsk.2.2.2 (by rw [q.1]; decide) (by simp only [VOK_int, VOK_long, VOK_double])
    · obtain ⟨q, rfl⟩ := zp_ast hp
      rw [zSOK_cons, zSOK_cons, zSOK_cons] at hsk
      exact zGood.put hI0 hlk hsk.2.2.2 (by rw [q.1]; decide) (by simp only [VOK_int, VOK_long, VOK_double])
  case aastore =>
    simp only [zpure] at hp
    split at hp <;> first | contradiction | skip
    · split at hp <;> first | contradiction | skip
      obtain ⟨q, rfl⟩ := zp_ast hp
      rw [zSOK_cons, zSOK_cons, zSOK_cons] at hsk
      exact zGood.put hI0 hlk hsk.2.2.2 (by rw [q.1]; decide) hsk.1
    · obtain ⟨q, rfl⟩ := zp_ast hp
      rw [zSOK_cons, zSOK_cons, zSOK_cons] at hsk
      exact zGood.put hI0 hlk hsk.2.2.2 (by rw [q.1]; decide) hsk.1
  case checkcast n =>
    simp only [zpure] at hp
    split at hp <;> first | contradiction | skip
    split at hp <;> first | contradiction | skip
    cases hp
    exact zGood.same hI0 hlk hsk
  case ldc n =>
    simp only [zpure] at hp
    split at hp <;> first | contradiction | skip
    · cases hp
      exact zGood.same hI0 hlk (zSOK_cons.mpr ⟨VOK_int.mpr trivial, hsk⟩)
    · cases hp
      exact zGood.same hI0 hlk (zSOK_cons.mpr ⟨VOK_float.mpr trivial, hsk⟩)
    · cases hp
      exact zGood.same hI0 hlk (zSOK_cons.mpr ⟨VOK_ref.mpr (by have := hI.1; omega), hsk⟩)
    · split at hp <;> first | contradiction | skip
      split at hp <;> first | contradiction | skip
      cases hp
      exact zGood.same hI0 hlk (zSOK_cons.mpr ⟨VOK_int.mpr trivial, hsk⟩)
  case ldc2_w n =>
    simp only [zpure] at hp
    split at hp <;> first | contradiction | skip
    cases hp
    exact zGood.same hI0 hlk (zSOK_cons.mpr ⟨VOK_long.mpr trivial, hsk⟩)
  case ldc_w n =>
    simp only [zpure] at hp
    split at hp <;> first | contradiction | skip
    · cases hp
      exact zGood.same hI0 hlk (zSOK_cons.mpr ⟨VOK_int.mpr trivial, hsk⟩)
    · cases hp
      exact zGood.same hI0 hlk (zSOK_cons.mpr ⟨VOK_float.mpr trivial, hsk⟩)
  case invokespecial n =>
    simp only [zpure] at hp
    split at hp <;> first | contradiction | skip
    split at hp <;> first | contradiction | skip
    cases hp
    exact zGood.same hI0 hlk (zSOK_cons.mp hsk).2
  case invokestatic n =>
    simp only [zpure, zint] at hp
    split at hp <;> first | contradiction | skip
    · split at hp <;> first | contradiction | skip
      cases hp
      exact zGood.same hI0 hlk (zSOK_cons.mpr ⟨VOK_int.mpr trivial, (zSOK_cons.mp (zSOK_cons.mp hsk).2).2⟩)
    · split at hp <;> first | contradiction | skip
      cases hp
      exact zGood.same hI0 hlk (zSOK_cons.mpr ⟨VOK_int.mpr trivial, (zSOK_cons.mp (zSOK_cons.mp hsk).2).2⟩)
    · split at hp <;> first | contradiction | skip
      cases hp
      exact zGood.same hI0 hlk (zSOK_cons.mpr ⟨VOK_int.mpr trivial, (zSOK_cons.mp hsk).2⟩)
    · split at hp <;> first | contradiction | skip
      rename_i q
      cases hp
      simp only [zSOK_cons] at hsk
      refine ⟨hI0.fil (by rw [q.2.2.1]; decide) (fun j => ?_), hlk, hsk.2.2.2.2.2, Nat.le_refl _, Nat.le_refl _, Nat.le_refl _, rfl⟩
      split
      · exact hm _ _
      · exact hm _ _
    · split at hp <;> first | contradiction | skip
      cases hp
      exact zGood.same hI0 hlk (zSOK_cons.mpr ⟨VOK_int.mpr trivial, (zSOK_cons.mp hsk).2⟩)
    · split at hp <;> first | contradiction | skip
      cases hp
      exact zGood.same hI0 hlk (zSOK_cons.mpr ⟨VOK_float.mpr trivial, (zSOK_cons.mp hsk).2⟩)
    · split at hp <;> first | contradiction | skip
      cases hp
      exact zGood.same hI0 hlk (zSOK_cons.mpr ⟨VOK_float.mpr trivial, (zSOK_cons.mp hsk).2⟩)
  case invokevirtual n =>
    simp only [zpure, zinv] at hp
    split at hp <;> first | contradiction | skip
    split at hp <;> first | contradiction | skip
    cases hp
    exact zGood.same hI0 hlk (zSOK_cons.mpr ⟨VOK_ref.mpr (by have := hI.1; omega), (zSOK_cons.mp hsk).2⟩)
  all_goals (simp only [zpure] at hp; contradiction)
end ZB

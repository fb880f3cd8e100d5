/-! what holds of the cells holds behind every run -/
def zxG (L : Nat) (xs : Nat → Int32) (h : zH) (q : zR × zH) : Prop := zINV L xs q.2 ∧ zn h ≤ zn q.2 ∧ zuc h ≤ zuc q.2 ∧ zus h ≤ zus q.2 ∧ ∀ v, q.1 = .inl (some v) → VOK (zn q.2) v
theorem zxG.tr {L : Nat} {xs : Nat → Int32} {h h1 : zH} {q : zR × zH} (h2 : zn h ≤ zn h1) (h3 : zuc h ≤ zuc h1) (h4 : zus h ≤ zus h1) (hq : zxG L xs h1 q) : zxG L xs h q := ⟨hq.1, Nat.le_trans h2 hq.2.1, Nat.le_trans h3 hq.2.2.1, Nat.le_trans h4 hq.2.2.2.1, hq.2.2.2.2⟩
theorem zSOK_take {n j : Nat} {st : zS} (h : zSOK n st) : zSOK n (st.take j).reverse := fun v hv => h v (List.mem_of_mem_take (List.mem_reverse.mp hv))
theorem zSOK_drop {n j : Nat} {st : zS} (h : zSOK n st) : zSOK n (st.drop j) := fun v hv => h v (List.mem_of_mem_drop hv)
theorem ztake_ok {n : Nat} {st : zS} {ar : List Value × zS} (h : ztake n st = some ar) : n ≤ st.length ∧ (st.take n).all zc1 = true ∧ (st.drop n).length ≤ 4 ∧ ar = ((st.take n).reverse, st.drop n) := by
  unfold ztake at h
  split at h
  · rename_i q
    cases h
    exact ⟨q.1, q.2.1, q.2.2, rfl⟩
  · cases h
theorem zentry_get : ∀ {n : Nat} {as : List Value} {i : Nat} {v : Value}, lget (zentry n as) i = some v → as[i]? = some v
  | 0, _, _, _, h => nomatch h
  | n + 1, [], 0, _, h => nomatch h
  | n + 1, [], i + 1, v, h => by
    have := zentry_get (n := n) (as := []) (i := i) h
    simp at this
  | n + 1, a :: r, 0, v, h => by
    cases h
    rfl
  | n + 1, a :: r, i + 1, v, h => by
    have := zentry_get (n := n) (as := r) (i := i) h
    simpa using this
theorem zentry_len : ∀ (n : Nat) (as : List Value), (zentry n as).length = n
  | 0, _ => rfl
  | n + 1, [] => by simp [zentry, zentry_len n []]
  | n + 1, a :: r => by simp [zentry, zentry_len n r]
theorem zLOK_entry {n m : Nat} {as : List Value} (h : zSOK m as) : zLOK m (zentry n as) := fun _ v hv => h v (List.mem_of_getElem? (zentry_get hv))
theorem zLOK_clr {n i : Nat} {ls : zL} (h : zLOK n ls) : zLOK n (lclr ls i) := fun j v hv => h j v (lclr_get hv).1
theorem zok_callee {k pc : Nat} {i : Instr} {nx tg : Nat} {aux : List Nat} (h : zok k pc (2, i, nx, tg, aux)) : zrl (aux.getD 0 0) = true := by
  rcases aux with _ | ⟨j, _ | ⟨n, _ | ⟨ml, _ | ⟨rk, _ | ⟨t2, r⟩⟩⟩⟩⟩
  · exact False.elim h
  · exact False.elim h
  · exact False.elim h
  · exact False.elim h
  · exact (show zok2 k pc i nx j n ml rk from h).2.2.2.2.2.1.1
  · exact False.elim h
theorem zx_inv (hcode : ∀ k pc e, zrl k = true → codeT k pc = some e → zok k pc e) {L : Nat} {xs : Nat → Int32} : ∀ (k pc : Nat) (ls : zL) (st : zS) (h : zH) (q : zR × zH), zx k pc ls st h = some q → zrl k = true → zINV L xs h → zLOK (zn h) ls → zSOK (zn h) st → zxG L xs h q := by
  refine zx.partial_correctness (fun k pc ls st h q => zrl k = true → zINV L xs h → zLOK (zn h) ls → zSOK (zn h) st → zxG L xs h q) ?_
  intro f ih k pc ls st h q hq hrl hI hl hs
  split at hq
  · cases hq
  · rename_i i nx tg aux hc
    cases hp : zpure i nx tg aux ls st h with
    | none => rw [hp] at hq; cases hq
    | some r =>
      rw [hp] at hq
      have g := zpure_inv hI (hcode k pc _ hrl hc) hp hl hs
      exact zxG.tr g.2.2.2.1 g.2.2.2.2.1 g.2.2.2.2.2.1 (ih _ _ _ _ _ _ hq hrl g.1 g.2.1 g.2.2.1)
  · rename_i i nx tg aux hc
    unfold zret at hq
    split at hq
    · split at hq
      · cases hq
        exact ⟨hI, Nat.le_refl _, Nat.le_refl _, Nat.le_refl _, fun v hv => nomatch hv⟩
      · cases hq
    · split at hq
      · cases hq
        exact ⟨hI, Nat.le_refl _, Nat.le_refl _, Nat.le_refl _, fun v hv => by cases hv; exact hs _ List.mem_cons_self⟩
      · cases hq
    · cases hq
  · rename_i i nx tg aux hc
    cases ht : ztake (aux.getD 1 0) st with
    | none => rw [ht] at hq; cases hq
    | some ar =>
      rw [ht] at hq
      dsimp only at hq
      obtain ⟨-, -, -, rfl⟩ := ztake_ok ht
      split at hq
      · simp only [Option.bind_eq_bind, Option.bind_eq_some_iff] at hq
        obtain ⟨q1, hq1, hq2⟩ := hq
        have g := ih _ _ _ _ _ _ hq1 (zok_callee (hcode k pc _ hrl hc)) hI (zLOK_entry (zSOK_take hs)) (zSOK_nil.mpr trivial)
        have hl1 : zLOK (zn q1.2) ls := hl.mono g.2.1
        have hs1 : zSOK (zn q1.2) (st.drop (aux.getD 1 0)) := (zSOK_drop hs).mono g.2.1
        refine zxG.tr g.2.1 g.2.2.1 g.2.2.2.1 ?_
        split at hq2
        · exact ih _ _ _ _ _ _ hq2 hrl g.1 hl1 hs1
        · rename_i v hv
          exact ih _ _ _ _ _ _ hq2 hrl g.1 hl1 (zSOK_cons.mpr ⟨g.2.2.2.2 v hv, hs1⟩)
        · split at hq2
          · split at hq2
            · cases hq2
            · cases hq2
              exact ⟨g.1, Nat.le_refl _, Nat.le_refl _, Nat.le_refl _, fun v hv => nomatch hv⟩
          · exact ih _ _ _ _ _ _ hq2 hrl g.1 (zLOK_clr hl1) (zSOK_nil.mpr trivial)
      · cases hq
  · rename_i i nx tg aux hc
    split at hq
    · cases hq
      exact ⟨hI.chg, Nat.le_refl _, Nat.le_add_right _ _, Nat.le_add_right _ _, fun v hv => nomatch hv⟩
    · cases hq
  · cases hq

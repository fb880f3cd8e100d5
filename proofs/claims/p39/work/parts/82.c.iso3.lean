/-! .. a run -/
def rsg (d : Nat) (r : zR) : zR := match r with
  | .inl o => .inl (o.map (vmap (sg d)))
  | .inr e => .inr e
theorem zx_sw {d a0 b0 : Nat} : ∀ (k pc : Nat) (ls : zL) (st : zS) (h : zH) (q : zR × zH), zx k pc ls st h = some q → ∀ h', SW d a0 b0 h h' → NGl ls → NGs st → ∃ h2', zx k pc (lsg d ls) (st.map (vmap (sg d))) h' = some (rsg d q.1, h2') ∧ SW d a0 b0 q.2 h2' ∧ ∀ v, q.1 = .inl (some v) → NGv v := by
  refine zx.partial_correctness (fun k pc ls st h q => ∀ h', SW d a0 b0 h h' → NGl ls → NGs st → ∃ h2', zx k pc (lsg d ls) (st.map (vmap (sg d))) h' = some (rsg d q.1, h2') ∧ SW d a0 b0 q.2 h2' ∧ ∀ v, q.1 = .inl (some v) → NGv v) ?_
  intro f ih k pc ls st h q hq h' R hl hs
  split at hq
  · cases hq
  · rename_i i nx tg aux hc
    cases hp : zpure i nx tg aux ls st h with
    | none => rw [hp] at hq; cases hq
    | some r =>
      rw [hp] at hq
      obtain ⟨h1', e1, R1, l1, s1⟩ := zpure_sw R hl hs hp
      obtain ⟨h2', e2, R2, v2⟩ := ih _ _ _ _ _ _ hq h1' R1 l1 s1
      refine ⟨h2', ?_, R2, v2⟩
      rw [zx, hc]
      simp only [e1]
      exact e2
  · rename_i i nx tg aux hc
    unfold zret at hq
    split at hq
    · split at hq
      · rename_i q1
        cases hq
        refine ⟨h', ?_, R, fun v hv => nomatch hv⟩
        rw [zx, hc]
        show zret (aux.getD 0 9) [] h' = _
        unfold zret
        rw [if_pos q1]
        rfl
      · cases hq
    · rename_i v
      split at hq
      · rename_i q1
        cases hq
        refine ⟨h', ?_, R, fun w hw => by cases hw; exact (NGs_cons.mp hs).1⟩
        rw [zx, hc]
        show (if aux.getD 0 9 ≠ 8 ∧ zfit (aux.getD 0 9) (vmap (sg d) v) = true then some (Sum.inl (some (vmap (sg d) v)), h') else none) = _
        rw [if_pos ⟨q1.1, by rw [zfit_sg]; exact q1.2⟩]
        rfl
      · cases hq
    · cases hq
  · rename_i i nx tg aux hc
    cases ht : ztake (aux.getD 1 0) st with
    | none => rw [ht] at hq; cases hq
    | some ar =>
      rw [ht] at hq
      dsimp only at hq
      obtain ⟨t1, t2, t3, rfl⟩ := ztake_ok ht
      have hs1 : NGs (st.take (aux.getD 1 0)).reverse := fun v hv => hs v (List.mem_of_mem_take (List.mem_reverse.mp hv))
      have hs2 : NGs (st.drop (aux.getD 1 0)) := fun v hv => hs v (List.mem_of_mem_drop hv)
      have e0 : ztake (aux.getD 1 0) (st.map (vmap (sg d))) = some (((st.take (aux.getD 1 0)).reverse).map (vmap (sg d)), (st.drop (aux.getD 1 0)).map (vmap (sg d))) := by
        unfold ztake
        rw [if_pos ⟨by rw [List.length_map]; exact t1, by rw [← List.map_take, zall_sg]; exact t2, by rw [← List.map_drop, List.length_map]; exact t3⟩, ← List.map_take, ← List.map_drop, List.map_reverse]
      split at hq
      · rename_i hr
        have hr' : zrcv (aux.getD 3 0) (((st.take (aux.getD 1 0)).reverse).map (vmap (sg d))) h' = true := by
          dsimp only at hr
          generalize (st.take (aux.getD 1 0)).reverse = as at hr hs1 ⊢
          generalize aux.getD 3 0 = rk at hr ⊢
          unfold zrcv at hr ⊢
          split at hr
          · rfl
          · cases as with
            | nil => cases hr
            | cons v as =>
              cases v with
              | ref a =>
                show (_ == 99 || zk h' (sg d a) == _) = true
                rw [(R.at (NGv_ref.mp (NGs_cons.mp hs1).1)).1]
                exact hr
              | _ => cases hr
        simp only [Option.bind_eq_bind, Option.bind_eq_some_iff] at hq
        obtain ⟨q1, hq1, hq2⟩ := hq
        obtain ⟨h1', e1, R1, v1⟩ := ih _ _ _ _ _ _ hq1 h' R (fun i v hv => hs1 v (List.mem_of_getElem? (zentry_get hv))) (NGs_nil.mpr trivial)
        rw [← zentry_sg] at e1
        have e1 : zx (aux.getD 0 0) 0 (zentry (aux.getD 2 0) (((st.take (aux.getD 1 0)).reverse).map (vmap (sg d)))) [] h' = some (rsg d q1.1, h1') := e1
        obtain ⟨r1, h1⟩ := q1
        dsimp only at hq2 e1 R1 v1
        rcases r1 with (_ | v) | x
        · dsimp only at hq2
          obtain ⟨h2', e2, R2, v2⟩ := ih _ _ _ _ _ _ hq2 h1' R1 hl hs2
          refine ⟨h2', ?_, R2, v2⟩
          rw [zx, hc]
          simp only [e0, hr', if_true, e1, Option.bind_eq_bind, Option.bind_some, rsg, Option.map_none]
          exact e2
        · dsimp only at hq2
          obtain ⟨h2', e2, R2, v2⟩ := ih _ _ _ _ _ _ hq2 h1' R1 hl (NGs_cons.mpr ⟨v1 v rfl, hs2⟩)
          refine ⟨h2', ?_, R2, v2⟩
          rw [zx, hc]
          simp only [e0, hr', if_true, e1, Option.bind_eq_bind, Option.bind_some, rsg, Option.map_some]
          exact e2
        · dsimp only at hq2
          split at hq2
          · rename_i ht9
            split at hq2
            · cases hq2
            · rename_i hnh
              cases hq2
              refine ⟨h1', ?_, R1, fun v hv => nomatch hv⟩
              rw [zx, hc]
              simp only [e0, hr', if_true, e1, Option.bind_eq_bind, Option.bind_some, rsg, ht9, hnh, Bool.false_eq_true, if_false]
          · rename_i t9 ht9
            obtain ⟨h2', e2, R2, v2⟩ := ih _ _ _ _ _ _ hq2 h1' R1 (fun j v hv => hl j v (lclr_get hv).1) (NGs_nil.mpr trivial)
            refine ⟨h2', ?_, R2, v2⟩
            rw [zx, hc]
            simp only [e0, hr', if_true, e1, Option.bind_eq_bind, Option.bind_some, rsg, ht9, lclr_sg]
            exact e2
      · cases hq
  · rename_i i nx tg aux hc
    split at hq
    · rename_i q1
      cases hq
      refine ⟨zchg h' 1 6, ?_, R.chg, fun v hv => nomatch hv⟩
      rw [zx, hc]
      show (if (st.map (vmap (sg d))).length ≤ 4 ∧ zhas k = false then some (Sum.inr (aux.getD 0 9), zchg h' 1 6) else none) = _
      rw [if_pos (by rw [List.length_map]; exact q1)]
      rfl
    · cases hq
  · cases hq

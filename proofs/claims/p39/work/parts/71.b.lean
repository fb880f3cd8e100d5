/-! overruns -/
theorem mSoT_v {D : zD} {x s : Int} : mSoT D x s = 0 ∨ mSoT D x s = 1 ∨ mSoT D x s = 2 := by
  unfold mSoT
  split
  · split <;> omega
  · omega
set_option maxRecDepth 20000 in
theorem s49 {x s : Int} {c : Nat} {h : zH} {X D : zD} (p : Inv c h X D) (hc : c < 600) (hr : iR x) (hl : iR s) : (mSoT D x s = 0 ∧ ∃ (v : Int) (h1 : zH) (X1 D1 D9 : zD), (zc 49 5 [.ref 3, .int (Int32.ofInt x), .int (Int32.ofInt s)] (zV (zU h X) D)) = some (.inl (some (.int (Int32.ofInt v))), zV (zU h1 X1) D1) ∧ (-(12 * (c : Int)) ≤ v ∧ v ≤ 100000) ∧ (∀ a i, a < 32 → D9 a i = D1 a i) ∧ Inv (c + 1) h1 X1 D9 ∧ ∀ i, D9 39 i = D 39 i) ∨ cE (zc 49 5 [.ref 3, .int (Int32.ofInt x), .int (Int32.ofInt s)] (zV (zU h X) D)) (mSoT D x s) 1 2 h X D ∨ cE (zc 49 5 [.ref 3, .int (Int32.ofInt x), .int (Int32.ofInt s)] (zV (zU h X) D)) (mSoT D x s) 2 0 h X D := by
  by_cases g0 : mSoT D x s = 0
  · have hx : (0 ≤ x ∧ x ≤ D 32 15 - 1) ∧ (0 ≤ s ∧ s ≤ 900) := by
      unfold mSoT at g0
      by_cases g : 0 ≤ x ∧ x ≤ D 32 15 - 1
      · rw [if_pos g] at g0
        by_cases g2 : 0 ≤ s ∧ s ≤ 900
        · exact ⟨g, g2⟩
        · rw [if_neg g2] at g0
          omega
      · rw [if_neg g] at g0
        omega
    obtain ⟨hx, hs⟩ := hx
    have e87 : zc 87 2 [.ref 3, .int (Int32.ofInt x)] (zV (zU h X) D) = some (.inl (some (.ref (lsE X 5 x.toNat))), zV (zU h X) D) := by
      rcases c87 p hr with ⟨-, e⟩ | ⟨e, -⟩
      · exact e
      · unfold qEv at e
        rw [if_pos hx] at e
        omega
    have hS := p.2.1.2.1
    have hO := p.2.1.1
    obtain ⟨k1, k2, k3⟩ := hS.K (e := x.toNat) (by omega)
    have y4 := (hS.2.2 x.toNat (by omega)).2.2.2
    have h15 := p.1.1.2.1
    have h15b := h15.1
    have b42 := (h15.2.1 x.toNat (by omega)).2.1
    have e49 : cV (zc 49 5 [.ref 3, .int (Int32.ofInt x), .int (Int32.ofInt s)] (zV (zU h X) D)) 0 (D 42 x.toNat) h (zwr X (lsE X 5 x.toNat) 4 s) (zwr D 3 6 0) := by
      refine ⟨rfl, ?_⟩
      rw [zc]
      clear p hO hS
      generalize lsE X 5 x.toNat = a at *
      simp (disch := first | omega | (simp (disch := omega) only [zwr_s, zwr_a, zwr_i, zn_put, zn_new, zn_fil, zn_chg, zV_n]; omega)) only [zentry, zs0, zs1, zs2, zs3, zg_lo, zg_st, zg_st2, zg_ald, zg_ast, zs_ia, zs_i0, zcs, zg_ii, zi_max, zi_min, zi_abi, zi_abf, zi_fb, zi_bf, lget, lst, lst2, lc2, Option.map_some, zso, if_true, if_false, zc1, and_true, true_and, and_self, List.length_nil, List.length_cons, Nat.zero_le, reduceIte, reduceCtorEq, false_and, and_false, Bool.false_eq_true, zca_some, zr0, zr100, Option.bind_some, zb_none, zb_some, zrc, or_true, true_or, eq_self, ne_eq, not_true_eq_false, not_false_eq_true, zrt_i, zrt_zb, zrt_b, zrt_c, zrt_l, zrt_f, zrt_r, zrt_n, zrt_v, zft_0, zft_1, zft_zb, zft_3, zft_4, zft_5, zft_7r, zft_7n, iI_t, zb_i, zb_0, zb_1, Nat.reduceAdd, Nat.reduceLeDiff, Nat.reduceEqDiff, Nat.reduceSub, Int.reduceNeg, iI_add, iI_sub, iI_mul, iI_neg, iI_n, zbz, zchar_id, zin, zwr_s, zwr_a, zwr_i, if_pos, if_neg, Int.toNat_natCast, Int.natCast_zero, Int.reduceToNat, z49, zc3, zuE k1 k3, e87, y4, zt2]
    have d : ∀ a i, a ≠ 3 → a ≠ 68 → zwr (zwr D 3 6 0) 68 0 (D 42 x.toNat) a i = D a i := fun a i q1 q2 => by rw [zwr_a q2, zwr_a q1]
    have em := m118 (e := x) (s := s) (h := zU h (zwr X (lsE X 5 x.toNat) 4 s)) (D := zwr (zwr D 3 6 0) 68 0 (D 42 x.toNat)) hr hl (by rw [d 32 15 (by omega) (by omega)]; exact h15b)
    have g1 : mSoT (zwr (zwr D 3 6 0) 68 0 (D 42 x.toNat)) x s = 0 := by
      unfold mSoT
      rw [d 32 15 (by omega) (by omega)]
      exact g0
    unfold mSo at em
    rw [if_pos g1, if_pos g1, d 42 _ (by omega) (by omega)] at em
    have dd : ∀ a i, a ≠ 3 → a ≠ 68 → ¬ (a = 32 ∧ i = 32) → ¬ (a = 42 ∧ i = x.toNat) → zwr (zwr (zwr (zwr D 3 6 0) 68 0 (D 42 x.toNat)) 32 32 0) 42 x.toNat s a i = D a i := fun a i q1 q2 q3 q4 => by rw [zwr_e, if_neg q4, zwr_e, if_neg q3]; exact d a i q1 q2
    have d42 : ∀ i, zwr (zwr (zwr (zwr D 3 6 0) 68 0 (D 42 x.toNat)) 32 32 0) 42 x.toNat s 42 i = if i = x.toNat then s else D 42 i := fun i => by
      by_cases g : i = x.toNat
      · rw [if_pos g, g, zwr_s]
      · rw [if_neg g]
        exact dd 42 i (by omega) (by omega) (by omega) (by omega)
    have d3 : ∀ i, i ≠ 6 → zwr (zwr (zwr (zwr D 3 6 0) 68 0 (D 42 x.toNat)) 32 32 0) 42 x.toNat s 3 i = D 3 i := fun i q => by rw [zwr_a (by omega), zwr_a (by omega), zwr_a (by omega), zwr_i q]
    have d36 : zwr (zwr (zwr (zwr D 3 6 0) 68 0 (D 42 x.toNat)) 32 32 0) 42 x.toNat s 3 6 = 0 := by rw [zwr_a (by omega), zwr_a (by omega), zwr_a (by omega), zwr_s]
    have d68 : zwr (zwr (zwr (zwr D 3 6 0) 68 0 (D 42 x.toNat)) 32 32 0) 42 x.toNat s 68 0 = D 42 x.toNat := by rw [zwr_a (by omega), zwr_a (by omega), zwr_s]
    have d32 : zwr (zwr (zwr (zwr D 3 6 0) 68 0 (D 42 x.toNat)) 32 32 0) 42 x.toNat s 32 32 = 0 := by rw [zwr_a (by omega), zwr_s]
    generalize zwr (zwr (zwr (zwr D 3 6 0) 68 0 (D 42 x.toNat)) 32 32 0) 42 x.toNat s = D9 at *
    have mx : mX h X (zwr X (lsE X 5 x.toNat) 4 s) := fun b i q1 q2 => by
      rw [zwr_e, if_neg]
      rintro ⟨w1, w2⟩
      have := q2 (by rw [w1]; exact k3)
      omega
    obtain ⟨l41, l42⟩ := lsO_b hO.1 mx.ob
    obtain ⟨l51, l52⟩ := lsO_b hS.1 mx.ob
    have f7 := dd 32 7 (by omega) (by omega) (by omega) (by omega)
    have f15 := dd 32 15 (by omega) (by omega) (by omega) (by omega)
    refine Or.inl ⟨g0, D 42 x.toNat, h, _, _, D9, e49.2, ⟨by omega, by omega⟩, fun a i w => ?_, ?_, fun i => dd 39 i (by omega) (by omega) (by omega) (by omega)⟩
    · by_cases w1 : a = 3
      · subst w1
        by_cases w2 : i = 6
        · rw [w2, d36, zwr_s]
        · rw [d3 i w2, zwr_i w2]
      · rw [dd a i w1 (by omega) (by omega) (by omega), zwr_a w1]
    refine p.mu hc (fun a i q1 q2 => ?_) (fun a i q => dd a i (by omega) (by omega) (by omega) (by omega)) ?_ ⟨by rw [f15]; exact h15.1, fun e he => ?_⟩ (fun e he => ?_) (fun i => ?_) (fun i => ?_) ⟨by rw [f7]; exact l41, fun i hi => ?_⟩ ⟨by rw [f15]; exact l51, fun i j hi hj => ?_, fun e he => ?_⟩ ?_ (Or.inl d36) ⟨p.2.2.2.2.2.1, by omega, by omega⟩
    · by_cases g3 : a = 3
      · subst g3
        exact d3 i (by omega)
      · exact dd a i g3 (by omega) (by omega) (by omega)
    · unfold mLst
      rw [dd 32 27 (by omega) (by omega) (by omega) (by omega)]
      exact p.1.1.2.2.1
    · rw [f15] at he
      rw [dd 40 e (by omega) (by omega) (by omega) (by omega), dd 41 e (by omega) (by omega) (by omega) (by omega), d42, dd 43 e (by omega) (by omega) (by omega) (by omega), f7]
      obtain ⟨z1, z2, z3⟩ := h15.2.1 e he
      refine ⟨z1, ?_, z3⟩
      split <;> omega
    · rw [f15] at he
      have q := p.1.2.1 e he
      have r : ∀ i, D9 (45 + e) i = D (45 + e) i := fun i => dd _ _ (by omega) (by omega) (by omega) (by omega)
      rw [dd 57 e (by omega) (by omega) (by omega) (by omega)]
      refine ⟨q.1, fun k hk => ?_⟩
      rw [r, r, r]
      exact q.2 k hk
    · rw [dd 43 i (by omega) (by omega) (by omega) (by omega)]
      exact p.1.2.2.1 i
    · have := (p.1.2.2.2.2 i).1
      rw [dd 35 i (by omega) (by omega) (by omega) (by omega)]
      omega
    · rw [f7] at hi
      have hk := (hO.K hi).2.2
      have hne : lsE X 4 i ≠ lsE X 5 x.toNat := fun w => by rw [w] at hk; omega
      rw [l42 i hi, zwr_a hne, zwr_a hne, zwr_a hne, zwr_a hne, zwr_a hne, zwr_a hne, zwr_a hne, zwr_a hne, dd 35 i (by omega) (by omega) (by omega) (by omega), dd 38 i (by omega) (by omega) (by omega) (by omega), dd 33 i (by omega) (by omega) (by omega) (by omega), dd 34 i (by omega) (by omega) (by omega) (by omega), dd 36 i (by omega) (by omega) (by omega) (by omega), dd 37 i (by omega) (by omega) (by omega) (by omega), dd 39 i (by omega) (by omega) (by omega) (by omega)]
      exact hO.2 i hi
    · rw [f15] at hi hj
      rw [l52 i hi, l52 j hj]
      exact hS.2.1 i j hi hj
    · rw [f15] at he
      have hv := p.vE e he
      obtain ⟨z0, z1, z2, z4⟩ := hS.2.2 e he
      rw [l52 e he, dd 40 e (by omega) (by omega) (by omega) (by omega), dd 41 e (by omega) (by omega) (by omega) (by omega), d42, dd 43 e (by omega) (by omega) (by omega) (by omega), l42 _ (by omega)]
      by_cases g : e = x.toNat
      · subst g
        rw [zwr_i (by omega), zwr_i (by omega), zwr_i (by omega), zwr_s, if_pos rfl]
        exact ⟨z0, z1, z2, rfl⟩
      · have hne : lsE X 5 e ≠ lsE X 5 x.toNat := fun w => g (hS.2.1 e _ he (by omega) w)
        rw [zwr_a hne, zwr_a hne, zwr_a hne, zwr_a hne, if_neg g]
        exact ⟨z0, z1, z2, z4⟩
    · have v := p.2.1.2.2.x mx p.2.1.2.1
      intro e he
      rw [f15] at he
      have r : ∀ i, D9 (45 + e) i = D (45 + e) i := fun i => dd _ _ (by omega) (by omega) (by omega) (by omega)
      rw [dd 57 e (by omega) (by omega) (by omega) (by omega)]
      refine ⟨(v e he).1, fun k hk => ?_⟩
      rw [r, r, r]
      exact (v e he).2 k hk
  · have hw : cE (zc 49 5 [.ref 3, .int (Int32.ofInt x), .int (Int32.ofInt s)] (zV (zU h X) D)) (mSoT D x s) 1 2 h X D ∨ cE (zc 49 5 [.ref 3, .int (Int32.ofInt x), .int (Int32.ofInt s)] (zV (zU h X) D)) (mSoT D x s) 2 0 h X D := by
      rcases c87 p hr with ⟨e0, e⟩ | ⟨e0, e⟩
      · refine Or.inr ?_
        have h2 : mSoT D x s = 2 ∧ ¬ (0 ≤ s ∧ s ≤ 900) := by
          unfold qEv at e0
          unfold mSoT at g0 ⊢
          by_cases g : 0 ≤ x ∧ x ≤ D 32 15 - 1
          · rw [if_pos g] at g0 ⊢
            by_cases g2 : 0 ≤ s ∧ s ≤ 900
            · rw [if_pos g2] at g0
              omega
            · rw [if_neg g2]
              exact ⟨rfl, g2⟩
          · rw [if_neg g] at e0
            omega
        refine ⟨h2.1, ?_⟩
        have h2 := h2.2
        rw [zc]
        clear p g0
        generalize lsE X 5 x.toNat = a at *
        by_cases g3 : s < 0
        · simp (disch := first | omega | (simp (disch := omega) only [zwr_s, zwr_a, zwr_i, zn_put, zn_new, zn_fil, zn_chg, zV_n]; omega)) only [zentry, zs0, zs1, zs2, zs3, zg_lo, zg_st, zg_st2, zg_ald, zg_ast, zs_ia, zs_i0, zcs, zg_ii, zi_max, zi_min, zi_abi, zi_abf, zi_fb, zi_bf, lget, lst, lst2, lc2, Option.map_some, zso, if_true, if_false, zc1, and_true, true_and, and_self, List.length_nil, List.length_cons, Nat.zero_le, reduceIte, reduceCtorEq, false_and, and_false, Bool.false_eq_true, zca_some, zr0, zr100, Option.bind_some, zb_none, zb_some, zrc, or_true, true_or, eq_self, ne_eq, not_true_eq_false, not_false_eq_true, zrt_i, zrt_zb, zrt_b, zrt_c, zrt_l, zrt_f, zrt_r, zrt_n, zrt_v, zft_0, zft_1, zft_zb, zft_3, zft_4, zft_5, zft_7r, zft_7n, iI_t, zb_i, zb_0, zb_1, Nat.reduceAdd, Nat.reduceLeDiff, Nat.reduceEqDiff, Nat.reduceSub, Int.reduceNeg, iI_add, iI_sub, iI_mul, iI_neg, iI_n, zbz, zchar_id, zin, zwr_s, zwr_a, zwr_i, if_pos, if_neg, Int.toNat_natCast, Int.natCast_zero, Int.reduceToNat, z49, zc3, e, zt2, zgX]
        · simp (disch := first | omega | (simp (disch := omega) only [zwr_s, zwr_a, zwr_i, zn_put, zn_new, zn_fil, zn_chg, zV_n]; omega)) only [zentry, zs0, zs1, zs2, zs3, zg_lo, zg_st, zg_st2, zg_ald, zg_ast, zs_ia, zs_i0, zcs, zg_ii, zi_max, zi_min, zi_abi, zi_abf, zi_fb, zi_bf, lget, lst, lst2, lc2, Option.map_some, zso, if_true, if_false, zc1, and_true, true_and, and_self, List.length_nil, List.length_cons, Nat.zero_le, reduceIte, reduceCtorEq, false_and, and_false, Bool.false_eq_true, zca_some, zr0, zr100, Option.bind_some, zb_none, zb_some, zrc, or_true, true_or, eq_self, ne_eq, not_true_eq_false, not_false_eq_true, zrt_i, zrt_zb, zrt_b, zrt_c, zrt_l, zrt_f, zrt_r, zrt_n, zrt_v, zft_0, zft_1, zft_zb, zft_3, zft_4, zft_5, zft_7r, zft_7n, iI_t, zb_i, zb_0, zb_1, Nat.reduceAdd, Nat.reduceLeDiff, Nat.reduceEqDiff, Nat.reduceSub, Int.reduceNeg, iI_add, iI_sub, iI_mul, iI_neg, iI_n, zbz, zchar_id, zin, zwr_s, zwr_a, zwr_i, if_pos, if_neg, Int.toNat_natCast, Int.natCast_zero, Int.reduceToNat, z49, zc3, e, zt2, zgX]
      · refine Or.inl ⟨?_, ?_⟩
        · unfold qEv at e0
          unfold mSoT
          by_cases g : 0 ≤ x ∧ x ≤ D 32 15 - 1
          · rw [if_pos g] at e0
            omega
          · rw [if_neg g]
        · rw [zc]
          clear p g0
          simp (disch := first | omega | (simp (disch := omega) only [zwr_s, zwr_a, zwr_i, zn_put, zn_new, zn_fil, zn_chg, zV_n]; omega)) only [zentry, zs0, zs1, zs2, zs3, zg_lo, zg_st, zg_st2, zg_ald, zg_ast, zs_ia, zs_i0, zcs, zg_ii, zi_max, zi_min, zi_abi, zi_abf, zi_fb, zi_bf, lget, lst, lst2, lc2, Option.map_some, zso, if_true, if_false, zc1, and_true, true_and, and_self, List.length_nil, List.length_cons, Nat.zero_le, reduceIte, reduceCtorEq, false_and, and_false, Bool.false_eq_true, zca_some, zr0, zr100, Option.bind_some, zb_none, zb_some, zrc, or_true, true_or, eq_self, ne_eq, not_true_eq_false, not_false_eq_true, zrt_i, zrt_zb, zrt_b, zrt_c, zrt_l, zrt_f, zrt_r, zrt_n, zrt_v, zft_0, zft_1, zft_zb, zft_3, zft_4, zft_5, zft_7r, zft_7n, iI_t, zb_i, zb_0, zb_1, Nat.reduceAdd, Nat.reduceLeDiff, Nat.reduceEqDiff, Nat.reduceSub, Int.reduceNeg, iI_add, iI_sub, iI_mul, iI_neg, iI_n, zbz, zchar_id, zin, zwr_s, zwr_a, zwr_i, if_pos, if_neg, Int.toNat_natCast, Int.natCast_zero, Int.reduceToNat, z49, zc3, e, zb_x, zt2]
    have bt := mSoT_v (D := D) (x := x) (s := s)
    exact Or.inr hw

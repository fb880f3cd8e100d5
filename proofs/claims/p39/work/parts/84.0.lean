/-! the calls that change, once more: the day stays -/
set_option maxRecDepth 20000 in
theorem t45 {x pl : Int} {c : Nat} {h : zH} {X D : zD} (p : Inv c h X D) (hc : c < 600) (hr : iR x) (hl : iR pl) : (mApT D x pl = 0 ∧ ∃ (v : Int) (h1 : zH) (X1 D1 D9 : zD), (zc 45 4 [.ref 3, .int (Int32.ofInt x), .int (Int32.ofInt pl)] (zV (zU h X) D)) = some (.inl (some (.int (Int32.ofInt v))), zV (zU h1 X1) D1) ∧ (-(12 * (c : Int)) ≤ v ∧ v ≤ 100000) ∧ (∀ a i, a < 32 → D9 a i = D1 a i) ∧ Inv (c + 1) h1 X1 D9 ∧ (∀ i, D9 39 i = D 39 i) ∧ D9 32 16 = D 32 16) ∨ cE (zc 45 4 [.ref 3, .int (Int32.ofInt x), .int (Int32.ofInt pl)] (zV (zU h X) D)) (mApT D x pl) 1 2 h X D ∨ cE (zc 45 4 [.ref 3, .int (Int32.ofInt x), .int (Int32.ofInt pl)] (zV (zU h X) D)) (mApT D x pl) 2 3 h X D ∨ cE (zc 45 4 [.ref 3, .int (Int32.ofInt x), .int (Int32.ofInt pl)] (zV (zU h X) D)) (mApT D x pl) 3 0 h X D := by
  by_cases g0 : mApT D x pl = 0
  · have hx : (0 ≤ x ∧ x ≤ D 32 7 - 1) ∧ D 38 x.toNat ≠ 1 ∧ (1 ≤ pl ∧ pl ≤ 99) := by
      unfold mApT at g0
      by_cases g : 0 ≤ x ∧ x ≤ D 32 7 - 1
      · rw [if_pos g] at g0
        by_cases g1 : D 38 x.toNat = 1
        · rw [if_pos g1] at g0
          omega
        · rw [if_neg g1] at g0
          by_cases g2 : 1 ≤ pl ∧ pl ≤ 99
          · exact ⟨g, g1, g2⟩
          · rw [if_neg g2] at g0
            omega
      · rw [if_neg g] at g0
        omega
    obtain ⟨hx, h38, hpl⟩ := hx
    have e86 : zc 86 3 [.ref 3, .int (Int32.ofInt x)] (zV (zU h X) D) = some (.inl (some (.ref (lsE X 4 x.toNat))), zV (zU h X) D) := by
      rcases c86 p hr with ⟨-, e⟩ | ⟨e, -⟩ | ⟨e, -⟩
      · exact e
      · unfold mPlT at e
        rw [if_pos hx, if_neg h38] at e
        omega
      · unfold mPlT at e
        rw [if_pos hx, if_neg h38] at e
        omega
    have hO := p.2.1.1
    obtain ⟨k1, k2, k3⟩ := hO.K (e := x.toNat) (by omega)
    have y6 := (hO.2 x.toNat (by omega)).2.2.2.2.2.2.1
    have b35 := (p.1.2.2.2.2 x.toNat).1
    have hcc := p.2.2.2.2.2.2.2
    have e45 : cV (zc 45 4 [.ref 3, .int (Int32.ofInt x), .int (Int32.ofInt pl)] (zV (zU h X) D)) 0 (D 35 x.toNat + pl) h (zwr X (lsE X 4 x.toNat) 6 (D 35 x.toNat + pl)) (zwr D 3 6 0) := by
      refine ⟨rfl, ?_⟩
      rw [zc]
      clear p hO
      generalize lsE X 4 x.toNat = a at *
      simp (disch := first | omega | (simp (disch := omega) only [zwr_s, zwr_a, zwr_i, zn_put, zn_new, zn_fil, zn_chg, zV_n]; omega)) only [zentry, zs0, zs1, zs2, zs3, zg_lo, zg_st, zg_st2, zg_ald, zg_ast, zs_ia, zs_i0, zcs, zg_ii, zi_max, zi_min, zi_abi, zi_abf, zi_fb, zi_bf, lget, lst, lst2, lc2, Option.map_some, zso, if_true, if_false, zc1, and_true, true_and, and_self, List.length_nil, List.length_cons, Nat.zero_le, reduceIte, reduceCtorEq, false_and, and_false, Bool.false_eq_true, zca_some, zr0, zr100, Option.bind_some, zb_none, zb_some, zrc, or_true, true_or, eq_self, ne_eq, not_true_eq_false, not_false_eq_true, zrt_i, zrt_zb, zrt_b, zrt_c, zrt_l, zrt_f, zrt_r, zrt_n, zrt_v, zft_0, zft_1, zft_zb, zft_3, zft_4, zft_5, zft_7r, zft_7n, iI_t, zb_i, zb_0, zb_1, Nat.reduceAdd, Nat.reduceLeDiff, Nat.reduceEqDiff, Nat.reduceSub, Int.reduceNeg, iI_add, iI_sub, iI_mul, iI_neg, iI_n, zbz, zchar_id, zin, zwr_s, zwr_a, zwr_i, if_pos, if_neg, Int.toNat_natCast, Int.natCast_zero, Int.reduceToNat, z45, zc3, zuC k1 k3, e86, y6, zt2]
    have d : ∀ a i, a ≠ 3 → a ≠ 68 → zwr (zwr D 3 6 0) 68 0 (D 35 x.toNat + pl) a i = D a i := fun a i q1 q2 => by rw [zwr_a q2, zwr_a q1]
    have em := m112 (c := x) (p := pl) (h := zU h (zwr X (lsE X 4 x.toNat) 6 (D 35 x.toNat + pl))) (D := zwr (zwr D 3 6 0) 68 0 (D 35 x.toNat + pl)) hr hl (by rw [d 32 7 (by omega) (by omega)]; exact p.1.1.1.1) (fun i => by rw [d 38 i (by omega) (by omega)]; exact (p.1.2.2.2.2 i).2)
    have g1 : mApT (zwr (zwr D 3 6 0) 68 0 (D 35 x.toNat + pl)) x pl = 0 := by
      unfold mApT
      rw [d 32 7 (by omega) (by omega), d 38 _ (by omega) (by omega)]
      exact g0
    unfold mAp at em
    rw [if_pos g1, if_pos g1, d 35 _ (by omega) (by omega)] at em
    have dd : ∀ a i, a ≠ 3 → a ≠ 68 → ¬ (a = 32 ∧ i = 32) → ¬ (a = 35 ∧ i = x.toNat) → zwr (zwr (zwr (zwr D 3 6 0) 68 0 (D 35 x.toNat + pl)) 32 32 0) 35 x.toNat (D 35 x.toNat + pl) a i = D a i := fun a i q1 q2 q3 q4 => by rw [zwr_e, if_neg q4, zwr_e, if_neg q3]; exact d a i q1 q2
    have d35 : ∀ i, zwr (zwr (zwr (zwr D 3 6 0) 68 0 (D 35 x.toNat + pl)) 32 32 0) 35 x.toNat (D 35 x.toNat + pl) 35 i = if i = x.toNat then D 35 x.toNat + pl else D 35 i := fun i => by
      by_cases g : i = x.toNat
      · rw [if_pos g, g, zwr_s]
      · rw [if_neg g]
        exact dd 35 i (by omega) (by omega) (by omega) (by omega)
    have d3 : ∀ i, i ≠ 6 → zwr (zwr (zwr (zwr D 3 6 0) 68 0 (D 35 x.toNat + pl)) 32 32 0) 35 x.toNat (D 35 x.toNat + pl) 3 i = D 3 i := fun i q => by rw [zwr_a (by omega), zwr_a (by omega), zwr_a (by omega), zwr_i q]
    have d36 : zwr (zwr (zwr (zwr D 3 6 0) 68 0 (D 35 x.toNat + pl)) 32 32 0) 35 x.toNat (D 35 x.toNat + pl) 3 6 = 0 := by rw [zwr_a (by omega), zwr_a (by omega), zwr_a (by omega), zwr_s]
    have d68 : zwr (zwr (zwr (zwr D 3 6 0) 68 0 (D 35 x.toNat + pl)) 32 32 0) 35 x.toNat (D 35 x.toNat + pl) 68 0 = D 35 x.toNat + pl := by rw [zwr_a (by omega), zwr_a (by omega), zwr_s]
    have d32 : zwr (zwr (zwr (zwr D 3 6 0) 68 0 (D 35 x.toNat + pl)) 32 32 0) 35 x.toNat (D 35 x.toNat + pl) 32 32 = 0 := by rw [zwr_a (by omega), zwr_s]
    generalize zwr (zwr (zwr (zwr D 3 6 0) 68 0 (D 35 x.toNat + pl)) 32 32 0) 35 x.toNat (D 35 x.toNat + pl) = D9 at *
    have mx : mX h X (zwr X (lsE X 4 x.toNat) 6 (D 35 x.toNat + pl)) := fun b i q1 _ => zwr_a (fun w => q1 (by rw [w]; exact k3))
    obtain ⟨l41, l42⟩ := lsO_b hO.1 mx.ob
    obtain ⟨l51, l52⟩ := lsO_b p.2.1.2.1.1 mx.ob
    have f7 := dd 32 7 (by omega) (by omega) (by omega) (by omega)
    have f15 := dd 32 15 (by omega) (by omega) (by omega) (by omega)
    have h15 := p.1.1.2.1
    have h15b := h15.1
    refine Or.inl ⟨g0, D 35 x.toNat + pl, h, _, _, D9, e45.2, ⟨by omega, by omega⟩, fun a i w => ?_, ?_, fun i => dd 39 i (by omega) (by omega) (by omega) (by omega), dd 32 16 (by omega) (by omega) (by omega) (by omega)⟩
    · by_cases w1 : a = 3
      · subst w1
        by_cases w2 : i = 6
        · rw [w2, d36, zwr_s]
        · rw [d3 i w2, zwr_i w2]
      · rw [dd a i w1 (by omega) (by omega) (by omega), zwr_a w1]
    refine p.mu hc (fun a i q1 q2 => ?_) (fun a i q => dd a i (by omega) (by omega) (by omega) (by omega)) ?_ ⟨by rw [f15]; exact h15.1, fun e he => ?_⟩ (fun e he => ?_) (fun i => ?_) (fun i => ?_) ⟨by rw [f7]; exact l41, fun i hi => ?_⟩ ⟨by rw [f15]; exact l51, fun i j hi hj => ?_, fun e he => ?_⟩ ?_ (Or.inl d36) ⟨p.2.2.2.2.2.1, by omega, by omega⟩
    · by_cases g3 : a = 3
      · subst g3
        exact d3 i (by omega)
      · exact dd a i g3 (by omega) (by omega) (by omega)
    · unfold mLst
      rw [dd 32 27 (by omega) (by omega) (by omega) (by omega)]
      exact p.1.1.2.2.1
    · rw [f15] at he
      rw [dd 40 e (by omega) (by omega) (by omega) (by omega), dd 41 e (by omega) (by omega) (by omega) (by omega), dd 42 e (by omega) (by omega) (by omega) (by omega), dd 43 e (by omega) (by omega) (by omega) (by omega), f7]
      exact h15.2.1 e he
    · rw [f15] at he
      have q := p.1.2.1 e he
      have r : ∀ i, D9 (45 + e) i = D (45 + e) i := fun i => dd _ _ (by omega) (by omega) (by omega) (by omega)
      rw [dd 57 e (by omega) (by omega) (by omega) (by omega)]
      refine ⟨q.1, fun k hk => ?_⟩
      rw [r, r, r]
      exact q.2 k hk
    · rw [dd 43 i (by omega) (by omega) (by omega) (by omega)]
      exact p.1.2.2.1 i
    · have := (p.1.2.2.2.2 i).1
      rw [d35]
      split <;> omega
    · rw [f7] at hi
      rw [l42 i hi, d35, dd 38 i (by omega) (by omega) (by omega) (by omega), dd 33 i (by omega) (by omega) (by omega) (by omega), dd 34 i (by omega) (by omega) (by omega) (by omega), dd 36 i (by omega) (by omega) (by omega) (by omega), dd 37 i (by omega) (by omega) (by omega) (by omega), dd 39 i (by omega) (by omega) (by omega) (by omega)]
      have y := hO.2 i hi
      by_cases g : i = x.toNat
      · subst g
        rw [zwr_i (by omega), zwr_i (by omega), zwr_i (by omega), zwr_i (by omega), zwr_i (by omega), zwr_i (by omega), zwr_s, zwr_i (by omega), if_pos rfl]
        exact ⟨y.1, y.2.1, y.2.2.1, y.2.2.2.1, y.2.2.2.2.1, y.2.2.2.2.2.1, rfl, y.2.2.2.2.2.2.2⟩
      · have hne : lsE X 4 i ≠ lsE X 4 x.toNat := fun w => g (hO.in hi (by omega) w)
        rw [zwr_a hne, zwr_a hne, zwr_a hne, zwr_a hne, zwr_a hne, zwr_a hne, zwr_a hne, zwr_a hne, if_neg g]
        exact y
    · rw [f15] at hi hj
      rw [l52 i hi, l52 j hj]
      exact p.2.1.2.1.2.1 i j hi hj
    · rw [f15] at he
      have hk := (p.2.1.2.1.K he).2.2
      have hne : lsE X 5 e ≠ lsE X 4 x.toNat := fun w => by rw [w] at hk; omega
      have hv := p.vE e he
      rw [l52 e he, zwr_a hne, zwr_a hne, zwr_a hne, zwr_a hne, dd 40 e (by omega) (by omega) (by omega) (by omega), dd 41 e (by omega) (by omega) (by omega) (by omega), dd 42 e (by omega) (by omega) (by omega) (by omega), dd 43 e (by omega) (by omega) (by omega) (by omega), l42 _ (by omega)]
      exact p.2.1.2.1.2.2 e he
    · have v := p.2.1.2.2.x mx p.2.1.2.1
      intro e he
      rw [f15] at he
      have r : ∀ i, D9 (45 + e) i = D (45 + e) i := fun i => dd _ _ (by omega) (by omega) (by omega) (by omega)
      rw [dd 57 e (by omega) (by omega) (by omega) (by omega)]
      refine ⟨(v e he).1, fun k hk => ?_⟩
      rw [r, r, r]
      exact (v e he).2 k hk
  · have hw : cE (zc 45 4 [.ref 3, .int (Int32.ofInt x), .int (Int32.ofInt pl)] (zV (zU h X) D)) (mApT D x pl) 1 2 h X D ∨ cE (zc 45 4 [.ref 3, .int (Int32.ofInt x), .int (Int32.ofInt pl)] (zV (zU h X) D)) (mApT D x pl) 2 3 h X D ∨ cE (zc 45 4 [.ref 3, .int (Int32.ofInt x), .int (Int32.ofInt pl)] (zV (zU h X) D)) (mApT D x pl) 3 0 h X D := by
      rcases c86 p hr with ⟨e0, e⟩ | ⟨e0, e⟩ | ⟨e0, e⟩
      · refine Or.inr (Or.inr ?_)
        have h2 : mApT D x pl = 3 ∧ ¬ (1 ≤ pl ∧ pl ≤ 99) := by
          unfold mPlT at e0
          unfold mApT at g0 ⊢
          by_cases g : 0 ≤ x ∧ x ≤ D 32 7 - 1
          · rw [if_pos g] at e0 g0 ⊢
            by_cases g1 : D 38 x.toNat = 1
            · rw [if_pos g1] at e0
              omega
            · rw [if_neg g1] at g0 ⊢
              by_cases g2 : 1 ≤ pl ∧ pl ≤ 99
              · rw [if_pos g2] at g0
                omega
              · rw [if_neg g2]
                exact ⟨rfl, g2⟩
          · rw [if_neg g] at e0
            omega
        refine ⟨h2.1, ?_⟩
        have h2 := h2.2
        rw [zc]
        clear p g0
        generalize lsE X 4 x.toNat = a at *
        by_cases g3 : pl < 1
        · simp (disch := first | omega | (simp (disch := omega) only [zwr_s, zwr_a, zwr_i, zn_put, zn_new, zn_fil, zn_chg, zV_n]; omega)) only [zentry, zs0, zs1, zs2, zs3, zg_lo, zg_st, zg_st2, zg_ald, zg_ast, zs_ia, zs_i0, zcs, zg_ii, zi_max, zi_min, zi_abi, zi_abf, zi_fb, zi_bf, lget, lst, lst2, lc2, Option.map_some, zso, if_true, if_false, zc1, and_true, true_and, and_self, List.length_nil, List.length_cons, Nat.zero_le, reduceIte, reduceCtorEq, false_and, and_false, Bool.false_eq_true, zca_some, zr0, zr100, Option.bind_some, zb_none, zb_some, zrc, or_true, true_or, eq_self, ne_eq, not_true_eq_false, not_false_eq_true, zrt_i, zrt_zb, zrt_b, zrt_c, zrt_l, zrt_f, zrt_r, zrt_n, zrt_v, zft_0, zft_1, zft_zb, zft_3, zft_4, zft_5, zft_7r, zft_7n, iI_t, zb_i, zb_0, zb_1, Nat.reduceAdd, Nat.reduceLeDiff, Nat.reduceEqDiff, Nat.reduceSub, Int.reduceNeg, iI_add, iI_sub, iI_mul, iI_neg, iI_n, zbz, zchar_id, zin, zwr_s, zwr_a, zwr_i, if_pos, if_neg, Int.toNat_natCast, Int.natCast_zero, Int.reduceToNat, z45, zc3, e, zt2, zgX]
        · simp (disch := first | omega | (simp (disch := omega) only [zwr_s, zwr_a, zwr_i, zn_put, zn_new, zn_fil, zn_chg, zV_n]; omega)) only [zentry, zs0, zs1, zs2, zs3, zg_lo, zg_st, zg_st2, zg_ald, zg_ast, zs_ia, zs_i0, zcs, zg_ii, zi_max, zi_min, zi_abi, zi_abf, zi_fb, zi_bf, lget, lst, lst2, lc2, Option.map_some, zso, if_true, if_false, zc1, and_true, true_and, and_self, List.length_nil, List.length_cons, Nat.zero_le, reduceIte, reduceCtorEq, false_and, and_false, Bool.false_eq_true, zca_some, zr0, zr100, Option.bind_some, zb_none, zb_some, zrc, or_true, true_or, eq_self, ne_eq, not_true_eq_false, not_false_eq_true, zrt_i, zrt_zb, zrt_b, zrt_c, zrt_l, zrt_f, zrt_r, zrt_n, zrt_v, zft_0, zft_1, zft_zb, zft_3, zft_4, zft_5, zft_7r, zft_7n, iI_t, zb_i, zb_0, zb_1, Nat.reduceAdd, Nat.reduceLeDiff, Nat.reduceEqDiff, Nat.reduceSub, Int.reduceNeg, iI_add, iI_sub, iI_mul, iI_neg, iI_n, zbz, zchar_id, zin, zwr_s, zwr_a, zwr_i, if_pos, if_neg, Int.toNat_natCast, Int.natCast_zero, Int.reduceToNat, z45, zc3, e, zt2, zgX]
      · refine Or.inl ⟨?_, ?_⟩
        · unfold mPlT at e0
          unfold mApT
          by_cases g : 0 ≤ x ∧ x ≤ D 32 7 - 1
          · rw [if_pos g] at e0
            split at e0 <;> omega
          · rw [if_neg g]
        · rw [zc]
          clear p g0
          simp (disch := first | omega | (simp (disch := omega) only [zwr_s, zwr_a, zwr_i, zn_put, zn_new, zn_fil, zn_chg, zV_n]; omega)) only [zentry, zs0, zs1, zs2, zs3, zg_lo, zg_st, zg_st2, zg_ald, zg_ast, zs_ia, zs_i0, zcs, zg_ii, zi_max, zi_min, zi_abi, zi_abf, zi_fb, zi_bf, lget, lst, lst2, lc2, Option.map_some, zso, if_true, if_false, zc1, and_true, true_and, and_self, List.length_nil, List.length_cons, Nat.zero_le, reduceIte, reduceCtorEq, false_and, and_false, Bool.false_eq_true, zca_some, zr0, zr100, Option.bind_some, zb_none, zb_some, zrc, or_true, true_or, eq_self, ne_eq, not_true_eq_false, not_false_eq_true, zrt_i, zrt_zb, zrt_b, zrt_c, zrt_l, zrt_f, zrt_r, zrt_n, zrt_v, zft_0, zft_1, zft_zb, zft_3, zft_4, zft_5, zft_7r, zft_7n, iI_t, zb_i, zb_0, zb_1, Nat.reduceAdd, Nat.reduceLeDiff, Nat.reduceEqDiff, Nat.reduceSub, Int.reduceNeg, iI_add, iI_sub, iI_mul, iI_neg, iI_n, zbz, zchar_id, zin, zwr_s, zwr_a, zwr_i, if_pos, if_neg, Int.toNat_natCast, Int.natCast_zero, Int.reduceToNat, z45, zc3, e, zb_x, zt2]
      · refine Or.inr (Or.inl ⟨?_, ?_⟩)
        · unfold mPlT at e0
          unfold mApT
          by_cases g : 0 ≤ x ∧ x ≤ D 32 7 - 1
          · rw [if_pos g] at e0 ⊢
            by_cases g1 : D 38 x.toNat = 1
            · rw [if_pos g1]
            · rw [if_neg g1] at e0
              omega
          · rw [if_neg g] at e0
            omega
        · rw [zc]
          clear p g0
          simp (disch := first | omega | (simp (disch := omega) only [zwr_s, zwr_a, zwr_i, zn_put, zn_new, zn_fil, zn_chg, zV_n]; omega)) only [zentry, zs0, zs1, zs2, zs3, zg_lo, zg_st, zg_st2, zg_ald, zg_ast, zs_ia, zs_i0, zcs, zg_ii, zi_max, zi_min, zi_abi, zi_abf, zi_fb, zi_bf, lget, lst, lst2, lc2, Option.map_some, zso, if_true, if_false, zc1, and_true, true_and, and_self, List.length_nil, List.length_cons, Nat.zero_le, reduceIte, reduceCtorEq, false_and, and_false, Bool.false_eq_true, zca_some, zr0, zr100, Option.bind_some, zb_none, zb_some, zrc, or_true, true_or, eq_self, ne_eq, not_true_eq_false, not_false_eq_true, zrt_i, zrt_zb, zrt_b, zrt_c, zrt_l, zrt_f, zrt_r, zrt_n, zrt_v, zft_0, zft_1, zft_zb, zft_3, zft_4, zft_5, zft_7r, zft_7n, iI_t, zb_i, zb_0, zb_1, Nat.reduceAdd, Nat.reduceLeDiff, Nat.reduceEqDiff, Nat.reduceSub, Int.reduceNeg, iI_add, iI_sub, iI_mul, iI_neg, iI_n, zbz, zchar_id, zin, zwr_s, zwr_a, zwr_i, if_pos, if_neg, Int.toNat_natCast, Int.natCast_zero, Int.reduceToNat, z45, zc3, e, zb_x, zt2]
    have bt := mApT_v (D := D) (x := x) (pl := pl)
    exact Or.inr hw
set_option maxRecDepth 20000 in
theorem t49 {x s : Int} {c : Nat} {h : zH} {X D : zD} (p : Inv c h X D) (hc : c < 600) (hr : iR x) (hl : iR s) : (mSoT D x s = 0 ∧ ∃ (v : Int) (h1 : zH) (X1 D1 D9 : zD), (zc 49 5 [.ref 3, .int (Int32.ofInt x), .int (Int32.ofInt s)] (zV (zU h X) D)) = some (.inl (some (.int (Int32.ofInt v))), zV (zU h1 X1) D1) ∧ (-(12 * (c : Int)) ≤ v ∧ v ≤ 100000) ∧ (∀ a i, a < 32 → D9 a i = D1 a i) ∧ Inv (c + 1) h1 X1 D9 ∧ (∀ i, D9 39 i = D 39 i) ∧ D9 32 16 = D 32 16) ∨ cE (zc 49 5 [.ref 3, .int (Int32.ofInt x), .int (Int32.ofInt s)] (zV (zU h X) D)) (mSoT D x s) 1 2 h X D ∨ cE (zc 49 5 [.ref 3, .int (Int32.ofInt x), .int (Int32.ofInt s)] (zV (zU h X) D)) (mSoT D x s) 2 0 h X D := by
  by_cases g0 : mSoT D x s = 0
  · have hx : (0 ≤ x ∧ x ≤ D 32 15 - 1) ∧ (0 ≤ s ∧ s ≤ 900) := by
      unfold mSoT at g0
      by_cases g : 0 ≤ x ∧ x ≤ D 32 15 - 1
      · rw [if_pos g] at g0
        by_cases g2 : 0 ≤ s ∧ s ≤ 900
        · exact ⟨g, g2⟩
        · rw [if_neg g2] at g0
          omega
      · rw [if_neg g] at g0
        omega
    obtain ⟨hx, hs⟩ := hx
    have e87 : zc 87 2 [.ref 3, .int (Int32.ofInt x)] (zV (zU h X) D) = some (.inl (some (.ref (lsE X 5 x.toNat))), zV (zU h X) D) := by
      rcases c87 p hr with ⟨-, e⟩ | ⟨e, -⟩
      · exact e
      · unfold qEv at e
        rw [if_pos hx] at e
        omega
    have hS := p.2.1.2.1
    have hO := p.2.1.1
    obtain ⟨k1, k2, k3⟩ := hS.K (e := x.toNat) (by omega)
    have y4 := (hS.2.2 x.toNat (by omega)).2.2.2
    have h15 := p.1.1.2.1
    have h15b := h15.1
    have b42 := (h15.2.1 x.toNat (by omega)).2.1
    have e49 : cV (zc 49 5 [.ref 3, .int (Int32.ofInt x), .int (Int32.ofInt s)] (zV (zU h X) D)) 0 (D 42 x.toNat) h (zwr X (lsE X 5 x.toNat) 4 s) (zwr D 3 6 0) := by
      refine ⟨rfl, ?_⟩
      rw [zc]
      clear p hO hS
      generalize lsE X 5 x.toNat = a at *
      simp (disch := first | omega | (simp (disch := omega) only [zwr_s, zwr_a, zwr_i, zn_put, zn_new, zn_fil, zn_chg, zV_n]; omega)) only [zentry, zs0, zs1, zs2, zs3, zg_lo, zg_st, zg_st2, zg_ald, zg_ast, zs_ia, zs_i0, zcs, zg_ii, zi_max, zi_min, zi_abi, zi_abf, zi_fb, zi_bf, lget, lst, lst2, lc2, Option.map_some, zso, if_true, if_false, zc1, and_true, true_and, and_self, List.length_nil, List.length_cons, Nat.zero_le, reduceIte, reduceCtorEq, false_and, and_false, Bool.false_eq_true, zca_some, zr0, zr100, Option.bind_some, zb_none, zb_some, zrc, or_true, true_or, eq_self, ne_eq, not_true_eq_false, not_false_eq_true, zrt_i, zrt_zb, zrt_b, zrt_c, zrt_l, zrt_f, zrt_r, zrt_n, zrt_v, zft_0, zft_1, zft_zb, zft_3, zft_4, zft_5, zft_7r, zft_7n, iI_t, zb_i, zb_0, zb_1, Nat.reduceAdd, Nat.reduceLeDiff, Nat.reduceEqDiff, Nat.reduceSub, Int.reduceNeg, iI_add, iI_sub, iI_mul, iI_neg, iI_n, zbz, zchar_id, zin, zwr_s, zwr_a, zwr_i, if_pos, if_neg, Int.toNat_natCast, Int.natCast_zero, Int.reduceToNat, z49, zc3, zuE k1 k3, e87, y4, zt2]
    have d : ∀ a i, a ≠ 3 → a ≠ 68 → zwr (zwr D 3 6 0) 68 0 (D 42 x.toNat) a i = D a i := fun a i q1 q2 => by rw [zwr_a q2, zwr_a q1]
    have em := m118 (e := x) (s := s) (h := zU h (zwr X (lsE X 5 x.toNat) 4 s)) (D := zwr (zwr D 3 6 0) 68 0 (D 42 x.toNat)) hr hl (by rw [d 32 15 (by omega) (by omega)]; exact h15b)
    have g1 : mSoT (zwr (zwr D 3 6 0) 68 0 (D 42 x.toNat)) x s = 0 := by
      unfold mSoT
      rw [d 32 15 (by omega) (by omega)]
      exact g0
    unfold mSo at em
    rw [if_pos g1, if_pos g1, d 42 _ (by omega) (by omega)] at em
    have dd : ∀ a i, a ≠ 3 → a ≠ 68 → ¬ (a = 32 ∧ i = 32) → ¬ (a = 42 ∧ i = x.toNat) → zwr (zwr (zwr (zwr D 3 6 0) 68 0 (D 42 x.toNat)) 32 32 0) 42 x.toNat s a i = D a i := fun a i q1 q2 q3 q4 => by rw [zwr_e, if_neg q4, zwr_e, if_neg q3]; exact d a i q1 q2
    have d42 : ∀ i, zwr (zwr (zwr (zwr D 3 6 0) 68 0 (D 42 x.toNat)) 32 32 0) 42 x.toNat s 42 i = if i = x.toNat then s else D 42 i := fun i => by
      by_cases g : i = x.toNat
      · rw [if_pos g, g, zwr_s]
      · rw [if_neg g]
        exact dd 42 i (by omega) (by omega) (by omega) (by omega)
    have d3 : ∀ i, i ≠ 6 → zwr (zwr (zwr (zwr D 3 6 0) 68 0 (D 42 x.toNat)) 32 32 0) 42 x.toNat s 3 i = D 3 i := fun i q => by rw [zwr_a (by omega), zwr_a (by omega), zwr_a (by omega), zwr_i q]
    have d36 : zwr (zwr (zwr (zwr D 3 6 0) 68 0 (D 42 x.toNat)) 32 32 0) 42 x.toNat s 3 6 = 0 := by rw [zwr_a (by omega), zwr_a (by omega), zwr_a (by omega), zwr_s]
    have d68 : zwr (zwr (zwr (zwr D 3 6 0) 68 0 (D 42 x.toNat)) 32 32 0) 42 x.toNat s 68 0 = D 42 x.toNat := by rw [zwr_a (by omega), zwr_a (by omega), zwr_s]
    have d32 : zwr (zwr (zwr (zwr D 3 6 0) 68 0 (D 42 x.toNat)) 32 32 0) 42 x.toNat s 32 32 = 0 := by rw [zwr_a (by omega), zwr_s]
    generalize zwr (zwr (zwr (zwr D 3 6 0) 68 0 (D 42 x.toNat)) 32 32 0) 42 x.toNat s = D9 at *
    have mx : mX h X (zwr X (lsE X 5 x.toNat) 4 s) := fun b i q1 q2 => by
      rw [zwr_e, if_neg]
      rintro ⟨w1, w2⟩
      have := q2 (by rw [w1]; exact k3)
      omega
    obtain ⟨l41, l42⟩ := lsO_b hO.1 mx.ob
    obtain ⟨l51, l52⟩ := lsO_b hS.1 mx.ob
    have f7 := dd 32 7 (by omega) (by omega) (by omega) (by omega)
    have f15 := dd 32 15 (by omega) (by omega) (by omega) (by omega)
    refine Or.inl ⟨g0, D 42 x.toNat, h, _, _, D9, e49.2, ⟨by omega, by omega⟩, fun a i w => ?_, ?_, fun i => dd 39 i (by omega) (by omega) (by omega) (by omega), dd 32 16 (by omega) (by omega) (by omega) (by omega)⟩
    · by_cases w1 : a = 3
      · subst w1
        by_cases w2 : i = 6
        · rw [w2, d36, zwr_s]
        · rw [d3 i w2, zwr_i w2]
      · rw [dd a i w1 (by omega) (by omega) (by omega), zwr_a w1]
    refine p.mu hc (fun a i q1 q2 => ?_) (fun a i q => dd a i (by omega) (by omega) (by omega) (by omega)) ?_ ⟨by rw [f15]; exact h15.1, fun e he => ?_⟩ (fun e he => ?_) (fun i => ?_) (fun i => ?_) ⟨by rw [f7]; exact l41, fun i hi => ?_⟩ ⟨by rw [f15]; exact l51, fun i j hi hj => ?_, fun e he => ?_⟩ ?_ (Or.inl d36) ⟨p.2.2.2.2.2.1, by omega, by omega⟩
    · by_cases g3 : a = 3
      · subst g3
        exact d3 i (by omega)
      · exact dd a i g3 (by omega) (by omega) (by omega)
    · unfold mLst
      rw [dd 32 27 (by omega) (by omega) (by omega) (by omega)]
      exact p.1.1.2.2.1
    · rw [f15] at he
      rw [dd 40 e (by omega) (by omega) (by omega) (by omega), dd 41 e (by omega) (by omega) (by omega) (by omega), d42, dd 43 e (by omega) (by omega) (by omega) (by omega), f7]
      obtain ⟨z1, z2, z3⟩ := h15.2.1 e he
      refine ⟨z1, ?_, z3⟩
      split <;> omega
    · rw [f15] at he
      have q := p.1.2.1 e he
      have r : ∀ i, D9 (45 + e) i = D (45 + e) i := fun i => dd _ _ (by omega) (by omega) (by omega) (by omega)
      rw [dd 57 e (by omega) (by omega) (by omega) (by omega)]
      refine ⟨q.1, fun k hk => ?_⟩
      rw [r, r, r]
      exact q.2 k hk
    · rw [dd 43 i (by omega) (by omega) (by omega) (by omega)]
      exact p.1.2.2.1 i
    · have := (p.1.2.2.2.2 i).1
      rw [dd 35 i (by omega) (by omega) (by omega) (by omega)]
      omega
    · rw [f7] at hi
      have hk := (hO.K hi).2.2
      have hne : lsE X 4 i ≠ lsE X 5 x.toNat := fun w => by rw [w] at hk; omega
      rw [l42 i hi, zwr_a hne, zwr_a hne, zwr_a hne, zwr_a hne, zwr_a hne, zwr_a hne, zwr_a hne, zwr_a hne, dd 35 i (by omega) (by omega) (by omega) (by omega), dd 38 i (by omega) (by omega) (by omega) (by omega), dd 33 i (by omega) (by omega) (by omega) (by omega), dd 34 i (by omega) (by omega) (by omega) (by omega), dd 36 i (by omega) (by omega) (by omega) (by omega), dd 37 i (by omega) (by omega) (by omega) (by omega), dd 39 i (by omega) (by omega) (by omega) (by omega)]
      exact hO.2 i hi
    · rw [f15] at hi hj
      rw [l52 i hi, l52 j hj]
      exact hS.2.1 i j hi hj
    · rw [f15] at he
      have hv := p.vE e he
      obtain ⟨z0, z1, z2, z4⟩ := hS.2.2 e he
      rw [l52 e he, dd 40 e (by omega) (by omega) (by omega) (by omega), dd 41 e (by omega) (by omega) (by omega) (by omega), d42, dd 43 e (by omega) (by omega) (by omega) (by omega), l42 _ (by omega)]
      by_cases g : e = x.toNat
      · subst g
        rw [zwr_i (by omega), zwr_i (by omega), zwr_i (by omega), zwr_s, if_pos rfl]
        exact ⟨z0, z1, z2, rfl⟩
      · have hne : lsE X 5 e ≠ lsE X 5 x.toNat := fun w => g (hS.2.1 e _ he (by omega) w)
        rw [zwr_a hne, zwr_a hne, zwr_a hne, zwr_a hne, if_neg g]
        exact ⟨z0, z1, z2, z4⟩
    · have v := p.2.1.2.2.x mx p.2.1.2.1
      intro e he
      rw [f15] at he
      have r : ∀ i, D9 (45 + e) i = D (45 + e) i := fun i => dd _ _ (by omega) (by omega) (by omega) (by omega)
      rw [dd 57 e (by omega) (by omega) (by omega) (by omega)]
      refine ⟨(v e he).1, fun k hk => ?_⟩
      rw [r, r, r]
      exact (v e he).2 k hk
  · have hw : cE (zc 49 5 [.ref 3, .int (Int32.ofInt x), .int (Int32.ofInt s)] (zV (zU h X) D)) (mSoT D x s) 1 2 h X D ∨ cE (zc 49 5 [.ref 3, .int (Int32.ofInt x), .int (Int32.ofInt s)] (zV (zU h X) D)) (mSoT D x s) 2 0 h X D := by
      rcases c87 p hr with ⟨e0, e⟩ | ⟨e0, e⟩
      · refine Or.inr ?_
        have h2 : mSoT D x s = 2 ∧ ¬ (0 ≤ s ∧ s ≤ 900) := by
          unfold qEv at e0
          unfold mSoT at g0 ⊢
          by_cases g : 0 ≤ x ∧ x ≤ D 32 15 - 1
          · rw [if_pos g] at g0 ⊢
            by_cases g2 : 0 ≤ s ∧ s ≤ 900
            · rw [if_pos g2] at g0
              omega
            · rw [if_neg g2]
              exact ⟨rfl, g2⟩
          · rw [if_neg g] at e0
            omega
        refine ⟨h2.1, ?_⟩
        have h2 := h2.2
        rw [zc]
        clear p g0
        generalize lsE X 5 x.toNat = a at *
        by_cases g3 : s < 0
        · simp (disch := first | omega | (simp (disch := omega) only [zwr_s, zwr_a, zwr_i, zn_put, zn_new, zn_fil, zn_chg, zV_n]; omega)) only [zentry, zs0, zs1, zs2, zs3, zg_lo, zg_st, zg_st2, zg_ald, zg_ast, zs_ia, zs_i0, zcs, zg_ii, zi_max, zi_min, zi_abi, zi_abf, zi_fb, zi_bf, lget, lst, lst2, lc2, Option.map_some, zso, if_true, if_false, zc1, and_true, true_and, and_self, List.length_nil, List.length_cons, Nat.zero_le, reduceIte, reduceCtorEq, false_and, and_false, Bool.false_eq_true, zca_some, zr0, zr100, Option.bind_some, zb_none, zb_some, zrc, or_true, true_or, eq_self, ne_eq, not_true_eq_false, not_false_eq_true, zrt_i, zrt_zb, zrt_b, zrt_c, zrt_l, zrt_f, zrt_r, zrt_n, zrt_v, zft_0, zft_1, zft_zb, zft_3, zft_4, zft_5, zft_7r, zft_7n, iI_t, zb_i, zb_0, zb_1, Nat.reduceAdd, Nat.reduceLeDiff, Nat.reduceEqDiff, Nat.reduceSub, Int.reduceNeg, iI_add, iI_sub, iI_mul, iI_neg, iI_n, zbz, zchar_id, zin, zwr_s, zwr_a, zwr_i, if_pos, if_neg, Int.toNat_natCast, Int.natCast_zero, Int.reduceToNat, z49, zc3, e, zt2, zgX]
        · simp (disch := first | omega | (simp (disch := omega) only [zwr_s, zwr_a, zwr_i, zn_put, zn_new, zn_fil, zn_chg, zV_n]; omega)) only [zentry, zs0, zs1, zs2, zs3, zg_lo, zg_st, zg_st2, zg_ald, zg_ast, zs_ia, zs_i0, zcs, zg_ii, zi_max, zi_min, zi_abi, zi_abf, zi_fb, zi_bf, lget, lst, lst2, lc2, Option.map_some, zso, if_true, if_false, zc1, and_true, true_and, and_self, List.length_nil, List.length_cons, Nat.zero_le, reduceIte, reduceCtorEq, false_and, and_false, Bool.false_eq_true, zca_some, zr0, zr100, Option.bind_some, zb_none, zb_some, zrc, or_true, true_or, eq_self, ne_eq, not_true_eq_false, not_false_eq_true, zrt_i, zrt_zb, zrt_b, zrt_c, zrt_l, zrt_f, zrt_r, zrt_n, zrt_v, zft_0, zft_1, zft_zb, zft_3, zft_4, zft_5, zft_7r, zft_7n, iI_t, zb_i, zb_0, zb_1, Nat.reduceAdd, Nat.reduceLeDiff, Nat.reduceEqDiff, Nat.reduceSub, Int.reduceNeg, iI_add, iI_sub, iI_mul, iI_neg, iI_n, zbz, zchar_id, zin, zwr_s, zwr_a, zwr_i, if_pos, if_neg, Int.toNat_natCast, Int.natCast_zero, Int.reduceToNat, z49, zc3, e, zt2, zgX]
      · refine Or.inl ⟨?_, ?_⟩
        · unfold qEv at e0
          unfold mSoT
          by_cases g : 0 ≤ x ∧ x ≤ D 32 15 - 1
          · rw [if_pos g] at e0
            omega
          · rw [if_neg g]
        · rw [zc]
          clear p g0
          simp (disch := first | omega | (simp (disch := omega) only [zwr_s, zwr_a, zwr_i, zn_put, zn_new, zn_fil, zn_chg, zV_n]; omega)) only [zentry, zs0, zs1, zs2, zs3, zg_lo, zg_st, zg_st2, zg_ald, zg_ast, zs_ia, zs_i0, zcs, zg_ii, zi_max, zi_min, zi_abi, zi_abf, zi_fb, zi_bf, lget, lst, lst2, lc2, Option.map_some, zso, if_true, if_false, zc1, and_true, true_and, and_self, List.length_nil, List.length_cons, Nat.zero_le, reduceIte, reduceCtorEq, false_and, and_false, Bool.false_eq_true, zca_some, zr0, zr100, Option.bind_some, zb_none, zb_some, zrc, or_true, true_or, eq_self, ne_eq, not_true_eq_false, not_false_eq_true, zrt_i, zrt_zb, zrt_b, zrt_c, zrt_l, zrt_f, zrt_r, zrt_n, zrt_v, zft_0, zft_1, zft_zb, zft_3, zft_4, zft_5, zft_7r, zft_7n, iI_t, zb_i, zb_0, zb_1, Nat.reduceAdd, Nat.reduceLeDiff, Nat.reduceEqDiff, Nat.reduceSub, Int.reduceNeg, iI_add, iI_sub, iI_mul, iI_neg, iI_n, zbz, zchar_id, zin, zwr_s, zwr_a, zwr_i, if_pos, if_neg, Int.toNat_natCast, Int.natCast_zero, Int.reduceToNat, z49, zc3, e, zb_x, zt2]
    have bt := mSoT_v (D := D) (x := x) (s := s)
    exact Or.inr hw
set_option maxRecDepth 20000 in
theorem t47 {x : Int} {c : Nat} {h : zH} {X D : zD} (p : Inv c h X D) (hc : c < 600) (hr : iR x) : (qEv D x = 0 ∧ ∃ (v : Int) (h1 : zH) (X1 D1 D9 : zD), (zc 47 2 [.ref 3, .int (Int32.ofInt x)] (zV (zU h X) D)) = some (.inl (some (.int (Int32.ofInt v))), zV (zU h1 X1) D1) ∧ (-(12 * (c : Int)) ≤ v ∧ v ≤ 100000) ∧ (∀ a i, a < 32 → D9 a i = D1 a i) ∧ Inv (c + 1) h1 X1 D9 ∧ (∀ i, D9 39 i = D 39 i) ∧ D9 32 16 = D 32 16) ∨ cE (zc 47 2 [.ref 3, .int (Int32.ofInt x)] (zV (zU h X) D)) (qEv D x) 1 2 h X D := by
  have hS := p.2.1.2.1
  have h0 := hS.1.1
  have h15 := p.1.1.2.1.1
  have hz := p.2.2.2.2.2.1
  by_cases g : 0 ≤ x ∧ x ≤ D 32 15 - 1
  · have q0 : qEv D x = 0 := if_pos g
    have e81 := c81_t (x := x) (X := X) (D := D) h0.1 (by omega) (by omega)
    obtain ⟨X1, e173, M1, M2, M3, M4⟩ := c173 (D := D) (i := x) (Or.inr (Or.inl rfl)) hS.1 (by omega) (by omega)
    have e175 := c175 (h := h) (X := X1) (D := zwr D 3 6 0) (a := 5) (by omega) h0.1
    rw [M1.1.2.1] at e175
    have e47 : cV (zc 47 2 [.ref 3, .int (Int32.ofInt x)] (zV (zU h X) D)) 0 (D 32 15 - 1) h X1 (zwr D 3 6 0) := by
      refine ⟨rfl, ?_⟩
      rw [zc]
      clear p hS M1 M2 M3 M4
      generalize lsE X 5 x.toNat = a at *
      simp (disch := first | omega | (simp (disch := omega) only [zwr_s, zwr_a, zwr_i, zn_put, zn_new, zn_fil, zn_chg, zV_n]; omega)) only [zentry, zs0, zs1, zs2, zs3, zg_lo, zg_st, zg_st2, zg_ald, zg_ast, zs_ia, zs_i0, zcs, zg_ii, zi_max, zi_min, zi_abi, zi_abf, zi_fb, zi_bf, lget, lst, lst2, lc2, Option.map_some, zso, if_true, if_false, zc1, and_true, true_and, and_self, List.length_nil, List.length_cons, Nat.zero_le, reduceIte, reduceCtorEq, false_and, and_false, Bool.false_eq_true, zca_some, zr0, zr100, Option.bind_some, zb_none, zb_some, zrc, or_true, true_or, eq_self, ne_eq, not_true_eq_false, not_false_eq_true, zrt_i, zrt_zb, zrt_b, zrt_c, zrt_l, zrt_f, zrt_r, zrt_n, zrt_v, zft_0, zft_1, zft_zb, zft_3, zft_4, zft_5, zft_7r, zft_7n, iI_t, zb_i, zb_0, zb_1, Nat.reduceAdd, Nat.reduceLeDiff, Nat.reduceEqDiff, Nat.reduceSub, Int.reduceNeg, iI_add, iI_sub, iI_mul, iI_neg, iI_n, zbz, zchar_id, zin, zwr_s, zwr_a, zwr_i, if_pos, if_neg, Int.toNat_natCast, Int.natCast_zero, Int.reduceToNat, z47, zc3, zuL (a := 5) (Or.inr (Or.inl rfl)) h0.1, e81, e173, e175, zt1, zt2]
    have d : ∀ a i, a ≠ 3 → a ≠ 68 → zwr (zwr D 3 6 0) 68 0 (D 32 15 - 1) a i = D a i := fun a i q1 q2 => by rw [zwr_a q2, zwr_a q1]
    have em := m116 (p := x) (h := zU h X1) (D := zwr (zwr D 3 6 0) 68 0 (D 32 15 - 1)) hr (by rw [d 32 15 (by omega) (by omega)]; exact h15) (fun i => by rw [d 43 i (by omega) (by omega)]; exact p.1.2.2.1 i)
    have g1 : qEv (zwr (zwr D 3 6 0) 68 0 (D 32 15 - 1)) x = 0 := by
      unfold qEv
      rw [d 32 15 (by omega) (by omega)]
      exact q0
    rw [if_pos g1, if_pos g1, d 32 15 (by omega) (by omega)] at em
    have eD : ∀ a i, mRmD (zwr (zwr D 3 6 0) 68 0 (D 32 15 - 1)) x a i = if a = 32 ∧ i = 15 then D 32 15 - 1 else if a = 32 ∧ i = 32 then 0 else mSD (zwr (zwr D 3 6 0) 68 0 (D 32 15 - 1)) x.toNat ((D 32 15).toNat - 1) a i := fun a i => by
      unfold mRmD
      rw [d 32 15 (by omega) (by omega), zwr_e, zwr_e]
    generalize mRmD (zwr (zwr D 3 6 0) 68 0 (D 32 15 - 1)) x = D9 at *
    have f15 : D9 32 15 = D 32 15 - 1 := by rw [eD, if_pos ⟨rfl, rfl⟩]
    have o : ∀ a i, ¬ (a = 32 ∧ (i = 15 ∨ i = 32)) → ¬ (40 ≤ a ∧ a ≤ 43) → ¬ (45 ≤ a ∧ a ≤ 57) → D9 a i = zwr (zwr D 3 6 0) 68 0 (D 32 15 - 1) a i := fun a i q1 q2 q3 => by
      rw [eD, if_neg (by omega), if_neg (by omega)]
      unfold mSD
      rw [if_neg (by omega), if_neg (by omega)]
    have rcd : ∀ j : Nat, (j : Int) < D 32 15 - 1 → rcE D D9 (if (j : Int) < x then j else j + 1) j := fun j hj => by
      have v : ∀ a, (a = 40 ∨ a = 41 ∨ a = 42 ∨ a = 43 ∨ a = 57) → D9 a j = D a (if (j : Int) < x then j else j + 1) := fun a ha => by
        rw [eD, if_neg (by omega), if_neg (by omega)]
        unfold mSD
        by_cases w : (j : Int) < x
        · rw [if_neg (by omega), if_neg (by omega), if_pos w, d a j (by omega) (by omega)]
        · rw [if_pos (by omega), if_neg w, d a _ (by omega) (by omega)]
      refine ⟨⟨v 40 (by omega), v 41 (by omega), v 42 (by omega), v 43 (by omega), v 57 (by omega)⟩, fun k hk => ?_⟩
      rw [eD, if_neg (by omega), if_neg (by omega)]
      unfold mSD
      by_cases w : (j : Int) < x
      · rw [if_neg (by omega), if_neg (by omega), if_pos w, d _ k (by omega) (by omega)]
      · rw [if_neg (by omega), if_pos (by omega), if_neg w, show 45 + j + 1 = 45 + (j + 1) by omega, d _ k (by omega) (by omega)]
    have sh : shX h h 0 0 := shX.rf
    have ob : obD h X X1 5 := fun b k _ q1 q2 => M3 b k q1 q2
    have hG := p.ev
    obtain ⟨hC9, l4⟩ := p.2.1.1.mv (D' := D9) sh hz.1 hz.2.1 hS.1 ob (by omega) (fun a i q => by rw [o a i (by omega) (by omega) (by omega), d a i (by omega) (by omega)])
    have hne : ∀ e : Nat, (e : Int) < D 32 15 → (X (lsE X 5 e) 3).toNat ≠ 5 := fun e he => by
      have := (hG.2.2 e he).2.2.1.1
      omega
    refine Or.inl ⟨q0, D 32 15 - 1, h, _, _, D9, e47.2, ⟨by omega, by omega⟩, fun a i w => by rw [o a i (by omega) (by omega) (by omega), zwr_a (by omega)], ?_, fun i => by rw [o 39 i (by omega) (by omega) (by omega), d 39 i (by omega) (by omega)], by rw [o 32 16 (by omega) (by omega) (by omega), d 32 16 (by omega) (by omega)]⟩
    refine p.me hc (fun a i q1 q2 => ?_) (fun a i q => ?_) (by omega) (fun i => ?_) hC9 ⟨by rw [f15]; exact M1, fun i j hi hj => ?_, fun e he => ?_⟩ (Or.inl ?_) ⟨hz, by omega, by omega⟩
    · rw [o a i (by omega) (by omega) (by omega), zwr_a (by omega), zwr_e, if_neg q2]
    · rw [o a i (by omega) (by omega) (by omega), d a i (by omega) (by omega)]
    · rw [eD, if_neg (by omega), if_neg (by omega)]
      exact (m43.sd (D := zwr (zwr D 3 6 0) 68 0 (D 32 15 - 1)) (fun i => by rw [d 43 i (by omega) (by omega)]; exact p.1.2.2.1 i) _ _) i
    · rw [f15] at hi hj
      rw [M2 i hi, M2 j hj]
      intro w
      by_cases w1 : (i : Int) < x
      · by_cases w2 : (j : Int) < x
        · rw [if_pos w1, if_pos w2] at w
          exact hS.2.1 i j (by omega) (by omega) w
        · rw [if_pos w1, if_neg w2] at w
          have := hS.2.1 i (j + 1) (by omega) (by omega) w
          omega
      · by_cases w2 : (j : Int) < x
        · rw [if_neg w1, if_pos w2] at w
          have := hS.2.1 (i + 1) j (by omega) (by omega) w
          omega
        · rw [if_neg w1, if_neg w2] at w
          have := hS.2.1 (i + 1) (j + 1) (by omega) (by omega) w
          omega
    · rw [f15] at he
      have r := rcd e he
      have f7 : D9 32 7 = D 32 7 := by rw [o 32 7 (by omega) (by omega) (by omega), d 32 7 (by omega) (by omega)]
      rw [M2 e he]
      by_cases w : (e : Int) < x
      · rw [if_pos w] at r ⊢
        exact (hG.2.2 e (by omega)).mv sh hz.2.1 hS.1 ob (hne e (by omega)) r (Int.le_of_eq f7.symm) l4
      · rw [if_neg w] at r ⊢
        exact (hG.2.2 (e + 1) (by omega)).mv sh hz.2.1 hS.1 ob (hne (e + 1) (by omega)) r (Int.le_of_eq f7.symm) l4
    · rw [o 3 6 (by omega) (by omega) (by omega), zwr_a (by omega), zwr_s]
  · have q1 : qEv D x = 1 := if_neg g
    have e81 := c81_f (x := x) (X := X) (D := D) h0.1 (by omega) hr (by omega)
    have e47 : cE (zc 47 2 [.ref 3, .int (Int32.ofInt x)] (zV (zU h X) D)) (qEv D x) 1 2 h X D := by
      refine ⟨q1, ?_⟩
      rw [zc]
      clear p hS
      simp (disch := first | omega | (simp (disch := omega) only [zwr_s, zwr_a, zwr_i, zn_put, zn_new, zn_fil, zn_chg, zV_n]; omega)) only [zentry, zs0, zs1, zs2, zs3, zg_lo, zg_st, zg_st2, zg_ald, zg_ast, zs_ia, zs_i0, zcs, zg_ii, zi_max, zi_min, zi_abi, zi_abf, zi_fb, zi_bf, lget, lst, lst2, lc2, Option.map_some, zso, if_true, if_false, zc1, and_true, true_and, and_self, List.length_nil, List.length_cons, Nat.zero_le, reduceIte, reduceCtorEq, false_and, and_false, Bool.false_eq_true, zca_some, zr0, zr100, Option.bind_some, zb_none, zb_some, zrc, or_true, true_or, eq_self, ne_eq, not_true_eq_false, not_false_eq_true, zrt_i, zrt_zb, zrt_b, zrt_c, zrt_l, zrt_f, zrt_r, zrt_n, zrt_v, zft_0, zft_1, zft_zb, zft_3, zft_4, zft_5, zft_7r, zft_7n, iI_t, zb_i, zb_0, zb_1, Nat.reduceAdd, Nat.reduceLeDiff, Nat.reduceEqDiff, Nat.reduceSub, Int.reduceNeg, iI_add, iI_sub, iI_mul, iI_neg, iI_n, zbz, zchar_id, zin, zwr_s, zwr_a, zwr_i, if_pos, if_neg, Int.toNat_natCast, Int.natCast_zero, Int.reduceToNat, z47, zc3, e81, zb_x, zt2]
    exact Or.inr e47
set_option maxRecDepth 20000 in
theorem t48 {x t : Int} {c : Nat} {h : zH} {X D : zD} (p : Inv c h X D) (hc : c < 600) (hr : iR x) (ht : iR t) : (qMv D x t = 0 ∧ ∃ (v : Int) (h1 : zH) (X1 D1 D9 : zD), (zc 48 4 [.ref 3, .int (Int32.ofInt x), .int (Int32.ofInt t)] (zV (zU h X) D)) = some (.inl (some (.int (Int32.ofInt v))), zV (zU h1 X1) D1) ∧ (-(12 * (c : Int)) ≤ v ∧ v ≤ 100000) ∧ (∀ a i, a < 32 → D9 a i = D1 a i) ∧ Inv (c + 1) h1 X1 D9 ∧ (∀ i, D9 39 i = D 39 i) ∧ D9 32 16 = D 32 16) ∨ cE (zc 48 4 [.ref 3, .int (Int32.ofInt x), .int (Int32.ofInt t)] (zV (zU h X) D)) (qMv D x t) 1 2 h X D := by
  have hS := p.2.1.2.1
  have h0 := hS.1.1
  have h15 := p.1.1.2.1.1
  have hz := p.2.2.2.2.2.1
  by_cases g : (0 ≤ x ∧ x ≤ D 32 15 - 1) ∧ (0 ≤ t ∧ t ≤ D 32 15 - 1)
  · have q0 : qMv D x t = 0 := if_pos g
    obtain ⟨gx, gt⟩ := g
    have e81 := c81_t (x := x) (X := X) (D := D) h0.1 (by omega) (by omega)
    have e82 := c81_t (x := t) (X := X) (D := D) h0.1 (by omega) (by omega)
    obtain ⟨X1, e173, M1, M2, M3, M4⟩ := c173 (D := D) (i := x) (Or.inr (Or.inl rfl)) hS.1 (by omega) (by omega)
    obtain ⟨k1, k2, k3⟩ := hS.K (e := x.toNat) (by omega)
    obtain ⟨h1, X2, e167, A1, A2, A3, A4, A5, A6⟩ := c167 (D := D) (i := t) (v := lsE X 5 x.toNat) (Or.inr (Or.inl rfl)) (by omega) hz.1 M1 (by omega) (by omega) hz.2.1 hz.2.2 (by omega) ⟨k1, k2, k3⟩
    have M41 : X1 5 1 = X 5 1 := M4 1 (by omega) (by omega)
    have e48 : cV (zc 48 4 [.ref 3, .int (Int32.ofInt x), .int (Int32.ofInt t)] (zV (zU h X) D)) 0 (((t - x).natAbs : Nat) : Int) h1 X2 (zwr D 3 6 0) := by
      refine ⟨rfl, ?_⟩
      rw [zc]
      clear p hS M1 M2 M3 M4 A1 A2 A3 A4 A5 A6 M41
      generalize lsE X 5 x.toNat = a at *
      simp (disch := first | omega | (simp (disch := omega) only [zwr_s, zwr_a, zwr_i, zn_put, zn_new, zn_fil, zn_chg, zV_n]; omega)) only [zentry, zs0, zs1, zs2, zs3, zg_lo, zg_st, zg_st2, zg_ald, zg_ast, zs_ia, zs_i0, zcs, zg_ii, zi_max, zi_min, zi_abi, zi_abf, zi_fb, zi_bf, lget, lst, lst2, lc2, Option.map_some, zso, if_true, if_false, zc1, and_true, true_and, and_self, List.length_nil, List.length_cons, Nat.zero_le, reduceIte, reduceCtorEq, false_and, and_false, Bool.false_eq_true, zca_some, zr0, zr100, Option.bind_some, zb_none, zb_some, zrc, or_true, true_or, eq_self, ne_eq, not_true_eq_false, not_false_eq_true, zrt_i, zrt_zb, zrt_b, zrt_c, zrt_l, zrt_f, zrt_r, zrt_n, zrt_v, zft_0, zft_1, zft_zb, zft_3, zft_4, zft_5, zft_7r, zft_7n, iI_t, zb_i, zb_0, zb_1, Nat.reduceAdd, Nat.reduceLeDiff, Nat.reduceEqDiff, Nat.reduceSub, Int.reduceNeg, iI_add, iI_sub, iI_mul, iI_neg, iI_n, zbz, zchar_id, zin, zwr_s, zwr_a, zwr_i, if_pos, if_neg, Int.toNat_natCast, Int.natCast_zero, Int.reduceToNat, z48, zc3, zuL (a := 5) (Or.inr (Or.inl rfl)) h0.1, zuE k1 k3, e81, e82, e173, e167, zt1, zt2, zt3]
    have d : ∀ a i, a ≠ 3 → a ≠ 68 → zwr (zwr D 3 6 0) 68 0 (((t - x).natAbs : Nat) : Int) a i = D a i := fun a i q1 q2 => by rw [zwr_a q2, zwr_a q1]
    have sh := A1
    have eD : ∀ a i, zwr (mMvD (zwr (zwr D 3 6 0) 68 0 (((t - x).natAbs : Nat) : Int)) x.toNat t.toNat) 32 32 0 a i = if a = 32 ∧ i = 32 then 0 else mMvD (zwr (zwr D 3 6 0) 68 0 (((t - x).natAbs : Nat) : Int)) x.toNat t.toNat a i := fun a i => zwr_e
    generalize zwr (mMvD (zwr (zwr D 3 6 0) 68 0 (((t - x).natAbs : Nat) : Int)) x.toNat t.toNat) 32 32 0 = D9 at *
    have o : ∀ a i, ¬ (a = 32 ∧ i = 32) → ¬ (40 ≤ a ∧ a ≤ 43) → ¬ (45 ≤ a ∧ a ≤ 57) → D9 a i = zwr (zwr D 3 6 0) 68 0 (((t - x).natAbs : Nat) : Int) a i := fun a i q1 q2 q3 => by
      rw [eD, if_neg (by omega)]
      unfold mMvD mSD mSU
      rw [if_neg (by omega), if_neg (by omega)]
      split
      · rw [if_neg (by omega), if_neg (by omega)]
      · rw [if_neg (by omega), if_neg (by omega)]
    have f15 : D9 32 15 = D 32 15 := by rw [o 32 15 (by omega) (by omega) (by omega), d 32 15 (by omega) (by omega)]
    have f7 : D9 32 7 = D 32 7 := by rw [o 32 7 (by omega) (by omega) (by omega), d 32 7 (by omega) (by omega)]
    have rcd : ∀ j : Nat, (j : Int) < D 32 15 → rcE D D9 (mvI x t j) j := fun j hj => by
      have v : ∀ a, (a = 40 ∨ a = 41 ∨ a = 42 ∨ a = 43 ∨ a = 57) → D9 a j = D a (mvI x t j) := fun a ha => by
        rw [eD, if_neg (by omega)]
        unfold mMvD mvI
        by_cases w0 : (j : Int) = t
        · rw [if_pos (by omega), if_pos w0, d a _ (by omega) (by omega)]
        · rw [if_neg (by omega), if_neg (by omega), if_neg w0]
          by_cases w1 : x.toNat < t.toNat
          · rw [if_pos w1]
            unfold mSD
            by_cases w2 : (j : Int) < t
            · rw [if_pos w2]
              by_cases w3 : (j : Int) < x
              · rw [if_neg (by omega), if_neg (by omega), if_pos w3, d a _ (by omega) (by omega)]
              · rw [if_pos (by omega), if_neg w3, d a _ (by omega) (by omega)]
            · rw [if_neg w2, if_neg (by omega), if_neg (by omega), if_neg (by omega), d a _ (by omega) (by omega)]
          · rw [if_neg w1]
            unfold mSU
            by_cases w2 : (j : Int) < t
            · rw [if_pos w2, if_neg (by omega), if_neg (by omega), if_pos (by omega), d a _ (by omega) (by omega)]
            · rw [if_neg w2]
              by_cases w3 : (j : Int) - 1 < x
              · rw [if_pos (by omega), if_pos w3, d a _ (by omega) (by omega)]
              · rw [if_neg (by omega), if_neg (by omega), if_neg w3, d a _ (by omega) (by omega)]
      refine ⟨⟨v 40 (by omega), v 41 (by omega), v 42 (by omega), v 43 (by omega), v 57 (by omega)⟩, fun k hk => ?_⟩
      rw [eD, if_neg (by omega)]
      unfold mMvD mvI
      by_cases w0 : (j : Int) = t
      · rw [if_neg (by omega), if_pos (by omega), if_pos w0, d _ _ (by omega) (by omega)]
      · rw [if_neg (by omega), if_neg (by omega), if_neg w0]
        by_cases w1 : x.toNat < t.toNat
        · rw [if_pos w1]
          unfold mSD
          by_cases w2 : (j : Int) < t
          · rw [if_pos w2]
            by_cases w3 : (j : Int) < x
            · rw [if_neg (by omega), if_neg (by omega), if_pos w3, d _ _ (by omega) (by omega)]
            · rw [if_neg (by omega), if_pos (by omega), if_neg w3, show 45 + j + 1 = 45 + (j + 1) by omega, d _ _ (by omega) (by omega)]
          · rw [if_neg w2, if_neg (by omega), if_neg (by omega), if_neg (by omega), d _ _ (by omega) (by omega)]
        · rw [if_neg w1]
          unfold mSU
          by_cases w2 : (j : Int) < t
          · rw [if_pos w2, if_neg (by omega), if_neg (by omega), if_pos (by omega), d _ _ (by omega) (by omega)]
          · rw [if_neg w2]
            by_cases w3 : (j : Int) - 1 < x
            · rw [if_neg (by omega), if_pos (by omega), if_pos w3, show 45 + j - 1 = 45 + (j - 1) by omega, d _ _ (by omega) (by omega)]
            · rw [if_neg (by omega), if_neg (by omega), if_neg w3, d _ _ (by omega) (by omega)]
    have ob : obD h X X2 5 := fun b k q0 q1 q2 => by
      rw [A4 b k q0 q1 (by rw [M41]; exact q2)]
      exact M3 b k q1 q2
    have el : ∀ j : Nat, (j : Int) < D 32 15 → lsE X2 5 j = lsE X 5 (mvI x t j) := fun j hj => by
      rw [A3 j (by omega)]
      unfold mvI
      by_cases w2 : (j : Int) < t
      · rw [if_pos w2, if_neg (by omega), if_pos w2, M2 j (by omega)]
        split <;> rfl
      · rw [if_neg w2]
        by_cases w0 : (j : Int) = t
        · rw [if_pos w0, if_pos w0]
        · rw [if_neg w0, if_neg w0, if_neg w2, M2 (j - 1) (by omega)]
          by_cases w3 : (j : Int) - 1 < x
          · rw [if_pos (by omega), if_pos w3]
          · rw [if_neg (by omega), if_neg w3, show j - 1 + 1 = j by omega]
    have hG := p.ev
    obtain ⟨hC9, l4⟩ := p.2.1.1.mv (D' := D9) sh hz.1 hz.2.1 hS.1 ob (by omega) (fun a i q => by rw [o a i (by omega) (by omega) (by omega), d a i (by omega) (by omega)])
    have hne : ∀ e : Nat, (e : Int) < D 32 15 → (X (lsE X 5 e) 3).toNat ≠ 5 := fun e he => by
      have := (hG.2.2 e he).2.2.1.1
      omega
    have z1 := A1.1
    have kz := sh.2.2.2 1 (by omega)
    obtain ⟨s1, s2, s3, -⟩ := sh
    refine Or.inl ⟨q0, (((t - x).natAbs : Nat) : Int), h1, _, _, D9, e48.2, ⟨by omega, by omega⟩, fun a i w => by rw [o a i (by omega) (by omega) (by omega), zwr_a (by omega)], ?_, fun i => by rw [o 39 i (by omega) (by omega) (by omega), d 39 i (by omega) (by omega)], by rw [o 32 16 (by omega) (by omega) (by omega), d 32 16 (by omega) (by omega)]⟩
    refine p.me hc (fun a i q1 q2 => ?_) (fun a i q => ?_) (by omega) (fun i => ?_) hC9 ⟨?_, fun i j hi hj => ?_, fun e he => ?_⟩ (Or.inl ?_) ⟨⟨by omega, kz.1.trans hz.2.1, kz.2.1.trans hz.2.2⟩, by omega, by omega⟩
    · rw [o a i (by omega) (by omega) (by omega), zwr_a (by omega), zwr_e, if_neg q2]
    · rw [o a i (by omega) (by omega) (by omega), d a i (by omega) (by omega)]
    · rw [eD, if_neg (by omega)]
      have m0 : m43 (zwr (zwr D 3 6 0) 68 0 (((t - x).natAbs : Nat) : Int)) := fun i => by rw [d 43 i (by omega) (by omega)]; exact p.1.2.2.1 i
      unfold mMvD
      split
      · exact m0 _
      · rw [if_neg (by omega)]
        split
        · exact m0.sd _ _ i
        · exact m0.su _ _ i
    · rw [f15]
      rw [show D 32 15 - 1 + 1 = D 32 15 by omega] at A2
      exact A2
    · rw [f15] at hi hj
      rw [el i hi, el j hj]
      intro w
      have gx' : 0 ≤ x ∧ x < D 32 15 := by omega
      have gt' : 0 ≤ t ∧ t < D 32 15 := by omega
      exact mvI_in gx' gt' hi hj (hS.2.1 _ _ (mvI_b gx' gt' hi) (mvI_b gx' gt' hj) w)
    · rw [f15] at he
      have gx' : 0 ≤ x ∧ x < D 32 15 := by omega
      have gt' : 0 ≤ t ∧ t < D 32 15 := by omega
      have hb := mvI_b gx' gt' he
      rw [el e he]
      exact (hG.2.2 (mvI x t e) hb).mv A1 hz.2.1 hS.1 ob (hne _ hb) (rcd e he) (Int.le_of_eq f7.symm) l4
    · rw [o 3 6 (by omega) (by omega) (by omega), zwr_a (by omega), zwr_s]
  · have q1 : qMv D x t = 1 := if_neg g
    have e48 : cE (zc 48 4 [.ref 3, .int (Int32.ofInt x), .int (Int32.ofInt t)] (zV (zU h X) D)) 1 1 2 h X D := by
      refine ⟨rfl, ?_⟩
      rw [zc]
      by_cases gx : 0 ≤ x ∧ x ≤ D 32 15 - 1
      · have e81 := c81_t (x := x) (X := X) (D := D) h0.1 (by omega) (by omega)
        have e82 := c81_f (x := t) (X := X) (D := D) h0.1 (by omega) ht (by omega)
        clear p hS
        simp (disch := first | omega | (simp (disch := omega) only [zwr_s, zwr_a, zwr_i, zn_put, zn_new, zn_fil, zn_chg, zV_n]; omega)) only [zentry, zs0, zs1, zs2, zs3, zg_lo, zg_st, zg_st2, zg_ald, zg_ast, zs_ia, zs_i0, zcs, zg_ii, zi_max, zi_min, zi_abi, zi_abf, zi_fb, zi_bf, lget, lst, lst2, lc2, Option.map_some, zso, if_true, if_false, zc1, and_true, true_and, and_self, List.length_nil, List.length_cons, Nat.zero_le, reduceIte, reduceCtorEq, false_and, and_false, Bool.false_eq_true, zca_some, zr0, zr100, Option.bind_some, zb_none, zb_some, zrc, or_true, true_or, eq_self, ne_eq, not_true_eq_false, not_false_eq_true, zrt_i, zrt_zb, zrt_b, zrt_c, zrt_l, zrt_f, zrt_r, zrt_n, zrt_v, zft_0, zft_1, zft_zb, zft_3, zft_4, zft_5, zft_7r, zft_7n, iI_t, zb_i, zb_0, zb_1, Nat.reduceAdd, Nat.reduceLeDiff, Nat.reduceEqDiff, Nat.reduceSub, Int.reduceNeg, iI_add, iI_sub, iI_mul, iI_neg, iI_n, zbz, zchar_id, zin, zwr_s, zwr_a, zwr_i, if_pos, if_neg, Int.toNat_natCast, Int.natCast_zero, Int.reduceToNat, z48, zc3, e81, e82, zb_x, zt2]
      · have e81 := c81_f (x := x) (X := X) (D := D) h0.1 (by omega) hr (by omega)
        clear p hS
        simp (disch := first | omega | (simp (disch := omega) only [zwr_s, zwr_a, zwr_i, zn_put, zn_new, zn_fil, zn_chg, zV_n]; omega)) only [zentry, zs0, zs1, zs2, zs3, zg_lo, zg_st, zg_st2, zg_ald, zg_ast, zs_ia, zs_i0, zcs, zg_ii, zi_max, zi_min, zi_abi, zi_abf, zi_fb, zi_bf, lget, lst, lst2, lc2, Option.map_some, zso, if_true, if_false, zc1, and_true, true_and, and_self, List.length_nil, List.length_cons, Nat.zero_le, reduceIte, reduceCtorEq, false_and, and_false, Bool.false_eq_true, zca_some, zr0, zr100, Option.bind_some, zb_none, zb_some, zrc, or_true, true_or, eq_self, ne_eq, not_true_eq_false, not_false_eq_true, zrt_i, zrt_zb, zrt_b, zrt_c, zrt_l, zrt_f, zrt_r, zrt_n, zrt_v, zft_0, zft_1, zft_zb, zft_3, zft_4, zft_5, zft_7r, zft_7n, iI_t, zb_i, zb_0, zb_1, Nat.reduceAdd, Nat.reduceLeDiff, Nat.reduceEqDiff, Nat.reduceSub, Int.reduceNeg, iI_add, iI_sub, iI_mul, iI_neg, iI_n, zbz, zchar_id, zin, zwr_s, zwr_a, zwr_i, if_pos, if_neg, Int.toNat_natCast, Int.natCast_zero, Int.reduceToNat, z48, zc3, e81, zb_x, zt2]
    exact Or.inr ⟨q1, e48.2⟩
set_option maxRecDepth 20000 in
theorem t50 {x sd o l : Int} {c : Nat} {h : zH} {X D : zD} (p : Inv c h X D) (hc : c < 600) (hr : iR x) (hs : 0 ≤ sd ∧ sd ≤ 65535) (ho : iR o) (hl : iR l) : (qAt D x sd o l = 0 ∧ ∃ (v : Int) (h1 : zH) (X1 D1 D9 : zD), (zc 50 6 [.ref 3, .int (Int32.ofInt x), .int (Int32.ofInt sd), .int (Int32.ofInt o), .int (Int32.ofInt l)] (zV (zU h X) D)) = some (.inl (some (.int (Int32.ofInt v))), zV (zU h1 X1) D1) ∧ (-(12 * (c : Int)) ≤ v ∧ v ≤ 100000) ∧ (∀ a i, a < 32 → D9 a i = D1 a i) ∧ Inv (c + 1) h1 X1 D9 ∧ (∀ i, D9 39 i = D 39 i) ∧ D9 32 16 = D 32 16) ∨ cE (zc 50 6 [.ref 3, .int (Int32.ofInt x), .int (Int32.ofInt sd), .int (Int32.ofInt o), .int (Int32.ofInt l)] (zV (zU h X) D)) (qAt D x sd o l) 1 2 h X D ∨ cE (zc 50 6 [.ref 3, .int (Int32.ofInt x), .int (Int32.ofInt sd), .int (Int32.ofInt o), .int (Int32.ofInt l)] (zV (zU h X) D)) (qAt D x sd o l) 2 0 h X D ∨ cE (zc 50 6 [.ref 3, .int (Int32.ofInt x), .int (Int32.ofInt sd), .int (Int32.ofInt o), .int (Int32.ofInt l)] (zV (zU h X) D)) (qAt D x sd o l) 3 1 h X D := by
  have h15 := p.1.1.2.1.1
  by_cases g0 : qAt D x sd o l = 0
  · have hx : (0 ≤ x ∧ x ≤ D 32 15 - 1) ∧ sdOk sd o l ∧ D 57 x.toNat ≠ 3 := by
      unfold qAt at g0
      by_cases g : 0 ≤ x ∧ x ≤ D 32 15 - 1
      · rw [if_pos g] at g0
        by_cases g1 : sdOk sd o l
        · rw [if_pos g1] at g0
          by_cases g2 : D 57 x.toNat = 3
          · rw [if_pos g2] at g0
            omega
          · exact ⟨g, g1, g2⟩
        · rw [if_neg g1] at g0
          omega
      · rw [if_neg g] at g0
        omega
    obtain ⟨hx, ⟨s1, s2, s3⟩, s4⟩ := hx
    have e87 : zc 87 2 [.ref 3, .int (Int32.ofInt x)] (zV (zU h X) D) = some (.inl (some (.ref (lsE X 5 x.toNat))), zV (zU h X) D) := by
      rcases c87 p hr with ⟨-, e⟩ | ⟨e, -⟩
      · exact e
      · unfold qEv at e
        rw [if_pos hx] at e
        omega
    have hS := p.2.1.2.1
    have hG := p.ev
    have hz := p.2.2.2.2.2.1
    have T := hG.2.2 x.toNat (by omega)
    obtain ⟨⟨k1, k2, k3⟩, tb, ⟨v1, v2, v3⟩, te, tf, ⟨tg1, tg2⟩⟩ := T
    have vx : X (lsE X 5 x.toNat) 3 = ((X (lsE X 5 x.toNat) 3).toNat : Int) := by omega
    have kl := v2.1.1
    -- the new object
    have shn : shX h (znew h 3 3 (fun i => zdef (zty 3 i))) 1 3 := shX.new
    have kn : zk (znew h 3 3 (fun i => zdef (zty 3 i))) (zn h) = 3 := by rw [zk_new, if_pos rfl]
    have nw := zW_new (h := h) (X := X) (D := D) (k := 3) (n := 3) (by omega) hz.1
    have e24 := c24 (X := zrw X (zn h) (dz 3)) (D := D) (o := o) (l := l) hz.1 kn hs
    have hXo : ∀ b k, b ≠ zn h → seI (zrw X (zn h) (dz 3)) (zn h) sd o l b k = X b k := fun b k q => by
      unfold seI
      rw [zwr_a q, zwr_a q, zwr_a q, zrw_a q]
    have hXs : seI (zrw X (zn h) (dz 3)) (zn h) sd o l (zn h) 0 = sd ∧ seI (zrw X (zn h) (dz 3)) (zn h) sd o l (zn h) 1 = o ∧ seI (zrw X (zn h) (dz 3)) (zn h) sd o l (zn h) 2 = l := by
      unfold seI zwr
      simp
    have n1 : zn (znew h 3 3 (fun i => zdef (zty 3 i))) = zn h + 1 := zn_new
    generalize hh1 : znew h 3 3 (fun i => zdef (zty 3 i)) = h1 at *
    generalize seI (zrw X (zn h) (dz 3)) (zn h) sd o l = X1 at *
    have kk1 := shn.2.2.2 1 (by omega)
    have hLn : (X (lsE X 5 x.toNat) 3).toNat < zn h := by omega
    have hl1 : lsO h1 X1 (X (lsE X 5 x.toNat) 3).toNat (D 57 x.toNat) 3 := by
      have := lsO_sh shn hLn v2
      obtain ⟨⟨w1, w2, w3⟩, w4, w5⟩ := this
      have q1 : ∀ k, X1 (X (lsE X 5 x.toNat) 3).toNat k = X (X (lsE X 5 x.toNat) 3).toNat k := fun k => hXo _ k (by omega)
      have hd : (X (X (lsE X 5 x.toNat) 3).toNat 1).toNat < zn h := by
        rcases v2.2.1 with ⟨-, q⟩ | ⟨q, -⟩ <;> omega
      have q2 : ∀ k, X1 (X (X (lsE X 5 x.toNat) 3).toNat 1).toNat k = X (X (X (lsE X 5 x.toNat) 3).toNat 1).toNat k := fun k => hXo _ k (by omega)
      unfold lsO
      rw [q1, q1, q2]
      refine ⟨⟨w1, w2, w3⟩, w4, fun i hi => ?_⟩
      rw [q2]
      exact w5 i hi
    have q11 : X1 (X (lsE X 5 x.toNat) 3).toNat 1 = X (X (lsE X 5 x.toNat) 3).toNat 1 := hXo _ 1 (by omega)
    obtain ⟨h2, X2, e165, A1, A2, A3, A4, A5, A6⟩ := c165 (D := D) (v := zn h) (by omega) (by omega) (by omega) hl1 (by omega) (by omega) (by rw [kk1.1]; exact hz.2.1) (by rw [kk1.2.1]; exact hz.2.2) ⟨hz.1, by omega, kn⟩
    have e175 := c175 (h := h) (X := X) (D := D) (a := (X (lsE X 5 x.toNat) 3).toNat) (by omega) kl
    rw [v2.1.2.1] at e175
    have e175b := c175 (h := h2) (X := X2) (D := D) (a := (X (lsE X 5 x.toNat) 3).toNat) (by omega) A2.1.1
    rw [A2.1.2.1] at e175b
    have kl2 := A2.1.1
    have sh := shn.tr A1
    have ob : obD h X X2 (X (lsE X 5 x.toNat) 3).toNat := fun b k q0 q1 q2 => by
      rw [A4 b k (by omega) q1 (by rw [q11]; exact q2)]
      exact hXo b k (by omega)
    have hLa : zk h (X (X (lsE X 5 x.toNat) 3).toNat 1).toNat = 31 ∨ zk h (X (X (lsE X 5 x.toNat) 3).toNat 1).toNat = 26 := by
      rcases v2.2.1 with ⟨-, g4⟩ | ⟨w1, w2, w3, w4, w5⟩
      · left
        rw [g4]
        exact hz.2.1
      · exact Or.inr w2
    have ea : ∀ m, X2 (lsE X 5 x.toNat) m = X (lsE X 5 x.toNat) m := fun m => ob _ m k2 (fun w => by rw [← w] at kl; omega) (fun w => by rw [← w] at hLa; omega)
    have ka1 : zk h1 (lsE X 5 x.toNat) = 1 := by rw [(shn.2.2.2 _ k2).1]; exact k3
    have ka2 : zk h2 (lsE X 5 x.toNat) = 1 := by rw [(sh.2.2.2 _ k2).1]; exact k3
    have kl1 : zk h1 (X (lsE X 5 x.toNat) 3).toNat = 7 := hl1.1.1
    have xa1 : ∀ k, X1 (lsE X 5 x.toNat) k = X (lsE X 5 x.toNat) k := fun k => hXo _ k (by omega)
    have vx1 : X1 (lsE X 5 x.toNat) 3 = ((X (lsE X 5 x.toNat) 3).toNat : Int) := by rw [xa1]; exact vx
    have vx2 : X2 (lsE X 5 x.toNat) 3 = ((X (lsE X 5 x.toNat) 3).toNat : Int) := by rw [ea]; exact vx
    have e50 : cV (zc 50 6 [.ref 3, .int (Int32.ofInt x), .int (Int32.ofInt sd), .int (Int32.ofInt o), .int (Int32.ofInt l)] (zV (zU h X) D)) 0 (D 57 x.toNat + 1) h2 X2 D := by
      refine ⟨rfl, ?_⟩
      rw [zc]
      clear hG hS p v2 v3 te tf tb tg2 A1 A2 A3 A4 A5 A6 shn sh hl1 ob hLa ea xa1 hXo q11 kk1 hXs
      generalize lsE X 5 x.toNat = a at *
      generalize (X a 3).toNat = b at *
      rcases s1 with s1 | s1
      · simp (disch := first | omega | (simp (disch := omega) only [zwr_s, zwr_a, zwr_i, zn_put, zn_new, zn_fil, zn_chg, zV_n]; omega)) only [zentry, zs0, zs1, zs2, zs3, zg_lo, zg_st, zg_st2, zg_ald, zg_ast, zs_ia, zs_i0, zcs, zg_ii, zi_max, zi_min, zi_abi, zi_abf, zi_fb, zi_bf, lget, lst, lst2, lc2, Option.map_some, zso, if_true, if_false, zc1, and_true, true_and, and_self, List.length_nil, List.length_cons, Nat.zero_le, reduceIte, reduceCtorEq, false_and, and_false, Bool.false_eq_true, zca_some, zr0, zr100, Option.bind_some, zb_none, zb_some, zrc, or_true, true_or, eq_self, ne_eq, not_true_eq_false, not_false_eq_true, zrt_i, zrt_zb, zrt_b, zrt_c, zrt_l, zrt_f, zrt_r, zrt_n, zrt_v, zft_0, zft_1, zft_zb, zft_3, zft_4, zft_5, zft_7r, zft_7n, iI_t, zb_i, zb_0, zb_1, Nat.reduceAdd, Nat.reduceLeDiff, Nat.reduceEqDiff, Nat.reduceSub, Int.reduceNeg, iI_add, iI_sub, iI_mul, iI_neg, iI_n, zbz, zchar_id, zin, zwr_s, zwr_a, zwr_i, if_pos, if_neg, Int.toNat_natCast, Int.natCast_zero, Int.reduceToNat, z50, zc3, zuE k1 k3, zuE k1 ka1, zuE k1 ka2, e87, vx, vx1, vx2, e175, e175b, nw, zW_n, hh1, e24, e165, kl, kl1, kl2, zt1, zt2, zt4, zW_k]
      · simp (disch := first | omega | (simp (disch := omega) only [zwr_s, zwr_a, zwr_i, zn_put, zn_new, zn_fil, zn_chg, zV_n]; omega)) only [zentry, zs0, zs1, zs2, zs3, zg_lo, zg_st, zg_st2, zg_ald, zg_ast, zs_ia, zs_i0, zcs, zg_ii, zi_max, zi_min, zi_abi, zi_abf, zi_fb, zi_bf, lget, lst, lst2, lc2, Option.map_some, zso, if_true, if_false, zc1, and_true, true_and, and_self, List.length_nil, List.length_cons, Nat.zero_le, reduceIte, reduceCtorEq, false_and, and_false, Bool.false_eq_true, zca_some, zr0, zr100, Option.bind_some, zb_none, zb_some, zrc, or_true, true_or, eq_self, ne_eq, not_true_eq_false, not_false_eq_true, zrt_i, zrt_zb, zrt_b, zrt_c, zrt_l, zrt_f, zrt_r, zrt_n, zrt_v, zft_0, zft_1, zft_zb, zft_3, zft_4, zft_5, zft_7r, zft_7n, iI_t, zb_i, zb_0, zb_1, Nat.reduceAdd, Nat.reduceLeDiff, Nat.reduceEqDiff, Nat.reduceSub, Int.reduceNeg, iI_add, iI_sub, iI_mul, iI_neg, iI_n, zbz, zchar_id, zin, zwr_s, zwr_a, zwr_i, if_pos, if_neg, Int.toNat_natCast, Int.natCast_zero, Int.reduceToNat, z50, zc3, zuE k1 k3, zuE k1 ka1, zuE k1 ka2, e87, vx, vx1, vx2, e175, e175b, nw, zW_n, hh1, e24, e165, kl, kl1, kl2, zt1, zt2, zt4, zW_k]
    have d : ∀ a i, a ≠ 68 → zwr D 68 0 (D 57 x.toNat + 1) a i = D a i := fun a i q2 => zwr_a q2
    have em := m119 (p := x) (sd := sd) (o := o) (l := l) (h := zU h2 X2) (D := zwr D 68 0 (D 57 x.toNat + 1)) hr hs ho hl (by rw [d 32 15 (by omega)]; exact h15) (fun e he => by
      rw [d 32 15 (by omega)] at he
      have q := p.1.2.1 e he
      have r : ∀ i, zwr D 68 0 (D 57 x.toNat + 1) (45 + e) i = D (45 + e) i := fun i => d _ _ (by omega)
      rw [d 57 e (by omega)]
      refine ⟨q.1, fun k hk => ?_⟩
      rw [r, r, r]
      exact q.2 k hk)
    have g1 : qAt (zwr D 68 0 (D 57 x.toNat + 1)) x sd o l = 0 := by
      unfold qAt
      rw [d 32 15 (by omega), d 57 _ (by omega)]
      exact g0
    rw [if_pos g1, if_pos g1, d 57 _ (by omega)] at em
    have eD : ∀ a i, mAtD (zwr D 68 0 (D 57 x.toNat + 1)) x sd o l a i = if a = 57 ∧ i = x.toNat then D 57 x.toNat + 1 else if a = 45 + x.toNat ∧ i = 3 * (D 57 x.toNat).toNat + 2 then l else if a = 45 + x.toNat ∧ i = 3 * (D 57 x.toNat).toNat + 1 then o else if a = 45 + x.toNat ∧ i = 3 * (D 57 x.toNat).toNat then (if sd = 115 then 0 else 1) else if a = 32 ∧ i = 32 then 0 else zwr D 68 0 (D 57 x.toNat + 1) a i := fun a i => by
      unfold mAtD
      rw [d 57 _ (by omega), zwr_e, zwr_e, zwr_e, zwr_e, zwr_e]
    generalize mAtD (zwr D 68 0 (D 57 x.toNat + 1)) x sd o l = D9 at *
    have o9 : ∀ a i, ¬ (a = 32 ∧ i = 32) → a ≠ 57 → a ≠ 45 + x.toNat → a ≠ 68 → D9 a i = D a i := fun a i q1 q2 q3 q4 => by
      rw [eD, if_neg (by omega), if_neg (by omega), if_neg (by omega), if_neg (by omega), if_neg (by omega), d a i q4]
    have o57 : ∀ j, j ≠ x.toNat → D9 57 j = D 57 j := fun j q => by
      rw [eD, if_neg (by omega), if_neg (by omega), if_neg (by omega), if_neg (by omega), if_neg (by omega), d _ _ (by omega)]
    have f15 : D9 32 15 = D 32 15 := o9 32 15 (by omega) (by omega) (by omega) (by omega)
    have f7 : D9 32 7 = D 32 7 := o9 32 7 (by omega) (by omega) (by omega) (by omega)
    have h4L : 4 ≠ (X (lsE X 5 x.toNat) 3).toNat := by omega
    have h5L : 5 ≠ (X (lsE X 5 x.toNat) 3).toNat := by omega
    obtain ⟨hC9, l4⟩ := p.2.1.1.mv (D' := D9) sh hz.1 hz.2.1 v2 ob h4L (fun a i q => o9 a i (by omega) (by omega) (by omega) (by omega))
    obtain ⟨l51, l52⟩ := lsO_k sh hz.2.1 v2 hS.1 (by omega) h5L ob
    have hX : ∀ n : Nat, (n : Int) < D 32 15 → ∀ m, X2 (lsE X 5 n) m = X (lsE X 5 n) m := fun n hn m => by
      obtain ⟨z1, z2, z3⟩ := hS.K hn
      exact ob _ m z2 (fun w => by rw [← w] at kl; omega) (fun w => by rw [← w] at hLa; omega)
    have z1 := sh.1
    have z2 := sh.2.1
    have z3 := sh.2.2.1
    have kz := sh.2.2.2 1 (by omega)
    refine Or.inl ⟨g0, D 57 x.toNat + 1, h2, _, _, D9, e50.2, ⟨by omega, by omega⟩, fun a i w => o9 a i (by omega) (by omega) (by omega) (by omega), ?_, fun i => o9 39 i (by omega) (by omega) (by omega) (by omega), o9 32 16 (by omega) (by omega) (by omega) (by omega)⟩
    refine p.me hc (fun a i q1 q2 => o9 a i (by omega) (by omega) (by omega) (by omega)) (fun a i q => o9 a i (by omega) (by omega) (by omega) (by omega)) (by omega) (fun i => ?_) hC9 ⟨by rw [f15]; exact l51, fun i j hi hj => ?_, fun e he => ?_⟩ ?_ ⟨⟨by omega, kz.1.trans hz.2.1, kz.2.1.trans hz.2.2⟩, by omega, by omega⟩
    · rw [o9 43 i (by omega) (by omega) (by omega) (by omega)]
      exact p.1.2.2.1 i
    · rw [f15] at hi hj
      rw [l52 i hi, l52 j hj]
      exact hS.2.1 i j hi hj
    · rw [f15] at he
      rw [l52 e he]
      by_cases ge : e = x.toNat
      · subst ge
        have c57 : D9 57 x.toNat = D 57 x.toNat + 1 := by rw [eD, if_pos ⟨rfl, rfl⟩]
        have r40 : ∀ a, 40 ≤ a → a ≤ 43 → D9 a x.toNat = D a x.toNat := fun a q1 q2 => o9 a _ (by omega) (by omega) (by omega) (by omega)
        have row : ∀ k, D9 (45 + x.toNat) k = if k = 3 * (D 57 x.toNat).toNat + 2 then l else if k = 3 * (D 57 x.toNat).toNat + 1 then o else if k = 3 * (D 57 x.toNat).toNat then (if sd = 115 then 0 else 1) else D (45 + x.toNat) k := fun k => by
          rw [eD, if_neg (by omega)]
          by_cases w1 : k = 3 * (D 57 x.toNat).toNat + 2
          · rw [if_pos ⟨rfl, w1⟩, if_pos w1]
          · rw [if_neg (fun q => w1 q.2), if_neg w1]
            by_cases w2 : k = 3 * (D 57 x.toNat).toNat + 1
            · rw [if_pos ⟨rfl, w2⟩, if_pos w2]
            · rw [if_neg (fun q => w2 q.2), if_neg w2]
              by_cases w3 : k = 3 * (D 57 x.toNat).toNat
              · rw [if_pos ⟨rfl, w3⟩, if_pos w3]
              · rw [if_neg (fun q => w3 q.2), if_neg w3, if_neg (by omega), d _ _ (by omega)]
        have rlo : ∀ k i : Nat, (k : Int) < D 57 x.toNat → i < 3 → D9 (45 + x.toNat) (3 * k + i) = D (45 + x.toNat) (3 * k + i) := fun k i q1 q2 => by
          rw [row, if_neg (by omega), if_neg (by omega), if_neg (by omega)]
        have rhi : ∀ k : Nat, k = (D 57 x.toNat).toNat → D9 (45 + x.toNat) (3 * k) = (if sd = 115 then 0 else 1) ∧ D9 (45 + x.toNat) (3 * k + 1) = o ∧ D9 (45 + x.toNat) (3 * k + 2) = l := fun k q1 => by
          subst q1
          refine ⟨?_, ?_, ?_⟩
          · rw [row, if_neg (by omega), if_neg (by omega), if_pos rfl]
          · rw [row, if_neg (by omega), if_pos rfl]
          · rw [row, if_pos rfl]
        clear row
        refine ⟨⟨k1, by omega, ka2⟩, ?_, ?_, fun k hk => ?_, ?_, ?_⟩
        · rw [ea, ea, ea, ea, r40 40 (by omega) (by omega), r40 41 (by omega) (by omega), r40 42 (by omega) (by omega), r40 43 (by omega) (by omega), l4 _ (by omega)]
          exact tb
        · rw [ea, c57]
          refine ⟨by omega, A2, ?_⟩
          rw [A5 100 (by omega) (by omega) (by omega), hXo _ _ (by omega)]
          exact v3
        · rw [c57] at hk
          rw [ea, A3 k (by omega)]
          by_cases w : (k : Int) < D 57 x.toNat
          · have lk : lsE X1 (X (lsE X 5 x.toNat) 3).toNat k = lsE X (X (lsE X 5 x.toNat) 3).toNat k := by
              show (X1 (X1 (X (lsE X 5 x.toNat) 3).toNat 1).toNat k).toNat = (X (X (X (lsE X 5 x.toNat) 3).toNat 1).toNat k).toNat
              rw [q11, hXo _ _ (by
                rcases v2.2.1 with ⟨-, q⟩ | ⟨q, -⟩ <;> omega)]
            obtain ⟨u1, u2, u3⟩ := v2.2.2 k w
            have u3 : zk h (lsE X (X (lsE X 5 x.toNat) 3).toNat k) = 3 := u3
            have u4 : lsE X (X (lsE X 5 x.toNat) 3).toNat k < zn h := by
              show (X (X (X (lsE X 5 x.toNat) 3).toNat 1).toNat k).toNat < zn h
              omega
            have es : ∀ m, X2 (lsE X (X (lsE X 5 x.toNat) 3).toNat k) m = X (lsE X (X (lsE X 5 x.toNat) 3).toNat k) m := fun m => ob _ m u4 (fun q => by rw [q] at u3; omega) (fun q => by rw [← q] at hLa; omega)
            have y0 := rlo k 0 w (by omega)
            rw [Nat.add_zero] at y0
            rw [if_pos w, lk, es, es, es, y0, rlo k 1 w (by omega), rlo k 2 w (by omega)]
            exact te k w
          · have wk : k = (D 57 x.toNat).toNat := by omega
            have es : ∀ m, X2 (zn h) m = X1 (zn h) m := fun m => A4 _ m (by omega) (by omega) (by
              rw [q11]
              rcases v2.2.1 with ⟨-, q⟩ | ⟨q, -⟩ <;> omega)
            obtain ⟨y1, y2, y3⟩ := hXs
            obtain ⟨r0, r1, r2⟩ := rhi k wk
            rw [if_neg w, if_pos (by omega), es, es, es, r0, r1, r2, y1]
            refine ⟨?_, y2, y3⟩
            rcases s1 with s1 | s1
            · rw [if_pos s1, if_pos rfl]
              exact s1
            · rw [if_neg (show ¬ sd = 115 by omega), if_neg (by omega)]
              exact s1
        · rw [r40 40 (by omega) (by omega), r40 41 (by omega) (by omega), r40 42 (by omega) (by omega), r40 43 (by omega) (by omega), f7]
          exact tf
        · rw [c57]
          refine ⟨by omega, fun k hk => ?_⟩
          by_cases w : (k : Int) < D 57 x.toNat
          · have y0 := rlo k 0 w (by omega)
            rw [Nat.add_zero] at y0
            rw [y0, rlo k 1 w (by omega), rlo k 2 w (by omega)]
            exact tg2 k w
          · obtain ⟨r0, r1, r2⟩ := rhi k (by omega)
            rw [r0, r1, r2]
            refine ⟨?_, s2, s3⟩
            split <;> omega
      · have hne : (X (lsE X 5 e) 3).toNat ≠ (X (lsE X 5 x.toNat) 3).toNat := fun w => by
          have q1 := (hG.2.2 e he).2.2.1.2.2
          rw [w, v3] at q1
          exact ge (hS.2.1 e _ he (by omega) (by omega))
        refine (hG.2.2 e he).mv sh hz.2.1 v2 ob hne ⟨⟨o9 _ _ (by omega) (by omega) (by omega) (by omega), o9 _ _ (by omega) (by omega) (by omega) (by omega), o9 _ _ (by omega) (by omega) (by omega) (by omega), o9 _ _ (by omega) (by omega) (by omega) (by omega), o57 _ ge⟩, fun k hk => o9 _ _ (by omega) (by omega) (by omega) (by omega)⟩ (Int.le_of_eq f7.symm) l4
    · rcases p.2.2.2.2.1 with L | ⟨L1, L2⟩
      · exact Or.inl (by rw [o9 3 6 (by omega) (by omega) (by omega) (by omega)]; exact L)
      · refine Or.inr ⟨by rw [o9 3 6 (by omega) (by omega) (by omega) (by omega)]; exact L1, ?_⟩
        have le : lEq D D9 := ⟨⟨f15, o9 32 16 (by omega) (by omega) (by omega) (by omega)⟩, fun e he => ⟨o9 _ _ (by omega) (by omega) (by omega) (by omega), o9 _ _ (by omega) (by omega) (by omega) (by omega), o9 _ _ (by omega) (by omega) (by omega) (by omega), o9 _ _ (by omega) (by omega) (by omega) (by omega)⟩, fun i hi => ⟨o9 _ _ (by omega) (by omega) (by omega) (by omega), o9 _ _ (by omega) (by omega) (by omega) (by omega), o9 _ _ (by omega) (by omega) (by omega) (by omega), o9 _ _ (by omega) (by omega) (by omega) (by omega), o9 _ _ (by omega) (by omega) (by omega) (by omega), o9 _ _ (by omega) (by omega) (by omega) (by omega)⟩, Or.inl f7⟩
        unfold laO
        rw [lyF_g le p.1.1.1 p.1.1.2.1 p.1.1.2.2.1, o9 6 3 (by omega) (by omega) (by omega) (by omega), f15]
        refine ⟨L2.1, tRp_c (fun k _ => ⟨o9 _ _ (by omega) (by omega) (by omega) (by omega), o9 _ _ (by omega) (by omega) (by omega) (by omega), o9 _ _ (by omega) (by omega) (by omega) (by omega)⟩) L2.2.1, fun n hn => ?_⟩
        obtain ⟨u1, u2, u3⟩ := L2.2.2 n hn
        rw [l52 n hn, hX n hn, hX n hn]
        exact ⟨evR_c u1 (hX n hn _) (hX n hn _) (hX n hn _) (fun _ => rfl), u2, u3⟩
  · have bt := qAt_v (D := D) (p := x) (sd := sd) (o := o) (l := l)
    exact Or.inr (q8_f p hr hs ho hl g0)
set_option maxRecDepth 20000 in
theorem t46 {x cl md st : Int} {c : Nat} {h : zH} {X D : zD} (p : Inv c h X D) (hc : c < 600) (hr : iR x) (hcl : iR cl) (hm : 0 ≤ md ∧ md ≤ 65535) (hst : iR st) : (qIn D x cl md st = 0 ∧ ∃ (v : Int) (h1 : zH) (X1 D1 D9 : zD), (zc 46 6 [.ref 3, .int (Int32.ofInt x), .int (Int32.ofInt cl), .int (Int32.ofInt md), .int (Int32.ofInt st)] (zV (zU h X) D)) = some (.inl (some (.int (Int32.ofInt v))), zV (zU h1 X1) D1) ∧ (-(12 * (c : Int)) ≤ v ∧ v ≤ 100000) ∧ (∀ a i, a < 32 → D9 a i = D1 a i) ∧ Inv (c + 1) h1 X1 D9 ∧ (∀ i, D9 39 i = D 39 i) ∧ D9 32 16 = D 32 16) ∨ cE (zc 46 6 [.ref 3, .int (Int32.ofInt x), .int (Int32.ofInt cl), .int (Int32.ofInt md), .int (Int32.ofInt st)] (zV (zU h X) D)) (qIn D x cl md st) 1 2 h X D ∨ cE (zc 46 6 [.ref 3, .int (Int32.ofInt x), .int (Int32.ofInt cl), .int (Int32.ofInt md), .int (Int32.ofInt st)] (zV (zU h X) D)) (qIn D x cl md st) 2 3 h X D ∨ cE (zc 46 6 [.ref 3, .int (Int32.ofInt x), .int (Int32.ofInt cl), .int (Int32.ofInt md), .int (Int32.ofInt st)] (zV (zU h X) D)) (qIn D x cl md st) 3 0 h X D ∨ cE (zc 46 6 [.ref 3, .int (Int32.ofInt x), .int (Int32.ofInt cl), .int (Int32.ofInt md), .int (Int32.ofInt st)] (zV (zU h X) D)) (qIn D x cl md st) 4 1 h X D := by
  have h15 := p.1.1.2.1.1
  have h7 := p.1.1.1.1
  by_cases g0 : qIn D x cl md st = 0
  · have hx : (0 ≤ cl ∧ cl ≤ D 32 7 - 1) ∧ (0 ≤ x ∧ x ≤ D 32 15) ∧ D 38 cl.toNat ≠ 1 ∧ mdOk md st ∧ D 32 15 ≠ 12 := by
      unfold qIn at g0
      by_cases g : (0 ≤ cl ∧ cl ≤ D 32 7 - 1) ∧ (0 ≤ x ∧ x ≤ D 32 15)
      · rw [if_pos g] at g0
        by_cases g1 : D 38 cl.toNat = 1
        · rw [if_pos g1] at g0
          omega
        · rw [if_neg g1] at g0
          by_cases g2 : mdOk md st
          · rw [if_pos g2] at g0
            by_cases g3 : D 32 15 = 12
            · rw [if_pos g3] at g0
              omega
            · exact ⟨g.1, g.2, g1, g2, g3⟩
          · rw [if_neg g2] at g0
            omega
      · rw [if_neg g] at g0
        omega
    obtain ⟨gc, gx, g38, gm, g12⟩ := hx
    have e86 : zc 86 3 [.ref 3, .int (Int32.ofInt cl)] (zV (zU h X) D) = some (.inl (some (.ref (lsE X 4 cl.toNat))), zV (zU h X) D) := by
      rcases c86 p hcl with ⟨-, e⟩ | ⟨e, -⟩ | ⟨e, -⟩
      · exact e
      · unfold mPlT at e
        rw [if_pos gc, if_neg g38] at e
        omega
      · unfold mPlT at e
        rw [if_pos gc, if_neg g38] at e
        omega
    have hS := p.2.1.2.1
    have hG := p.ev
    have hz := p.2.2.2.2.2.1
    have h0 := hS.1.1
    have e175 := c175 (h := h) (X := X) (D := D) (a := 5) (by omega) h0.1
    rw [h0.2.1] at e175
    -- the new objects
    have nw := zW_new (h := h) (X := X) (D := D) (k := 1) (n := 10) (by omega) hz.1
    have sh1 : shX h (znew h 1 10 (fun i => zdef (zty 1 i))) 1 10 := shX.new
    have kv : zk (znew h 1 10 (fun i => zdef (zty 1 i))) (zn h) = 1 := by rw [zk_new, if_pos rfl]
    have n1 : zn (znew h 1 10 (fun i => zdef (zty 1 i))) = zn h + 1 := zn_new
    generalize hh1 : znew h 1 10 (fun i => zdef (zty 1 i)) = h1 at *
    have e2 := c2 (X := zrw X (zn h) (dz 1)) (D := D) (cl := lsE X 4 cl.toNat) (st := st) hz.1 (by omega) kv hm
    rw [n1] at e2
    have sh2 : shX h1 (znew h1 7 3 (fun i => zdef (zty 7 i))) 1 3 := shX.new
    have kl : zk (znew h1 7 3 (fun i => zdef (zty 7 i))) (zn h + 1) = 7 := by rw [zk_new, if_pos n1.symm]
    have n2 : zn (znew h1 7 3 (fun i => zdef (zty 7 i))) = zn h + 2 := by rw [zn_new, n1]
    generalize hh2 : znew h1 7 3 (fun i => zdef (zty 7 i)) = h2 at *
    obtain ⟨⟨i0, i1, i2, i3, i4⟩, ⟨j1, j2⟩, io⟩ := evI_v (X := zrw X (zn h) (dz 1)) (a := zn h) (l := zn h + 1) (cl := lsE X 4 cl.toNat) (md := md) (st := st) (by omega)
    rw [← zU_g (h := h2) (a := zn h + 1) (i := 100) (x := (zn h : Int)) (by omega)] at e2
    have Y0 : ∀ b k, b ≠ zn h → b ≠ zn h + 1 → zwr (evI (zrw X (zn h) (dz 1)) (zn h) (zn h + 1) (lsE X 4 cl.toNat) md st) (zn h + 1) 100 (zn h : Int) b k = X b k := fun b k q1 q2 => by rw [zwr_a q2, io b k q1 q2, zrw_a q1]
    have Yv : ∀ k, zwr (evI (zrw X (zn h) (dz 1)) (zn h) (zn h + 1) (lsE X 4 cl.toNat) md st) (zn h + 1) 100 (zn h : Int) (zn h) k = evI (zrw X (zn h) (dz 1)) (zn h) (zn h + 1) (lsE X 4 cl.toNat) md st (zn h) k := fun k => zwr_a (by omega)
    have Yl : ∀ k, k ≠ 100 → zwr (evI (zrw X (zn h) (dz 1)) (zn h) (zn h + 1) (lsE X 4 cl.toNat) md st) (zn h + 1) 100 (zn h : Int) (zn h + 1) k = evI (zrw X (zn h) (dz 1)) (zn h) (zn h + 1) (lsE X 4 cl.toNat) md st (zn h + 1) k := fun k q => zwr_i q
    have Yg : zwr (evI (zrw X (zn h) (dz 1)) (zn h) (zn h + 1) (lsE X 4 cl.toNat) md st) (zn h + 1) 100 (zn h : Int) (zn h + 1) 100 = zn h := zwr_s
    generalize zwr (evI (zrw X (zn h) (dz 1)) (zn h) (zn h + 1) (lsE X 4 cl.toNat) md st) (zn h + 1) 100 (zn h : Int) = Y at *
    rw [← Yv] at i0 i1 i2 i3 i4
    rw [← Yl 1 (by omega)] at j1
    rw [← Yl 2 (by omega)] at j2
    have sh12 := sh1.tr sh2
    have kk1 := sh12.2.2.2 1 (by omega)
    obtain ⟨lY, lYe⟩ := lsO_n sh12 (by omega) (fun b k q => Y0 b k (by omega) (by omega)) (by omega) hS.1
    have kv2 : zk h2 (zn h) = 1 := by rw [(sh2.2.2.2 _ (by omega)).1]; exact kv
    obtain ⟨h3, X3, e167, A1, A2, A3, A4, A5, A6⟩ := c167 (D := D) (i := x) (v := zn h) (Or.inr (Or.inl rfl)) (by omega) (by omega) lY (by omega) (by omega) (by rw [kk1.1]; exact hz.2.1) (by rw [kk1.2.1]; exact hz.2.2) (by omega) ⟨hz.1, by omega, kv2⟩
    have k5 : zk h2 5 = 7 := lY.1.1
    have e175b := c175 (h := h3) (X := X3) (D := zwr D 3 6 0) (a := 5) (by omega) A2.1.1
    rw [A2.1.2.1] at e175b
    have e46 : cV (zc 46 6 [.ref 3, .int (Int32.ofInt x), .int (Int32.ofInt cl), .int (Int32.ofInt md), .int (Int32.ofInt st)] (zV (zU h X) D)) 0 (D 32 15 + 1) h3 X3 (zwr D 3 6 0) := by
      refine ⟨rfl, ?_⟩
      rw [zc]
      have gm : md = 102 ∨ ((md = 99 ∨ md = 112 ∨ md = 106) ∧ (0 ≤ st ∧ st ≤ 3599)) := gm
      have k53 := A2.1.1
      clear hG hS p A1 A2 A3 A4 A5 A6 sh1 sh2 sh12 io Y0 Yv Yl Yg i0 i1 i2 i3 i4 j1 j2 lY lYe kk1
      generalize lsE X 4 cl.toNat = cr at *
      rcases gm with gm | ⟨gm | gm | gm, gs⟩
      · subst gm
        simp (disch := first | omega | (simp (disch := omega) only [zwr_s, zwr_a, zwr_i, zn_put, zn_new, zn_fil, zn_chg, zV_n]; omega)) only [zentry, zs0, zs1, zs2, zs3, zg_lo, zg_st, zg_st2, zg_ald, zg_ast, zs_ia, zs_i0, zcs, zg_ii, zi_max, zi_min, zi_abi, zi_abf, zi_fb, zi_bf, lget, lst, lst2, lc2, Option.map_some, zso, if_true, if_false, zc1, and_true, true_and, and_self, List.length_nil, List.length_cons, Nat.zero_le, reduceIte, reduceCtorEq, false_and, and_false, Bool.false_eq_true, zca_some, zr0, zr100, Option.bind_some, zb_none, zb_some, zrc, or_true, true_or, eq_self, ne_eq, not_true_eq_false, not_false_eq_true, zrt_i, zrt_zb, zrt_b, zrt_c, zrt_l, zrt_f, zrt_r, zrt_n, zrt_v, zft_0, zft_1, zft_zb, zft_3, zft_4, zft_5, zft_7r, zft_7n, iI_t, zb_i, zb_0, zb_1, Nat.reduceAdd, Nat.reduceLeDiff, Nat.reduceEqDiff, Nat.reduceSub, Int.reduceNeg, iI_add, iI_sub, iI_mul, iI_neg, iI_n, zbz, zchar_id, zin, zwr_s, zwr_a, zwr_i, if_pos, if_neg, Int.toNat_natCast, Int.natCast_zero, Int.reduceToNat, z46, zc3, zuL (a := 5) (Or.inr (Or.inl rfl)) h0.1, e175, e175b, e86, nw, zW_n, hh1, hh2, e2, e167, k5, k53, zt1, zt2, zt3, zt4, zW_k]
      · subst gm
        simp (disch := first | omega | (simp (disch := omega) only [zwr_s, zwr_a, zwr_i, zn_put, zn_new, zn_fil, zn_chg, zV_n]; omega)) only [zentry, zs0, zs1, zs2, zs3, zg_lo, zg_st, zg_st2, zg_ald, zg_ast, zs_ia, zs_i0, zcs, zg_ii, zi_max, zi_min, zi_abi, zi_abf, zi_fb, zi_bf, lget, lst, lst2, lc2, Option.map_some, zso, if_true, if_false, zc1, and_true, true_and, and_self, List.length_nil, List.length_cons, Nat.zero_le, reduceIte, reduceCtorEq, false_and, and_false, Bool.false_eq_true, zca_some, zr0, zr100, Option.bind_some, zb_none, zb_some, zrc, or_true, true_or, eq_self, ne_eq, not_true_eq_false, not_false_eq_true, zrt_i, zrt_zb, zrt_b, zrt_c, zrt_l, zrt_f, zrt_r, zrt_n, zrt_v, zft_0, zft_1, zft_zb, zft_3, zft_4, zft_5, zft_7r, zft_7n, iI_t, zb_i, zb_0, zb_1, Nat.reduceAdd, Nat.reduceLeDiff, Nat.reduceEqDiff, Nat.reduceSub, Int.reduceNeg, iI_add, iI_sub, iI_mul, iI_neg, iI_n, zbz, zchar_id, zin, zwr_s, zwr_a, zwr_i, if_pos, if_neg, Int.toNat_natCast, Int.natCast_zero, Int.reduceToNat, z46, zc3, zuL (a := 5) (Or.inr (Or.inl rfl)) h0.1, e175, e175b, e86, nw, zW_n, hh1, hh2, e2, e167, k5, k53, zt1, zt2, zt3, zt4, zW_k]
      · subst gm
        simp (disch := first | omega | (simp (disch := omega) only [zwr_s, zwr_a, zwr_i, zn_put, zn_new, zn_fil, zn_chg, zV_n]; omega)) only [zentry, zs0, zs1, zs2, zs3, zg_lo, zg_st, zg_st2, zg_ald, zg_ast, zs_ia, zs_i0, zcs, zg_ii, zi_max, zi_min, zi_abi, zi_abf, zi_fb, zi_bf, lget, lst, lst2, lc2, Option.map_some, zso, if_true, if_false, zc1, and_true, true_and, and_self, List.length_nil, List.length_cons, Nat.zero_le, reduceIte, reduceCtorEq, false_and, and_false, Bool.false_eq_true, zca_some, zr0, zr100, Option.bind_some, zb_none, zb_some, zrc, or_true, true_or, eq_self, ne_eq, not_true_eq_false, not_false_eq_true, zrt_i, zrt_zb, zrt_b, zrt_c, zrt_l, zrt_f, zrt_r, zrt_n, zrt_v, zft_0, zft_1, zft_zb, zft_3, zft_4, zft_5, zft_7r, zft_7n, iI_t, zb_i, zb_0, zb_1, Nat.reduceAdd, Nat.reduceLeDiff, Nat.reduceEqDiff, Nat.reduceSub, Int.reduceNeg, iI_add, iI_sub, iI_mul, iI_neg, iI_n, zbz, zchar_id, zin, zwr_s, zwr_a, zwr_i, if_pos, if_neg, Int.toNat_natCast, Int.natCast_zero, Int.reduceToNat, z46, zc3, zuL (a := 5) (Or.inr (Or.inl rfl)) h0.1, e175, e175b, e86, nw, zW_n, hh1, hh2, e2, e167, k5, k53, zt1, zt2, zt3, zt4, zW_k]
      · subst gm
        simp (disch := first | omega | (simp (disch := omega) only [zwr_s, zwr_a, zwr_i, zn_put, zn_new, zn_fil, zn_chg, zV_n]; omega)) only [zentry, zs0, zs1, zs2, zs3, zg_lo, zg_st, zg_st2, zg_ald, zg_ast, zs_ia, zs_i0, zcs, zg_ii, zi_max, zi_min, zi_abi, zi_abf, zi_fb, zi_bf, lget, lst, lst2, lc2, Option.map_some, zso, if_true, if_false, zc1, and_true, true_and, and_self, List.length_nil, List.length_cons, Nat.zero_le, reduceIte, reduceCtorEq, false_and, and_false, Bool.false_eq_true, zca_some, zr0, zr100, Option.bind_some, zb_none, zb_some, zrc, or_true, true_or, eq_self, ne_eq, not_true_eq_false, not_false_eq_true, zrt_i, zrt_zb, zrt_b, zrt_c, zrt_l, zrt_f, zrt_r, zrt_n, zrt_v, zft_0, zft_1, zft_zb, zft_3, zft_4, zft_5, zft_7r, zft_7n, iI_t, zb_i, zb_0, zb_1, Nat.reduceAdd, Nat.reduceLeDiff, Nat.reduceEqDiff, Nat.reduceSub, Int.reduceNeg, iI_add, iI_sub, iI_mul, iI_neg, iI_n, zbz, zchar_id, zin, zwr_s, zwr_a, zwr_i, if_pos, if_neg, Int.toNat_natCast, Int.natCast_zero, Int.reduceToNat, z46, zc3, zuL (a := 5) (Or.inr (Or.inl rfl)) h0.1, e175, e175b, e86, nw, zW_n, hh1, hh2, e2, e167, k5, k53, zt1, zt2, zt3, zt4, zW_k]
    have d : ∀ a i, a ≠ 3 → a ≠ 68 → zwr (zwr D 3 6 0) 68 0 (D 32 15 + 1) a i = D a i := fun a i q1 q2 => by rw [zwr_a q2, zwr_a q1]
    have em := m115 (p := x) (c := cl) (md := md) (st := st) (h := zU h3 X3) (D := zwr (zwr D 3 6 0) 68 0 (D 32 15 + 1)) hr hcl hm hst (by rw [d 32 7 (by omega) (by omega)]; exact h7) (by rw [d 32 15 (by omega) (by omega)]; exact h15) (fun i => by rw [d 38 i (by omega) (by omega)]; exact (p.1.2.2.2.2 i).2) (fun i => by rw [d 43 i (by omega) (by omega)]; exact p.1.2.2.1 i)
    have g1 : qIn (zwr (zwr D 3 6 0) 68 0 (D 32 15 + 1)) x cl md st = 0 := by
      unfold qIn
      rw [d 32 15 (by omega) (by omega), d 32 7 (by omega) (by omega), d 38 _ (by omega) (by omega)]
      exact g0
    rw [if_pos g1, if_pos g1, d 32 15 (by omega) (by omega)] at em
    have eD : ∀ a i, mInD (zwr (zwr D 3 6 0) 68 0 (D 32 15 + 1)) x cl md st a i = if a = 32 ∧ i = 15 then D 32 15 + 1 else if a = 57 ∧ i = x.toNat then 0 else if a = 43 ∧ i = x.toNat then md else if a = 42 ∧ i = x.toNat then 0 else if a = 41 ∧ i = x.toNat then st else if a = 40 ∧ i = x.toNat then cl else if a = 32 ∧ i = 32 then 0 else mSU (zwr (zwr D 3 6 0) 68 0 (D 32 15 + 1)) x.toNat (D 32 15).toNat a i := fun a i => by
      unfold mInD
      rw [d 32 15 (by omega) (by omega), zwr_e, zwr_e, zwr_e, zwr_e, zwr_e, zwr_e, zwr_e]
    generalize mInD (zwr (zwr D 3 6 0) 68 0 (D 32 15 + 1)) x cl md st = D9 at *
    have f15 : D9 32 15 = D 32 15 + 1 := by rw [eD, if_pos ⟨rfl, rfl⟩]
    have o : ∀ a i, ¬ (a = 32 ∧ (i = 15 ∨ i = 32)) → ¬ (40 ≤ a ∧ a ≤ 43) → ¬ (45 ≤ a ∧ a ≤ 57) → D9 a i = zwr (zwr D 3 6 0) 68 0 (D 32 15 + 1) a i := fun a i q1 q2 q3 => by
      rw [eD, if_neg (by omega), if_neg (by omega), if_neg (by omega), if_neg (by omega), if_neg (by omega), if_neg (by omega), if_neg (by omega)]
      unfold mSU
      rw [if_neg (by omega), if_neg (by omega)]
    have f7 : D9 32 7 = D 32 7 := by rw [o 32 7 (by omega) (by omega) (by omega), d 32 7 (by omega) (by omega)]
    have eM : ∀ a i, ¬ (a = 32) → i ≠ x.toNat → D9 a i = mSU (zwr (zwr D 3 6 0) 68 0 (D 32 15 + 1)) x.toNat (D 32 15).toNat a i := fun a i q1 q2 => by
      rw [eD, if_neg (by omega), if_neg (by omega), if_neg (by omega), if_neg (by omega), if_neg (by omega), if_neg (by omega), if_neg (by omega)]
    have eR : ∀ j k, j < 12 → D9 (45 + j) k = mSU (zwr (zwr D 3 6 0) 68 0 (D 32 15 + 1)) x.toNat (D 32 15).toNat (45 + j) k := fun j k q1 => by
      rw [eD, if_neg (by omega), if_neg (by omega), if_neg (by omega), if_neg (by omega), if_neg (by omega), if_neg (by omega), if_neg (by omega)]
    have rcd : ∀ j : Nat, (j : Int) ≤ D 32 15 → (j : Int) ≠ x → rcE D D9 (if (j : Int) < x then j else j - 1) j := fun j hj hjx => by
      have v : ∀ a, (a = 40 ∨ a = 41 ∨ a = 42 ∨ a = 43 ∨ a = 57) → D9 a j = D a (if (j : Int) < x then j else j - 1) := fun a ha => by
        rw [eM a j (by omega) (by omega)]
        unfold mSU
        by_cases w : (j : Int) < x
        · rw [if_neg (by omega), if_neg (by omega), if_pos w, d a j (by omega) (by omega)]
        · rw [if_pos (by omega), if_neg w, d a _ (by omega) (by omega)]
      refine ⟨⟨v 40 (by omega), v 41 (by omega), v 42 (by omega), v 43 (by omega), v 57 (by omega)⟩, fun k hk => ?_⟩
      rw [eR j k (by omega)]
      unfold mSU
      by_cases w : (j : Int) < x
      · rw [if_neg (by omega), if_neg (by omega), if_pos w, d _ k (by omega) (by omega)]
      · rw [if_neg (by omega), if_pos (by omega), if_neg w, show 45 + j - 1 = 45 + (j - 1) by omega, d _ k (by omega) (by omega)]
    have sh := sh12.tr A1
    have dY : (Y 5 1).toNat = (X 5 1).toNat := by rw [Y0 5 1 (by omega) (by omega)]
    have hd5 : (X 5 1).toNat < zn h := by
      rcases hS.1.2.1 with ⟨-, q⟩ | ⟨q, -⟩ <;> omega
    have ob : obD h X X3 5 := fun b k q0 q1 q2 => by
      rw [A4 b k (by omega) q1 (by rw [dY]; exact q2)]
      exact Y0 b k (by omega) (by omega)
    have vN : ∀ k, X3 (zn h) k = Y (zn h) k := fun k => A4 _ k (by omega) (by omega) (by omega)
    have lN : ∀ k, X3 (zn h + 1) k = Y (zn h + 1) k := fun k => A4 _ k (by omega) (by omega) (by omega)
    have el : ∀ j : Nat, (j : Int) ≤ D 32 15 → lsE X3 5 j = if (j : Int) = x then zn h else lsE X 5 (if (j : Int) < x then j else j - 1) := fun j hj => by
      rw [A3 j (by omega)]
      by_cases w : (j : Int) < x
      · rw [if_pos w, if_neg (by omega), if_pos w, lYe]
      · rw [if_neg w]
        by_cases w2 : (j : Int) = x
        · rw [if_pos w2, if_pos w2]
        · rw [if_neg w2, if_neg w2, if_neg w, lYe]
    obtain ⟨hC9, l4⟩ := p.2.1.1.mv (D' := D9) sh hz.1 hz.2.1 hS.1 ob (by omega) (fun a i q => by rw [o a i (by omega) (by omega) (by omega), d a i (by omega) (by omega)])
    have hne : ∀ e : Nat, (e : Int) < D 32 15 → (X (lsE X 5 e) 3).toNat ≠ 5 := fun e he => by
      have := (hG.2.2 e he).2.2.1.1
      omega
    have hnew : ∀ e : Nat, (e : Int) < D 32 15 → lsE X 5 e ≠ zn h := fun e he => by
      have := (hS.K he).2.1
      omega
    have z1 := sh.1
    have z2 := sh.2.1
    have z3 := sh.2.2.1
    have kz := sh.2.2.2 1 (by omega)
    have zA := A1.1
    refine Or.inl ⟨g0, D 32 15 + 1, h3, _, _, D9, e46.2, ⟨by omega, by omega⟩, fun a i w => by rw [o a i (by omega) (by omega) (by omega), zwr_a (by omega)], ?_, fun i => by rw [o 39 i (by omega) (by omega) (by omega), d 39 i (by omega) (by omega)], by rw [o 32 16 (by omega) (by omega) (by omega), d 32 16 (by omega) (by omega)]⟩
    refine p.me hc (fun a i q1 q2 => ?_) (fun a i q => ?_) (by omega) (fun i => ?_) hC9 ⟨by rw [f15]; exact A2, fun i j hi hj => ?_, fun e he => ?_⟩ (Or.inl ?_) ⟨⟨by omega, kz.1.trans hz.2.1, kz.2.1.trans hz.2.2⟩, by omega, by omega⟩
    · rw [o a i (by omega) (by omega) (by omega), zwr_a (by omega), zwr_e, if_neg q2]
    · rw [o a i (by omega) (by omega) (by omega), d a i (by omega) (by omega)]
    · have m0 : m43 (zwr (zwr D 3 6 0) 68 0 (D 32 15 + 1)) := fun i => by rw [d 43 i (by omega) (by omega)]; exact p.1.2.2.1 i
      by_cases gi : i = x.toNat
      · rw [eD, if_neg (by omega), if_neg (by omega), if_pos ⟨rfl, gi⟩]
        exact hm
      · rw [eM 43 i (by omega) gi]
        exact m0.su _ _ i
    · rw [f15] at hi hj
      rw [el i (by omega), el j (by omega)]
      intro w
      by_cases w1 : (i : Int) = x
      · by_cases w2 : (j : Int) = x
        · omega
        · rw [if_pos w1, if_neg w2] at w
          exact absurd w.symm (hnew _ (by split <;> omega))
      · by_cases w2 : (j : Int) = x
        · rw [if_neg w1, if_pos w2] at w
          exact absurd w (hnew _ (by split <;> omega))
        · rw [if_neg w1, if_neg w2] at w
          have := hS.2.1 _ _ (by split <;> omega) (by split <;> omega) w
          split at this <;> split at this <;> omega
    · rw [f15] at he
      rw [el e (by omega)]
      by_cases w : (e : Int) = x
      · have we : e = x.toNat := by omega
        subst we
        rw [if_pos w]
        have c40 : D9 40 x.toNat = cl := by rw [eD, if_neg (by omega), if_neg (by omega), if_neg (by omega), if_neg (by omega), if_neg (by omega), if_pos ⟨rfl, rfl⟩]
        have c41 : D9 41 x.toNat = st := by rw [eD, if_neg (by omega), if_neg (by omega), if_neg (by omega), if_neg (by omega), if_pos ⟨rfl, rfl⟩]
        have c42 : D9 42 x.toNat = 0 := by rw [eD, if_neg (by omega), if_neg (by omega), if_neg (by omega), if_pos ⟨rfl, rfl⟩]
        have c43 : D9 43 x.toNat = md := by rw [eD, if_neg (by omega), if_neg (by omega), if_pos ⟨rfl, rfl⟩]
        have c57 : D9 57 x.toNat = 0 := by rw [eD, if_neg (by omega), if_pos ⟨rfl, rfl⟩]
        have kv3 : zk h3 (zn h) = 1 := by rw [(A1.2.2.2 _ (by omega)).1]; exact kv2
        have kl3 : zk h3 (zn h + 1) = 7 := by rw [(A1.2.2.2 _ (by omega)).1]; exact kl
        have x3 : X3 (zn h) 3 = ((zn h + 1 : Nat) : Int) := by rw [vN]; exact i3
        refine ⟨⟨hz.1, by omega, kv3⟩, ?_, ?_, fun k hk => ?_, ?_, ?_⟩
        · rw [vN, vN, vN, vN, c40, c41, c42, c43, i0, i1, i2, i4, l4 _ (by omega)]
          exact ⟨rfl, rfl, rfl, rfl⟩
        · rw [x3, Int.toNat_natCast, c57]
          refine ⟨by omega, ⟨⟨kl3, by rw [lN]; exact j2, by omega⟩, Or.inl ⟨rfl, by rw [lN]; exact j1⟩, fun i hi => by omega⟩, by rw [lN]; exact Yg⟩
        · rw [c57] at hk
          omega
        · rw [c40, c41, c42, c43, f7]
          have gm : md = 102 ∨ ((md = 99 ∨ md = 112 ∨ md = 106) ∧ (0 ≤ st ∧ st ≤ 3599)) := gm
          exact ⟨by omega, by omega, by omega, fun q => by omega⟩
        · rw [c57]
          exact ⟨by omega, fun k hk => by omega⟩
      · rw [if_neg w]
        have r := rcd e (by omega) w
        have hb : ((if (e : Int) < x then e else e - 1 : Nat) : Int) < D 32 15 := by split <;> omega
        exact (hG.2.2 _ hb).mv sh hz.2.1 hS.1 ob (hne _ hb) r (Int.le_of_eq f7.symm) l4
    · rw [o 3 6 (by omega) (by omega) (by omega), zwr_a (by omega), zwr_s]
  · have bt := qIn_v (D := D) (p := x) (c := cl) (md := md) (st := st)
    exact Or.inr (q4_f p hr hcl hm hst g0)
set_option maxRecDepth 20000 in
theorem t42 {len lev pl fi la : Int} {c : Nat} {h : zH} {X D : zD} (p : Inv c h X D) (hc : c < 600) (r1 : iR len) (r2 : iR lev) (r3 : iR pl) (r4 : iR fi) (r5 : iR la) : (mApgT D len lev pl fi la = 0 ∧ ∃ (v : Int) (h1 : zH) (X1 D1 D9 : zD), (zc 42 7 [.ref 3, .int (Int32.ofInt len), .int (Int32.ofInt lev), .int (Int32.ofInt pl), .int (Int32.ofInt fi), .int (Int32.ofInt la)] (zV (zU h X) D)) = some (.inl (some (.int (Int32.ofInt v))), zV (zU h1 X1) D1) ∧ (-(12 * (c : Int)) ≤ v ∧ v ≤ 100000) ∧ (∀ a i, a < 32 → D9 a i = D1 a i) ∧ Inv (c + 1) h1 X1 D9 ∧ (∀ i, D9 39 i = D 39 i) ∧ D9 32 16 = D 32 16) ∨ cE (zc 42 7 [.ref 3, .int (Int32.ofInt len), .int (Int32.ofInt lev), .int (Int32.ofInt pl), .int (Int32.ofInt fi), .int (Int32.ofInt la)] (zV (zU h X) D)) (mApgT D len lev pl fi la) 1 0 h X D ∨ cE (zc 42 7 [.ref 3, .int (Int32.ofInt len), .int (Int32.ofInt lev), .int (Int32.ofInt pl), .int (Int32.ofInt fi), .int (Int32.ofInt la)] (zV (zU h X) D)) (mApgT D len lev pl fi la) 2 1 h X D := by
  have h7 := p.1.1.1.1
  have hO := p.2.1.1
  have h0 := hO.1.1
  have h8 := p.1.1.2.2.2.1
  by_cases g0 : mApgT D len lev pl fi la = 0
  · obtain ⟨hb, hpl, hn⟩ : ((1 ≤ len ∧ len ≤ 900) ∧ (-60 ≤ lev ∧ lev ≤ 0) ∧ (0 ≤ fi ∧ fi ≤ 999) ∧ (fi ≤ la ∧ la ≤ 999)) ∧ (0 ≤ pl ∧ pl ≤ 99) ∧ D 32 7 < 12 := by
      unfold mApgT at g0
      by_cases g : ((1 ≤ len ∧ len ≤ 900) ∧ (-60 ≤ lev ∧ lev ≤ 0) ∧ (0 ≤ fi ∧ fi ≤ 999) ∧ (fi ≤ la ∧ la ≤ 999)) ∧ (0 ≤ pl ∧ pl ≤ 99)
      · rw [if_pos g] at g0
        by_cases g2 : D 32 7 = 12
        · rw [if_pos g2] at g0
          omega
        · exact ⟨g.1, g.2, by omega⟩
      · rw [if_neg g] at g0
        omega
    obtain ⟨h2, X2, e0, e165, nw, sh, ob, A2, A3, hv⟩ := clN (len := len) (lev := lev) (pl := pl) (fi := fi) (la := la) (pc := 0) p hn (Or.inl rfl)
    have e0 := e0 D
    have e78 := c78_t (h := zV (zU h X) D) hb
    have e79 := c79_t (h := h) (X := X) (D := D) h0.1 (by omega) (by omega)
    have e175 := c175 (h := h) (X := X) (D := D) (a := 4) (by omega) h0.1
    rw [h0.2.1] at e175
    have k41 : zk (znew h 0 8 (fun i => zdef (zty 0 i))) 4 = 7 := by
      have := p.2.2.2.2.2.1.1
      rw [zk_new, if_neg (by omega)]
      exact h0.1
    have e42 : cV (zc 42 7 [.ref 3, .int (Int32.ofInt len), .int (Int32.ofInt lev), .int (Int32.ofInt pl), .int (Int32.ofInt fi), .int (Int32.ofInt la)] (zV (zU h X) D)) 0 (D 32 7) h2 X2 D := by
      refine ⟨rfl, ?_⟩
      rw [zc]
      clear p hO sh ob A2 A3 hv
      generalize hh1 : znew h 0 8 (fun i => zdef (zty 0 i)) = h1 at *
      generalize clI (zrw X (zn h) (dz 0)) (zn h) (D 32 7) 0 len lev pl fi la = X1 at *
      simp (disch := first | omega | (simp (disch := omega) only [zwr_s, zwr_a, zwr_i, zn_put, zn_new, zn_fil, zn_chg, zV_n]; omega)) only [zentry, zs0, zs1, zs2, zs3, zg_lo, zg_st, zg_st2, zg_ald, zg_ast, zs_ia, zs_i0, zcs, zg_ii, zi_max, zi_min, zi_abi, zi_abf, zi_fb, zi_bf, lget, lst, lst2, lc2, Option.map_some, zso, if_true, if_false, zc1, and_true, true_and, and_self, List.length_nil, List.length_cons, Nat.zero_le, reduceIte, reduceCtorEq, false_and, and_false, Bool.false_eq_true, zca_some, zr0, zr100, Option.bind_some, zb_none, zb_some, zrc, or_true, true_or, eq_self, ne_eq, not_true_eq_false, not_false_eq_true, zrt_i, zrt_zb, zrt_b, zrt_c, zrt_l, zrt_f, zrt_r, zrt_n, zrt_v, zft_0, zft_1, zft_zb, zft_3, zft_4, zft_5, zft_7r, zft_7n, iI_t, zb_i, zb_0, zb_1, Nat.reduceAdd, Nat.reduceLeDiff, Nat.reduceEqDiff, Nat.reduceSub, Int.reduceNeg, iI_add, iI_sub, iI_mul, iI_neg, iI_n, zbz, zchar_id, zin, zwr_s, zwr_a, zwr_i, if_pos, if_neg, Int.toNat_natCast, Int.natCast_zero, Int.reduceToNat, z42, zc3, zuL (a := 4) (Or.inl rfl) h0.1, e78, e79, e175, nw, zW_n, hh1, e0, e165, k41, zt1, zt2, zt4, zt8, zW_k]
    have d : ∀ a i, a ≠ 68 → zwr D 68 0 (D 32 7) a i = D a i := fun a i q2 => zwr_a q2
    have em := m108 (len := len) (lev := lev) (p := pl) (fi := fi) (la := la) (h := zU h2 X2) (D := zwr D 68 0 (D 32 7)) r1 r2 r3 r4 r5 (by rw [d 32 7 (by omega)]; exact h7) (by rw [d 32 8 (by omega)]; exact h8)
    have g1 : mApgT (zwr D 68 0 (D 32 7)) len lev pl fi la = 0 := by
      unfold mApgT
      rw [d 32 7 (by omega)]
      exact g0
    unfold mApg at em
    rw [if_pos g1, if_pos g1, d 32 7 (by omega)] at em
    have eD : ∀ a i, mAdds (zwr (zwr D 68 0 (D 32 7)) 32 32 0) len lev pl fi la 0 a i = if a = 32 ∧ i = 7 then D 32 7 + 1 else if a = 32 ∧ i = 8 then D 32 8 + 0 else if a = 38 ∧ i = (D 32 7).toNat then 0 else if a = 37 ∧ i = (D 32 7).toNat then la else if a = 36 ∧ i = (D 32 7).toNat then fi else if a = 35 ∧ i = (D 32 7).toNat then pl else if a = 34 ∧ i = (D 32 7).toNat then lev else if a = 33 ∧ i = (D 32 7).toNat then len else zwr (zwr D 68 0 (D 32 7)) 32 32 0 a i := fun a i => by
      rw [mAdds_v]
      have e1 : zwr (zwr D 68 0 (D 32 7)) 32 32 0 32 7 = D 32 7 := by rw [zwr_i (by omega), d 32 7 (by omega)]
      have e2 : zwr (zwr D 68 0 (D 32 7)) 32 32 0 32 8 = D 32 8 := by rw [zwr_i (by omega), d 32 8 (by omega)]
      rw [e1, e2]
    generalize mAdds (zwr (zwr D 68 0 (D 32 7)) 32 32 0) len lev pl fi la 0 = D9 at *
    have o : ∀ a i, ¬ (a = 32 ∧ (i = 7 ∨ i = 8 ∨ i = 32)) → ¬ (33 ≤ a ∧ a ≤ 38 ∧ i = (D 32 7).toNat) → a ≠ 68 → D9 a i = D a i := fun a i q1 q2 q3 => by
      rw [eD, if_neg (by omega), if_neg (by omega), if_neg (by omega), if_neg (by omega), if_neg (by omega), if_neg (by omega), if_neg (by omega), if_neg (by omega), zwr_e, if_neg (by omega), d a i q3]
    have f7 : D9 32 7 = D 32 7 + 1 := by rw [eD, if_pos ⟨rfl, rfl⟩]
    have f38 : D9 38 (D 32 7).toNat = 0 := by rw [eD, if_neg (by omega), if_neg (by omega), if_pos ⟨rfl, rfl⟩]
    have le : lEq D D9 := ⟨⟨o 32 15 (by omega) (by omega) (by omega), o 32 16 (by omega) (by omega) (by omega)⟩, fun e he => ⟨o _ _ (by omega) (by omega) (by omega), o _ _ (by omega) (by omega) (by omega), o _ _ (by omega) (by omega) (by omega), o _ _ (by omega) (by omega) (by omega)⟩, fun i hi => ⟨o _ _ (by omega) (by omega) (by omega), o _ _ (by omega) (by omega) (by omega), o _ _ (by omega) (by omega) (by omega), o _ _ (by omega) (by omega) (by omega), o _ _ (by omega) (by omega) (by omega), o _ _ (by omega) (by omega) (by omega)⟩, Or.inr ⟨f7, f38⟩⟩
    have f32 : D9 32 32 = 0 := by rw [eD, if_neg (by omega), if_neg (by omega), if_neg (by omega), if_neg (by omega), if_neg (by omega), if_neg (by omega), if_neg (by omega), if_neg (by omega), zwr_s]
    have f68 : D9 68 0 = D 32 7 := by rw [eD, if_neg (by omega), if_neg (by omega), if_neg (by omega), if_neg (by omega), if_neg (by omega), if_neg (by omega), if_neg (by omega), if_neg (by omega), zwr_a (by omega), zwr_s]
    refine Or.inl ⟨g0, D 32 7, h2, _, _, D9, e42.2, ⟨by omega, by omega⟩, fun a i w => o a i (by omega) (by omega) (by omega), ?_, fun i => o 39 i (by omega) (by omega) (by omega), o 32 16 (by omega) (by omega) (by omega)⟩
    have hfi := p.2.2.2.1
    have enu : nuC D9 (D9 32 16) 0 (D9 32 7).toNat = nuC D (D 32 16) 0 (D 32 7).toNat := by
      rw [f7, o 32 16 (by omega) (by omega) (by omega), show (D 32 7 + 1).toNat = (D 32 7).toNat + 1 by omega]
      have step : ∀ n c, c + n = (D 32 7).toNat → nuC D9 (D 32 16) c (n + 1) = nuC D (D 32 16) c n := by
        intro n
        induction n with
        | zero =>
          intro c hc
          have hc : c = (D 32 7).toNat := by omega
          show (if D9 38 c = 1 ∧ D9 36 c ≤ D 32 16 ∧ D 32 16 ≤ D9 37 c then c :: nuC D9 (D 32 16) (c + 1) 0 else nuC D9 (D 32 16) (c + 1) 0) = []
          rw [hc, f38, if_neg (by omega)]
          rfl
        | succ n ih =>
          intro c hc
          rw [nuC, ih (c + 1) (by omega), nuC, o 38 c (by omega) (by omega) (by omega), o 36 c (by omega) (by omega) (by omega), o 37 c (by omega) (by omega) (by omega)]
      exact step _ 0 (by omega)
    have hmem : ∀ k : Nat, (k : Int) < D 14 3 → 0 ≤ D 15 k ∧ D 15 k < D 32 7 := fun k hk => by
      obtain ⟨n3, n15⟩ := hfi.2.2
      have hk' : k < (nuC D (D 32 16) 0 (D 32 7).toNat).length := by omega
      rw [n15 k hk', List.getD_eq_getElem?_getD, List.getElem?_eq_getElem hk']
      have := nuC_m (D := D) (d := D 32 16) _ _ _ (List.getElem_mem hk')
      show 0 ≤ (((nuC D (D 32 16) 0 (D 32 7).toNat)[k] : Nat) : Int) ∧ (((nuC D (D 32 16) 0 (D 32 7).toNat)[k] : Nat) : Int) < D 32 7
      omega
    refine p.ac hc hn (Or.inl rfl) hb hpl (fun a i q1 q2 => o a i (by omega) (by omega) (by omega)) (fun a i q => o a i (by omega) (by omega) (by omega)) (fun a i q1 q2 q3 => o a i (by omega) (by omega) (by omega)) ?_ ?_ ?_ ?_ ?_ f38 f7 ?_ sh (by omega) ob A2 A3 hv ⟨?_, ?_, ?_⟩ ?_
    · rw [eD, if_neg (by omega), if_neg (by omega), if_neg (by omega), if_neg (by omega), if_neg (by omega), if_neg (by omega), if_neg (by omega), if_pos ⟨rfl, rfl⟩]
    · rw [eD, if_neg (by omega), if_neg (by omega), if_neg (by omega), if_neg (by omega), if_neg (by omega), if_neg (by omega), if_pos ⟨rfl, rfl⟩]
    · rw [eD, if_neg (by omega), if_neg (by omega), if_neg (by omega), if_neg (by omega), if_neg (by omega), if_pos ⟨rfl, rfl⟩]
    · rw [eD, if_neg (by omega), if_neg (by omega), if_neg (by omega), if_neg (by omega), if_pos ⟨rfl, rfl⟩]
    · rw [eD, if_neg (by omega), if_neg (by omega), if_neg (by omega), if_pos ⟨rfl, rfl⟩]
    · rw [eD, if_neg (by omega), if_pos ⟨rfl, rfl⟩]
    · obtain ⟨⟨b1, b2⟩, f2, f3, f4⟩ := hfi.1
      have e3 := o 14 3 (by omega) (by omega) (by omega)
      have e5 := o 14 5 (by omega) (by omega) (by omega)
      have epc : pcs (clsD D9) = pcs (clsD D) := by
        rcases cls_g le p.1.1.1 with ⟨q, -⟩ | ⟨⟨l, v, q⟩, -⟩
        · rw [q]
        · rw [q, pcs_a]
      refine ⟨⟨by rw [e3]; exact b1, fun i hi => ?_⟩, ?_, by rw [e5]; exact f3, fun w => ?_⟩
      · rw [o 15 i (by omega) (by omega) (by omega), o 16 i (by omega) (by omega) (by omega), o 17 i (by omega) (by omega) (by omega)]
        exact b2 i (by omega)
      · rw [e3, psF_c (D := D) (D' := D9) (fun i => ⟨o 16 i (by omega) (by omega) (by omega), o 17 i (by omega) (by omega) (by omega)⟩), f2, epc]
      · intro r s hr hs
        rw [o _ _ (by omega) (by omega) (by omega), e3, f4 (by omega) r s hr hs, lnF_c2 _ _ (fun k _ _ => o 16 k (by omega) (by omega) (by omega))]
    · intro k hk
      rw [o 14 3 (by omega) (by omega) (by omega)] at hk
      have hm := hmem k hk
      rw [o 16 k (by omega) (by omega) (by omega), o 17 k (by omega) (by omega) (by omega), o 15 k (by omega) (by omega) (by omega), o 33 _ (by omega) (by omega) (by omega), o 34 _ (by omega) (by omega) (by omega)]
      exact hfi.2.1 k hk
    · unfold fiP3
      rw [enu, o 14 3 (by omega) (by omega) (by omega)]
      refine ⟨hfi.2.2.1, fun k hk => ?_⟩
      rw [o 15 k (by omega) (by omega) (by omega)]
      exact hfi.2.2.2 k hk
    · rcases p.2.2.2.2.1 with L | ⟨L1, L2⟩
      · exact Or.inl (by rw [o 3 6 (by omega) (by omega) (by omega)]; exact L)
      · refine Or.inr ⟨by rw [o 3 6 (by omega) (by omega) (by omega)]; exact L1, ?_⟩
        have f15 := o 32 15 (by omega) (by omega) (by omega)
        have hS := p.2.1.2.1
        have hz := p.2.2.2.2.2.1
        obtain ⟨l51, l52⟩ := lsO_k sh hz.2.1 hO.1 hS.1 (by omega) (by omega) ob
        have hLa : zk h (X 4 1).toNat = 31 ∨ zk h (X 4 1).toNat = 26 := by
          rcases hO.1.2.1 with ⟨-, g4⟩ | ⟨w1, w2, w3, w4, w5⟩
          · left
            rw [g4]
            exact hz.2.1
          · exact Or.inr w2
        have hX : ∀ n : Nat, (n : Int) < D 32 15 → ∀ m, X2 (lsE X 5 n) m = X (lsE X 5 n) m := fun n hn m => by
          obtain ⟨z1, z2, z3⟩ := hS.K hn
          exact ob _ m z2 (by omega) (fun w => by rw [← w] at hLa; omega)
        unfold laO
        rw [lyF_g le p.1.1.1 p.1.1.2.1 p.1.1.2.2.1, o 6 3 (by omega) (by omega) (by omega), f15]
        refine ⟨L2.1, tRp_c (fun k _ => ⟨o _ _ (by omega) (by omega) (by omega), o _ _ (by omega) (by omega) (by omega), o _ _ (by omega) (by omega) (by omega)⟩) L2.2.1, fun n hn => ?_⟩
        obtain ⟨u1, u2, u3⟩ := L2.2.2 n hn
        rw [l52 n hn, hX n hn, hX n hn]
        exact ⟨evR_c u1 (hX n hn _) (hX n hn _) (hX n hn _) (fun _ => rfl), u2, u3⟩
  · have bt := mApgT_v (D := D) (len := len) (lev := lev) (pl := pl) (fi := fi) (la := la)
    have hw : cE (zc 42 7 [.ref 3, .int (Int32.ofInt len), .int (Int32.ofInt lev), .int (Int32.ofInt pl), .int (Int32.ofInt fi), .int (Int32.ofInt la)] (zV (zU h X) D)) (mApgT D len lev pl fi la) 1 0 h X D ∨ cE (zc 42 7 [.ref 3, .int (Int32.ofInt len), .int (Int32.ofInt lev), .int (Int32.ofInt pl), .int (Int32.ofInt fi), .int (Int32.ofInt la)] (zV (zU h X) D)) (mApgT D len lev pl fi la) 2 1 h X D := by
      unfold mApgT at g0 ⊢
      by_cases g : ((1 ≤ len ∧ len ≤ 900) ∧ (-60 ≤ lev ∧ lev ≤ 0) ∧ (0 ≤ fi ∧ fi ≤ 999) ∧ (fi ≤ la ∧ la ≤ 999)) ∧ (0 ≤ pl ∧ pl ≤ 99)
      · rw [if_pos g] at g0 ⊢
        by_cases g2 : D 32 7 = 12
        · rw [if_pos g2]
          refine Or.inr ⟨rfl, ?_⟩
          obtain ⟨g1, g3⟩ := g
          have e78 := c78_t (h := zV (zU h X) D) g1
          have e79 := c79_f (h := h) (X := X) (D := D) h0.1 (by omega)
          rw [zc]
          clear p hO g1
          simp (disch := first | omega | (simp (disch := omega) only [zwr_s, zwr_a, zwr_i, zn_put, zn_new, zn_fil, zn_chg, zV_n]; omega)) only [zentry, zs0, zs1, zs2, zs3, zg_lo, zg_st, zg_st2, zg_ald, zg_ast, zs_ia, zs_i0, zcs, zg_ii, zi_max, zi_min, zi_abi, zi_abf, zi_fb, zi_bf, lget, lst, lst2, lc2, Option.map_some, zso, if_true, if_false, zc1, and_true, true_and, and_self, List.length_nil, List.length_cons, Nat.zero_le, reduceIte, reduceCtorEq, false_and, and_false, Bool.false_eq_true, zca_some, zr0, zr100, Option.bind_some, zb_none, zb_some, zrc, or_true, true_or, eq_self, ne_eq, not_true_eq_false, not_false_eq_true, zrt_i, zrt_zb, zrt_b, zrt_c, zrt_l, zrt_f, zrt_r, zrt_n, zrt_v, zft_0, zft_1, zft_zb, zft_3, zft_4, zft_5, zft_7r, zft_7n, iI_t, zb_i, zb_0, zb_1, Nat.reduceAdd, Nat.reduceLeDiff, Nat.reduceEqDiff, Nat.reduceSub, Int.reduceNeg, iI_add, iI_sub, iI_mul, iI_neg, iI_n, zbz, zchar_id, zin, zwr_s, zwr_a, zwr_i, if_pos, if_neg, Int.toNat_natCast, Int.natCast_zero, Int.reduceToNat, z42, zc3, e78, e79, zb_x, zt1, zt4]
        · rw [if_neg g2] at g0
          omega
      · rw [if_neg g]
        refine Or.inl ⟨rfl, ?_⟩
        by_cases g1 : (1 ≤ len ∧ len ≤ 900) ∧ (-60 ≤ lev ∧ lev ≤ 0) ∧ (0 ≤ fi ∧ fi ≤ 999) ∧ (fi ≤ la ∧ la ≤ 999)
        · have g3 : ¬ (0 ≤ pl ∧ pl ≤ 99) := fun q => g ⟨g1, q⟩
          have e78 := c78_t (h := zV (zU h X) D) g1
          rw [zc]
          clear p hO g1 g
          by_cases g4 : pl < 0
          · simp (disch := first | omega | (simp (disch := omega) only [zwr_s, zwr_a, zwr_i, zn_put, zn_new, zn_fil, zn_chg, zV_n]; omega)) only [zentry, zs0, zs1, zs2, zs3, zg_lo, zg_st, zg_st2, zg_ald, zg_ast, zs_ia, zs_i0, zcs, zg_ii, zi_max, zi_min, zi_abi, zi_abf, zi_fb, zi_bf, lget, lst, lst2, lc2, Option.map_some, zso, if_true, if_false, zc1, and_true, true_and, and_self, List.length_nil, List.length_cons, Nat.zero_le, reduceIte, reduceCtorEq, false_and, and_false, Bool.false_eq_true, zca_some, zr0, zr100, Option.bind_some, zb_none, zb_some, zrc, or_true, true_or, eq_self, ne_eq, not_true_eq_false, not_false_eq_true, zrt_i, zrt_zb, zrt_b, zrt_c, zrt_l, zrt_f, zrt_r, zrt_n, zrt_v, zft_0, zft_1, zft_zb, zft_3, zft_4, zft_5, zft_7r, zft_7n, iI_t, zb_i, zb_0, zb_1, Nat.reduceAdd, Nat.reduceLeDiff, Nat.reduceEqDiff, Nat.reduceSub, Int.reduceNeg, iI_add, iI_sub, iI_mul, iI_neg, iI_n, zbz, zchar_id, zin, zwr_s, zwr_a, zwr_i, if_pos, if_neg, Int.toNat_natCast, Int.natCast_zero, Int.reduceToNat, z42, zc3, e78, zt1, zt4, zgX]
          · simp (disch := first | omega | (simp (disch := omega) only [zwr_s, zwr_a, zwr_i, zn_put, zn_new, zn_fil, zn_chg, zV_n]; omega)) only [zentry, zs0, zs1, zs2, zs3, zg_lo, zg_st, zg_st2, zg_ald, zg_ast, zs_ia, zs_i0, zcs, zg_ii, zi_max, zi_min, zi_abi, zi_abf, zi_fb, zi_bf, lget, lst, lst2, lc2, Option.map_some, zso, if_true, if_false, zc1, and_true, true_and, and_self, List.length_nil, List.length_cons, Nat.zero_le, reduceIte, reduceCtorEq, false_and, and_false, Bool.false_eq_true, zca_some, zr0, zr100, Option.bind_some, zb_none, zb_some, zrc, or_true, true_or, eq_self, ne_eq, not_true_eq_false, not_false_eq_true, zrt_i, zrt_zb, zrt_b, zrt_c, zrt_l, zrt_f, zrt_r, zrt_n, zrt_v, zft_0, zft_1, zft_zb, zft_3, zft_4, zft_5, zft_7r, zft_7n, iI_t, zb_i, zb_0, zb_1, Nat.reduceAdd, Nat.reduceLeDiff, Nat.reduceEqDiff, Nat.reduceSub, Int.reduceNeg, iI_add, iI_sub, iI_mul, iI_neg, iI_n, zbz, zchar_id, zin, zwr_s, zwr_a, zwr_i, if_pos, if_neg, Int.toNat_natCast, Int.natCast_zero, Int.reduceToNat, z42, zc3, e78, zt1, zt4, zgX]
        · have e78 := c78_f (h := h) (X := X) (D := D) r1 r2 r4 r5 g1
          rw [zc]
          clear p hO g1 g
          simp (disch := first | omega | (simp (disch := omega) only [zwr_s, zwr_a, zwr_i, zn_put, zn_new, zn_fil, zn_chg, zV_n]; omega)) only [zentry, zs0, zs1, zs2, zs3, zg_lo, zg_st, zg_st2, zg_ald, zg_ast, zs_ia, zs_i0, zcs, zg_ii, zi_max, zi_min, zi_abi, zi_abf, zi_fb, zi_bf, lget, lst, lst2, lc2, Option.map_some, zso, if_true, if_false, zc1, and_true, true_and, and_self, List.length_nil, List.length_cons, Nat.zero_le, reduceIte, reduceCtorEq, false_and, and_false, Bool.false_eq_true, zca_some, zr0, zr100, Option.bind_some, zb_none, zb_some, zrc, or_true, true_or, eq_self, ne_eq, not_true_eq_false, not_false_eq_true, zrt_i, zrt_zb, zrt_b, zrt_c, zrt_l, zrt_f, zrt_r, zrt_n, zrt_v, zft_0, zft_1, zft_zb, zft_3, zft_4, zft_5, zft_7r, zft_7n, iI_t, zb_i, zb_0, zb_1, Nat.reduceAdd, Nat.reduceLeDiff, Nat.reduceEqDiff, Nat.reduceSub, Int.reduceNeg, iI_add, iI_sub, iI_mul, iI_neg, iI_n, zbz, zchar_id, zin, zwr_s, zwr_a, zwr_i, if_pos, if_neg, Int.toNat_natCast, Int.natCast_zero, Int.reduceToNat, z42, zc3, e78, zb_x, zt1, zt4]
    exact Or.inr hw
set_option maxRecDepth 20000 in
theorem t43 {len lev fi la : Int} {c : Nat} {h : zH} {X D : zD} (p : Inv c h X D) (hc : c < 600) (r1 : iR len) (r2 : iR lev) (r4 : iR fi) (r5 : iR la) : (mApcT D len lev fi la = 0 ∧ ∃ (v : Int) (h1 : zH) (X1 D1 D9 : zD), (zc 43 6 [.ref 3, .int (Int32.ofInt len), .int (Int32.ofInt lev), .int (Int32.ofInt fi), .int (Int32.ofInt la)] (zV (zU h X) D)) = some (.inl (some (.int (Int32.ofInt v))), zV (zU h1 X1) D1) ∧ (-(12 * (c : Int)) ≤ v ∧ v ≤ 100000) ∧ (∀ a i, a < 32 → D9 a i = D1 a i) ∧ Inv (c + 1) h1 X1 D9 ∧ (∀ i, D9 39 i = D 39 i) ∧ D9 32 16 = D 32 16) ∨ cE (zc 43 6 [.ref 3, .int (Int32.ofInt len), .int (Int32.ofInt lev), .int (Int32.ofInt fi), .int (Int32.ofInt la)] (zV (zU h X) D)) (mApcT D len lev fi la) 1 0 h X D ∨ cE (zc 43 6 [.ref 3, .int (Int32.ofInt len), .int (Int32.ofInt lev), .int (Int32.ofInt fi), .int (Int32.ofInt la)] (zV (zU h X) D)) (mApcT D len lev fi la) 2 1 h X D := by
  have h7 := p.1.1.1.1
  have hO := p.2.1.1
  have h0 := hO.1.1
  have h8 := p.1.1.2.2.2.1
  by_cases g0 : mApcT D len lev fi la = 0
  · obtain ⟨hb, hn, hp8⟩ : ((1 ≤ len ∧ len ≤ 900) ∧ (-60 ≤ lev ∧ lev ≤ 0) ∧ (0 ≤ fi ∧ fi ≤ 999) ∧ (fi ≤ la ∧ la ≤ 999)) ∧ D 32 7 < 12 ∧ D 32 8 < 8 := by
      unfold mApcT at g0
      by_cases g : (1 ≤ len ∧ len ≤ 900) ∧ (-60 ≤ lev ∧ lev ≤ 0) ∧ (0 ≤ fi ∧ fi ≤ 999) ∧ (fi ≤ la ∧ la ≤ 999)
      · rw [if_pos g] at g0
        by_cases g2 : D 32 7 = 12 ∨ D 32 8 = 8
        · rw [if_pos g2] at g0
          omega
        · exact ⟨g, by omega, by omega⟩
      · rw [if_neg g] at g0
        omega
    obtain ⟨h2, X2, e0, e165, nw, sh, ob, A2, A3, hv⟩ := clN (len := len) (lev := lev) (pl := 0) (fi := fi) (la := la) (pc := 1) p hn (Or.inr rfl)
    have e0 := e0 D
    have e78 := c78_t (h := zV (zU h X) D) hb
    have e79 := c79_t (h := h) (X := X) (D := D) h0.1 (by omega) (by omega)
    have e90 := c90 p
    have e175 := c175 (h := h) (X := X) (D := D) (a := 4) (by omega) h0.1
    rw [h0.2.1] at e175
    have k41 : zk (znew h 0 8 (fun i => zdef (zty 0 i))) 4 = 7 := by
      have := p.2.2.2.2.2.1.1
      rw [zk_new, if_neg (by omega)]
      exact h0.1
    -- the pieces anew
    have vS := mAdds_v (D := D) (len := len) (lev := lev) (pl := 0) (fi := fi) (la := la) (pc := 1)
    have hfi := p.2.2.2.1
    have hd16 := p.1.1.1.2.1
    have hd5 := p.2.2.1.1.1
    generalize mAdds D len lev 0 fi la 1 = S at *
    have oS : ∀ a i, ¬ (a = 32 ∧ (i = 7 ∨ i = 8)) → ¬ (33 ≤ a ∧ a ≤ 38 ∧ i = (D 32 7).toNat) → S a i = D a i := fun a i q1 q2 => by
      rw [vS, if_neg (by omega), if_neg (by omega), if_neg (by omega), if_neg (by omega), if_neg (by omega), if_neg (by omega), if_neg (by omega), if_neg (by omega)]
    have s7 : S 32 7 = D 32 7 + 1 := by rw [vS, if_pos ⟨rfl, rfl⟩]
    have s8 : S 32 8 = D 32 8 + 1 := by rw [vS, if_neg (by omega), if_pos ⟨rfl, rfl⟩]
    have s38 : S 38 (D 32 7).toNat = 1 := by rw [vS, if_neg (by omega), if_neg (by omega), if_pos ⟨rfl, rfl⟩]
    have s37 : S 37 (D 32 7).toNat = la := by rw [vS, if_neg (by omega), if_neg (by omega), if_neg (by omega), if_pos ⟨rfl, rfl⟩]
    have s36 : S 36 (D 32 7).toNat = fi := by rw [vS, if_neg (by omega), if_neg (by omega), if_neg (by omega), if_neg (by omega), if_pos ⟨rfl, rfl⟩]
    have s35 : S 35 (D 32 7).toNat = 0 := by rw [vS, if_neg (by omega), if_neg (by omega), if_neg (by omega), if_neg (by omega), if_neg (by omega), if_pos ⟨rfl, rfl⟩]
    have s34 : S 34 (D 32 7).toNat = lev := by rw [vS, if_neg (by omega), if_neg (by omega), if_neg (by omega), if_neg (by omega), if_neg (by omega), if_neg (by omega), if_pos ⟨rfl, rfl⟩]
    have s33 : S 33 (D 32 7).toNat = len := by rw [vS, if_neg (by omega), if_neg (by omega), if_neg (by omega), if_neg (by omega), if_neg (by omega), if_neg (by omega), if_neg (by omega), if_pos ⟨rfl, rfl⟩]
    have s16 : S 32 16 = D 32 16 := oS 32 16 (by omega) (by omega)
    have hCS : mCl S := by
      refine ⟨by omega, by omega, fun i hi => ?_⟩
      by_cases g : i = (D 32 7).toNat
      · rw [g, s33, s34, s36, s37, s38]
        exact ⟨by omega, by omega, by omega, by omega, by omega⟩
      · rw [oS 33 i (by omega) (by omega), oS 34 i (by omega) (by omega), oS 36 i (by omega) (by omega), oS 37 i (by omega) (by omega), oS 38 i (by omega) (by omega)]
        exact p.1.1.1.2.2 i (by omega)
    have hz := p.2.2.2.2.2.1
    have hLa : zk h (X 4 1).toNat = 31 ∨ zk h (X 4 1).toNat = 26 := by
      rcases hO.1.2.1 with ⟨-, g4⟩ | ⟨w1, w2, w3, w4, w5⟩
      · left
        rw [g4]
        exact hz.2.1
      · exact Or.inr w2
    have hP : clP h2 X2 S := by
      refine ⟨by rw [s7]; exact A2, fun i hi => ?_⟩
      rw [A3 i (by omega)]
      by_cases g : i = (D 32 7).toNat
      · have g2 : ¬ (i : Int) < D 32 7 := by omega
        rw [if_neg g2, g, s33, s34, s36, s37, s38]
        obtain ⟨y0, y1, y2, y3, y4, y5, -⟩ := hv
        exact ⟨by omega, y1, y2, y3, y4, y5⟩
      · have hi2 : (i : Int) < D 32 7 := by omega
        obtain ⟨a1, a2, a3⟩ := hO.K hi2
        have ea : ∀ m, X2 (lsE X 4 i) m = X (lsE X 4 i) m := fun m => ob _ m a2 (by omega) (fun w => by rw [← w] at hLa; omega)
        rw [if_pos hi2, ea, ea, ea, ea, ea, ea, oS 33 i (by omega) (by omega), oS 34 i (by omega) (by omega), oS 36 i (by omega) (by omega), oS 37 i (by omega) (by omega), oS 38 i (by omega) (by omega)]
        obtain ⟨y0, y1, y2, y3, y4, y5, -⟩ := hO.2 i hi2
        exact ⟨y0, y1, y2, y3, y4, y5⟩
    have hmem : ∀ k : Nat, (k : Int) < D 14 3 → 0 ≤ D 15 k ∧ D 15 k < D 32 7 := fun k hk => by
      obtain ⟨n3, n15⟩ := hfi.2.2
      have hk' : k < (nuC D (D 32 16) 0 (D 32 7).toNat).length := by omega
      rw [n15 k hk', List.getD_eq_getElem?_getD, List.getElem?_eq_getElem hk']
      have := nuC_m (D := D) (d := D 32 16) _ _ _ (List.getElem_mem hk')
      show 0 ≤ (((nuC D (D 32 16) 0 (D 32 7).toNat)[k] : Nat) : Int) ∧ (((nuC D (D 32 16) 0 (D 32 7).toNat)[k] : Nat) : Int) < D 32 7
      omega
    have hNS : fiNuS S D := fun k hk => by
      have hm := hmem k hk
      rw [oS 33 _ (by omega) (by omega), oS 34 _ (by omega) (by omega)]
      exact hfi.2.1 k hk
    have hcnS : cn38 S (S 32 7).toNat = D 32 8 + 1 := by
      have : ∀ n, n ≤ (D 32 7).toNat → cn38 S n = cn38 D n := by
        intro n
        induction n with
        | zero => intro _; rfl
        | succ n ih =>
          intro hn
          unfold cn38
          rw [ih (by omega), oS 38 n (by omega) (by omega)]
      rw [s7, show (D 32 7 + 1).toNat = (D 32 7).toNat + 1 by omega, cn38, this _ (Nat.le_refl _), ← p.1.2.2.2.1, s38, if_pos rfl]
    have h8S : (pcs (clsD S)).length ≤ 8 := by
      have := (pcs_cn (D := S) (S 32 7).toNat).1
      unfold clsD
      omega
    obtain ⟨D', e9, o9, fB, fP, f5, fT, fN, n3, n15⟩ := c9s (d := D 32 16) (E := S) hP hCS hd16 hfi.1.1 hfi.1.2.2.1 hfi.1.2.2.2 hNS (fun _ _ _ => rfl) s16 h8S
    have e43 : cV (zc 43 6 [.ref 3, .int (Int32.ofInt len), .int (Int32.ofInt lev), .int (Int32.ofInt fi), .int (Int32.ofInt la)] (zV (zU h X) D)) 0 (D 32 7) h2 X2 (zwr D' 3 6 0) := by
      refine ⟨rfl, ?_⟩
      rw [zc]
      clear p hO sh ob A2 A3 hv hP hCS hfi hNS fB fP f5 fT fN n3 n15 o9 vS oS hmem hLa h8S hcnS
      generalize hh1 : znew h 0 8 (fun i => zdef (zty 0 i)) = h1 at *
      generalize clI (zrw X (zn h) (dz 0)) (zn h) (D 32 7) 1 len lev 0 fi la = X1 at *
      simp (disch := first | omega | (simp (disch := omega) only [zwr_s, zwr_a, zwr_i, zn_put, zn_new, zn_fil, zn_chg, zV_n]; omega)) only [zentry, zs0, zs1, zs2, zs3, zg_lo, zg_st, zg_st2, zg_ald, zg_ast, zs_ia, zs_i0, zcs, zg_ii, zi_max, zi_min, zi_abi, zi_abf, zi_fb, zi_bf, lget, lst, lst2, lc2, Option.map_some, zso, if_true, if_false, zc1, and_true, true_and, and_self, List.length_nil, List.length_cons, Nat.zero_le, reduceIte, reduceCtorEq, false_and, and_false, Bool.false_eq_true, zca_some, zr0, zr100, Option.bind_some, zb_none, zb_some, zrc, or_true, true_or, eq_self, ne_eq, not_true_eq_false, not_false_eq_true, zrt_i, zrt_zb, zrt_b, zrt_c, zrt_l, zrt_f, zrt_r, zrt_n, zrt_v, zft_0, zft_1, zft_zb, zft_3, zft_4, zft_5, zft_7r, zft_7n, iI_t, zb_i, zb_0, zb_1, Nat.reduceAdd, Nat.reduceLeDiff, Nat.reduceEqDiff, Nat.reduceSub, Int.reduceNeg, iI_add, iI_sub, iI_mul, iI_neg, iI_n, zbz, zchar_id, zin, zwr_s, zwr_a, zwr_i, if_pos, if_neg, Int.toNat_natCast, Int.natCast_zero, Int.reduceToNat, z43, zc3, zc14, zuL (a := 4) (Or.inl rfl) h0.1, e78, e79, e90, e175, nw, zW_n, hh1, e0, e165, e9, hd5, k41, zt1, zt2, zt3, zt4, zt8, zW_k]
    have d : ∀ a i, a < 14 ∨ 18 ≤ a → a ≠ 68 → ¬ (a = 3 ∧ i = 6) → zwr (zwr D' 3 6 0) 68 0 (D 32 7) a i = D a i := fun a i q1 q2 q3 => by
      rw [zwr_a q2, zwr_e, if_neg q3, o9 a i (by omega) (by omega)]
    have em := m109 (len := len) (lev := lev) (fi := fi) (la := la) (h := zU h2 X2) (D := zwr (zwr D' 3 6 0) 68 0 (D 32 7)) r1 r2 r4 r5 (by rw [d 32 7 (by omega) (by omega) (by omega)]; exact h7) (by rw [d 32 8 (by omega) (by omega) (by omega)]; exact h8)
    have g1 : mApcT (zwr (zwr D' 3 6 0) 68 0 (D 32 7)) len lev fi la = 0 := by
      unfold mApcT
      rw [d 32 7 (by omega) (by omega) (by omega), d 32 8 (by omega) (by omega) (by omega)]
      exact g0
    unfold mApc at em
    rw [if_pos g1, if_pos g1, d 32 7 (by omega) (by omega) (by omega)] at em
    have eD : ∀ a i, mAdds (zwr (zwr (zwr D' 3 6 0) 68 0 (D 32 7)) 32 32 0) len lev 0 fi la 1 a i = if a = 32 ∧ i = 7 then D 32 7 + 1 else if a = 32 ∧ i = 8 then D 32 8 + 1 else if a = 38 ∧ i = (D 32 7).toNat then 1 else if a = 37 ∧ i = (D 32 7).toNat then la else if a = 36 ∧ i = (D 32 7).toNat then fi else if a = 35 ∧ i = (D 32 7).toNat then 0 else if a = 34 ∧ i = (D 32 7).toNat then lev else if a = 33 ∧ i = (D 32 7).toNat then len else zwr (zwr (zwr D' 3 6 0) 68 0 (D 32 7)) 32 32 0 a i := fun a i => by
      rw [mAdds_v]
      have e1 : zwr (zwr (zwr D' 3 6 0) 68 0 (D 32 7)) 32 32 0 32 7 = D 32 7 := by rw [zwr_i (by omega), d 32 7 (by omega) (by omega) (by omega)]
      have e2 : zwr (zwr (zwr D' 3 6 0) 68 0 (D 32 7)) 32 32 0 32 8 = D 32 8 := by rw [zwr_i (by omega), d 32 8 (by omega) (by omega) (by omega)]
      rw [e1, e2]
    generalize mAdds (zwr (zwr (zwr D' 3 6 0) 68 0 (D 32 7)) 32 32 0) len lev 0 fi la 1 = D9 at *
    have o : ∀ a i, ¬ (a = 32 ∧ (i = 7 ∨ i = 8 ∨ i = 32)) → ¬ (33 ≤ a ∧ a ≤ 38 ∧ i = (D 32 7).toNat) → D9 a i = zwr (zwr D' 3 6 0) 68 0 (D 32 7) a i := fun a i q1 q2 => by
      rw [eD, if_neg (by omega), if_neg (by omega), if_neg (by omega), if_neg (by omega), if_neg (by omega), if_neg (by omega), if_neg (by omega), if_neg (by omega), zwr_e, if_neg (by omega)]
    have oD : ∀ a i, a < 14 ∨ 18 ≤ a → a ≠ 68 → ¬ (a = 3 ∧ i = 6) → ¬ (a = 32 ∧ (i = 7 ∨ i = 8 ∨ i = 32)) → ¬ (33 ≤ a ∧ a ≤ 38 ∧ i = (D 32 7).toNat) → D9 a i = D a i := fun a i q1 q2 q3 q4 q5 => (o a i q4 q5).trans (d a i q1 q2 q3)
    have oF : ∀ a i, 14 ≤ a → a < 32 → D9 a i = D' a i := fun a i q1 q2 => by rw [o a i (by omega) (by omega), zwr_a (by omega), zwr_a (by omega)]
    have f7 : D9 32 7 = D 32 7 + 1 := by rw [eD, if_pos ⟨rfl, rfl⟩]
    have f38 : D9 38 (D 32 7).toNat = 1 := by rw [eD, if_neg (by omega), if_neg (by omega), if_pos ⟨rfl, rfl⟩]
    have f37 : D9 37 (D 32 7).toNat = la := by rw [eD, if_neg (by omega), if_neg (by omega), if_neg (by omega), if_pos ⟨rfl, rfl⟩]
    have f36 : D9 36 (D 32 7).toNat = fi := by rw [eD, if_neg (by omega), if_neg (by omega), if_neg (by omega), if_neg (by omega), if_pos ⟨rfl, rfl⟩]
    have f35 : D9 35 (D 32 7).toNat = 0 := by rw [eD, if_neg (by omega), if_neg (by omega), if_neg (by omega), if_neg (by omega), if_neg (by omega), if_pos ⟨rfl, rfl⟩]
    have f34 : D9 34 (D 32 7).toNat = lev := by rw [eD, if_neg (by omega), if_neg (by omega), if_neg (by omega), if_neg (by omega), if_neg (by omega), if_neg (by omega), if_pos ⟨rfl, rfl⟩]
    have f33 : D9 33 (D 32 7).toNat = len := by rw [eD, if_neg (by omega), if_neg (by omega), if_neg (by omega), if_neg (by omega), if_neg (by omega), if_neg (by omega), if_neg (by omega), if_pos ⟨rfl, rfl⟩]
    have f8 : D9 32 8 = D 32 8 + 1 := by rw [eD, if_neg (by omega), if_pos ⟨rfl, rfl⟩]
    have f32 : D9 32 32 = 0 := by rw [eD, if_neg (by omega), if_neg (by omega), if_neg (by omega), if_neg (by omega), if_neg (by omega), if_neg (by omega), if_neg (by omega), if_neg (by omega), zwr_s]
    have f68 : D9 68 0 = D 32 7 := by rw [o 68 0 (by omega) (by omega), zwr_s]
    have f36' : D9 3 6 = 0 := by rw [o 3 6 (by omega) (by omega), zwr_a (by omega), zwr_s]
    have sD : ∀ a i, (33 ≤ a ∧ a ≤ 39) ∨ (a = 32 ∧ (i = 7 ∨ i = 16)) → D9 a i = S a i := fun a i q => by
      by_cases q1 : 33 ≤ a ∧ a ≤ 38 ∧ i = (D 32 7).toNat
      · obtain ⟨q2, q3, rfl⟩ := q1
        have : a = 33 ∨ a = 34 ∨ a = 35 ∨ a = 36 ∨ a = 37 ∨ a = 38 := by omega
        rcases this with rfl | rfl | rfl | rfl | rfl | rfl
        · rw [f33, s33]
        · rw [f34, s34]
        · rw [f35, s35]
        · rw [f36, s36]
        · rw [f37, s37]
        · rw [f38, s38]
      · by_cases q2 : a = 32 ∧ i = 7
        · obtain ⟨rfl, rfl⟩ := q2
          rw [f7, s7]
        · rw [oD a i (by omega) (by omega) (by omega) (by omega) q1, oS a i (by omega) q1]
    refine Or.inl ⟨g0, D 32 7, h2, _, _, D9, e43.2, ⟨by omega, by omega⟩, fun a i w => by rw [o a i (by omega) (by omega), zwr_a (by omega)], ?_, fun i => oD 39 i (by omega) (by omega) (by omega) (by omega) (by omega), oD 32 16 (by omega) (by omega) (by omega) (by omega) (by omega)⟩
    have enu : nuC D9 (D9 32 16) 0 (D9 32 7).toNat = nuC S (D 32 16) 0 (S 32 7).toNat := by
      rw [sD 32 7 (by omega), sD 32 16 (by omega), s16]
      exact nuC_c (fun i => ⟨sD 38 i (by omega), sD 36 i (by omega), sD 37 i (by omega)⟩) _ _
    refine p.ac (pl := 0) hc hn (Or.inr ⟨rfl, hp8⟩) hb (by omega) (fun a i q1 q2 => oD a i (by omega) (by omega) (by omega) (by omega) (by omega)) (fun a i q => oD a i (by omega) (by omega) (by omega) (by omega) (by omega)) (fun a i q1 q2 q3 => oD a i (by omega) (by omega) (by omega) (by omega) (by omega)) f33 f34 f35 f36 f37 f38 f7 f8 sh (by omega) ob A2 A3 hv ⟨?_, ?_, ?_⟩ (Or.inl f36')
    · have e3 := oF 14 3 (by omega) (by omega)
      have e5 := oF 14 5 (by omega) (by omega)
      refine ⟨⟨by rw [e3]; exact fB.1, fun i hi => ?_⟩, ?_, by rw [e5]; exact f5, fun w => ?_⟩
      · rw [oF 15 i (by omega) (by omega), oF 16 i (by omega) (by omega), oF 17 i (by omega) (by omega)]
        exact fB.2 i (by omega)
      · rw [e3, psF_c (D := D') (D' := D9) (fun i => ⟨oF 16 i (by omega) (by omega), oF 17 i (by omega) (by omega)⟩), fP, clsD_k (fun a i q => sD a i (by omega))]
      · intro r s hr hs
        rw [oF _ _ (by omega) (by omega), e3, fT (by omega) r s hr hs, lnF_c2 _ _ (fun k _ _ => oF 16 k (by omega) (by omega))]
    · intro k hk
      rw [oF 14 3 (by omega) (by omega)] at hk
      rw [oF 16 k (by omega) (by omega), oF 17 k (by omega) (by omega), oF 15 k (by omega) (by omega), sD 33 _ (by omega), sD 34 _ (by omega)]
      exact fN k hk
    · unfold fiP3
      rw [enu, oF 14 3 (by omega) (by omega)]
      refine ⟨n3, fun k hk => ?_⟩
      rw [oF 15 k (by omega) (by omega)]
      exact n15 k hk
  · have bt := mApcT_v (D := D) (len := len) (lev := lev) (fi := fi) (la := la)
    have hw : cE (zc 43 6 [.ref 3, .int (Int32.ofInt len), .int (Int32.ofInt lev), .int (Int32.ofInt fi), .int (Int32.ofInt la)] (zV (zU h X) D)) (mApcT D len lev fi la) 1 0 h X D ∨ cE (zc 43 6 [.ref 3, .int (Int32.ofInt len), .int (Int32.ofInt lev), .int (Int32.ofInt fi), .int (Int32.ofInt la)] (zV (zU h X) D)) (mApcT D len lev fi la) 2 1 h X D := by
      unfold mApcT at g0 ⊢
      by_cases g : (1 ≤ len ∧ len ≤ 900) ∧ (-60 ≤ lev ∧ lev ≤ 0) ∧ (0 ≤ fi ∧ fi ≤ 999) ∧ (fi ≤ la ∧ la ≤ 999)
      · rw [if_pos g] at g0 ⊢
        have e78 := c78_t (h := zV (zU h X) D) g
        by_cases g2 : D 32 7 = 12
        · rw [if_pos (Or.inl g2)]
          refine Or.inr ⟨rfl, ?_⟩
          have e79 := c79_f (h := h) (X := X) (D := D) h0.1 (by omega)
          rw [zc]
          clear p hO g
          simp (disch := first | omega | (simp (disch := omega) only [zwr_s, zwr_a, zwr_i, zn_put, zn_new, zn_fil, zn_chg, zV_n]; omega)) only [zentry, zs0, zs1, zs2, zs3, zg_lo, zg_st, zg_st2, zg_ald, zg_ast, zs_ia, zs_i0, zcs, zg_ii, zi_max, zi_min, zi_abi, zi_abf, zi_fb, zi_bf, lget, lst, lst2, lc2, Option.map_some, zso, if_true, if_false, zc1, and_true, true_and, and_self, List.length_nil, List.length_cons, Nat.zero_le, reduceIte, reduceCtorEq, false_and, and_false, Bool.false_eq_true, zca_some, zr0, zr100, Option.bind_some, zb_none, zb_some, zrc, or_true, true_or, eq_self, ne_eq, not_true_eq_false, not_false_eq_true, zrt_i, zrt_zb, zrt_b, zrt_c, zrt_l, zrt_f, zrt_r, zrt_n, zrt_v, zft_0, zft_1, zft_zb, zft_3, zft_4, zft_5, zft_7r, zft_7n, iI_t, zb_i, zb_0, zb_1, Nat.reduceAdd, Nat.reduceLeDiff, Nat.reduceEqDiff, Nat.reduceSub, Int.reduceNeg, iI_add, iI_sub, iI_mul, iI_neg, iI_n, zbz, zchar_id, zin, zwr_s, zwr_a, zwr_i, if_pos, if_neg, Int.toNat_natCast, Int.natCast_zero, Int.reduceToNat, z43, zc3, e78, e79, zb_x, zt1, zt4]
        · by_cases g3 : D 32 8 = 8
          · rw [if_pos (Or.inr g3)]
            refine Or.inr ⟨rfl, ?_⟩
            have e79 := c79_t (h := h) (X := X) (D := D) h0.1 (by omega) (by omega)
            have e90 := c90 p
            rw [zc]
            clear p hO g
            simp (disch := first | omega | (simp (disch := omega) only [zwr_s, zwr_a, zwr_i, zn_put, zn_new, zn_fil, zn_chg, zV_n]; omega)) only [zentry, zs0, zs1, zs2, zs3, zg_lo, zg_st, zg_st2, zg_ald, zg_ast, zs_ia, zs_i0, zcs, zg_ii, zi_max, zi_min, zi_abi, zi_abf, zi_fb, zi_bf, lget, lst, lst2, lc2, Option.map_some, zso, if_true, if_false, zc1, and_true, true_and, and_self, List.length_nil, List.length_cons, Nat.zero_le, reduceIte, reduceCtorEq, false_and, and_false, Bool.false_eq_true, zca_some, zr0, zr100, Option.bind_some, zb_none, zb_some, zrc, or_true, true_or, eq_self, ne_eq, not_true_eq_false, not_false_eq_true, zrt_i, zrt_zb, zrt_b, zrt_c, zrt_l, zrt_f, zrt_r, zrt_n, zrt_v, zft_0, zft_1, zft_zb, zft_3, zft_4, zft_5, zft_7r, zft_7n, iI_t, zb_i, zb_0, zb_1, Nat.reduceAdd, Nat.reduceLeDiff, Nat.reduceEqDiff, Nat.reduceSub, Int.reduceNeg, iI_add, iI_sub, iI_mul, iI_neg, iI_n, zbz, zchar_id, zin, zwr_s, zwr_a, zwr_i, if_pos, if_neg, Int.toNat_natCast, Int.natCast_zero, Int.reduceToNat, z43, zc3, e78, e79, e90, g3, zt1, zt4, zgX]
          · rw [if_neg (fun q => q.elim g2 g3)] at g0
            omega
      · rw [if_neg g]
        refine Or.inl ⟨rfl, ?_⟩
        have e78 := c78_f (h := h) (X := X) (D := D) r1 r2 r4 r5 g
        rw [zc]
        clear p hO g
        simp (disch := first | omega | (simp (disch := omega) only [zwr_s, zwr_a, zwr_i, zn_put, zn_new, zn_fil, zn_chg, zV_n]; omega)) only [zentry, zs0, zs1, zs2, zs3, zg_lo, zg_st, zg_st2, zg_ald, zg_ast, zs_ia, zs_i0, zcs, zg_ii, zi_max, zi_min, zi_abi, zi_abf, zi_fb, zi_bf, lget, lst, lst2, lc2, Option.map_some, zso, if_true, if_false, zc1, and_true, true_and, and_self, List.length_nil, List.length_cons, Nat.zero_le, reduceIte, reduceCtorEq, false_and, and_false, Bool.false_eq_true, zca_some, zr0, zr100, Option.bind_some, zb_none, zb_some, zrc, or_true, true_or, eq_self, ne_eq, not_true_eq_false, not_false_eq_true, zrt_i, zrt_zb, zrt_b, zrt_c, zrt_l, zrt_f, zrt_r, zrt_n, zrt_v, zft_0, zft_1, zft_zb, zft_3, zft_4, zft_5, zft_7r, zft_7n, iI_t, zb_i, zb_0, zb_1, Nat.reduceAdd, Nat.reduceLeDiff, Nat.reduceEqDiff, Nat.reduceSub, Int.reduceNeg, iI_add, iI_sub, iI_mul, iI_neg, iI_n, zbz, zchar_id, zin, zwr_s, zwr_a, zwr_i, if_pos, if_neg, Int.toNat_natCast, Int.natCast_zero, Int.reduceToNat, z43, zc3, e78, zb_x, zt1, zt4]
    exact Or.inr hw

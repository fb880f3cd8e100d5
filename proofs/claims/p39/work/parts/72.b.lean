/-! a secondary event hung on an event -/
theorem qAt_v {D : zD} {p sd o l : Int} : qAt D p sd o l = 0 ∨ qAt D p sd o l = 1 ∨ qAt D p sd o l = 2 ∨ qAt D p sd o l = 3 := by
  unfold qAt
  split
  · split
    · split <;> omega
    · omega
  · omega
set_option maxRecDepth 20000 in
theorem q8_f {x sd o l : Int} {c : Nat} {h : zH} {X D : zD} (p : Inv c h X D) (hr : iR x) (hs : 0 ≤ sd ∧ sd ≤ 65535) (ho : iR o) (hl : iR l) (g0 : qAt D x sd o l ≠ 0) :
    cE (zc 50 6 [.ref 3, .int (Int32.ofInt x), .int (Int32.ofInt sd), .int (Int32.ofInt o), .int (Int32.ofInt l)] (zV (zU h X) D)) (qAt D x sd o l) 1 2 h X D ∨ cE (zc 50 6 [.ref 3, .int (Int32.ofInt x), .int (Int32.ofInt sd), .int (Int32.ofInt o), .int (Int32.ofInt l)] (zV (zU h X) D)) (qAt D x sd o l) 2 0 h X D ∨ cE (zc 50 6 [.ref 3, .int (Int32.ofInt x), .int (Int32.ofInt sd), .int (Int32.ofInt o), .int (Int32.ofInt l)] (zV (zU h X) D)) (qAt D x sd o l) 3 1 h X D := by
  rcases c87 p hr with ⟨e0, e⟩ | ⟨e0, e⟩
  · have hx : 0 ≤ x ∧ x ≤ D 32 15 - 1 := by
      unfold qEv at e0
      by_cases g : 0 ≤ x ∧ x ≤ D 32 15 - 1
      · exact g
      · rw [if_neg g] at e0
        omega
    obtain ⟨k1, k2, k3⟩ := p.2.1.2.1.K (e := x.toNat) (by omega)
    obtain ⟨⟨v1, v2, v3⟩, -⟩ := p.2.1.2.2 x.toNat (by omega)
    have e175 := c175 (h := h) (X := X) (D := D) (a := (X (lsE X 5 x.toNat) 3).toNat) (by omega) v2.1.1
    rw [v2.1.2.1] at e175
    have kl := v2.1.1
    have h57 := (p.1.2.1 x.toNat (by omega)).1
    have vx : X (lsE X 5 x.toNat) 3 = ((X (lsE X 5 x.toNat) 3).toNat : Int) := by omega
    unfold qAt at g0 ⊢
    rw [if_pos hx] at g0 ⊢
    clear p v2 v3
    generalize lsE X 5 x.toNat = a at *
    generalize (X a 3).toNat = b at *
    by_cases g : sdOk sd o l
    · rw [if_pos g] at g0 ⊢
      obtain ⟨g1, g2, g3⟩ := g
      by_cases g4 : D 57 x.toNat = 3
      · rw [if_pos g4]
        refine Or.inr (Or.inr ⟨rfl, ?_⟩)
        rw [zc]
        rcases g1 with g1 | g1
        · simp (disch := first | omega | (simp (disch := omega) only [zwr_s, zwr_a, zwr_i, zn_put, zn_new, zn_fil, zn_chg, zV_n]; omega)) only [zentry, zs0, zs1, zs2, zs3, zg_lo, zg_st, zg_st2, zg_ald, zg_ast, zs_ia, zs_i0, zcs, zg_ii, zi_max, zi_min, zi_abi, zi_abf, zi_fb, zi_bf, lget, lst, lst2, lc2, Option.map_some, zso, if_true, if_false, zc1, and_true, true_and, and_self, List.length_nil, List.length_cons, Nat.zero_le, reduceIte, reduceCtorEq, false_and, and_false, Bool.false_eq_true, zca_some, zr0, zr100, Option.bind_some, zb_none, zb_some, zrc, or_true, true_or, eq_self, ne_eq, not_true_eq_false, not_false_eq_true, zrt_i, zrt_zb, zrt_b, zrt_c, zrt_l, zrt_f, zrt_r, zrt_n, zrt_v, zft_0, zft_1, zft_zb, zft_3, zft_4, zft_5, zft_7r, zft_7n, iI_t, zb_i, zb_0, zb_1, Nat.reduceAdd, Nat.reduceLeDiff, Nat.reduceEqDiff, Nat.reduceSub, Int.reduceNeg, iI_add, iI_sub, iI_mul, iI_neg, iI_n, zbz, zchar_id, zin, zwr_s, zwr_a, zwr_i, if_pos, if_neg, Int.toNat_natCast, Int.natCast_zero, Int.reduceToNat, z50, zc3, zuE k1 k3, e, vx, e175, kl, g1, g4, zt1, zt2, zW_k, zgX]
        · simp (disch := first | omega | (simp (disch := omega) only [zwr_s, zwr_a, zwr_i, zn_put, zn_new, zn_fil, zn_chg, zV_n]; omega)) only [zentry, zs0, zs1, zs2, zs3, zg_lo, zg_st, zg_st2, zg_ald, zg_ast, zs_ia, zs_i0, zcs, zg_ii, zi_max, zi_min, zi_abi, zi_abf, zi_fb, zi_bf, lget, lst, lst2, lc2, Option.map_some, zso, if_true, if_false, zc1, and_true, true_and, and_self, List.length_nil, List.length_cons, Nat.zero_le, reduceIte, reduceCtorEq, false_and, and_false, Bool.false_eq_true, zca_some, zr0, zr100, Option.bind_some, zb_none, zb_some, zrc, or_true, true_or, eq_self, ne_eq, not_true_eq_false, not_false_eq_true, zrt_i, zrt_zb, zrt_b, zrt_c, zrt_l, zrt_f, zrt_r, zrt_n, zrt_v, zft_0, zft_1, zft_zb, zft_3, zft_4, zft_5, zft_7r, zft_7n, iI_t, zb_i, zb_0, zb_1, Nat.reduceAdd, Nat.reduceLeDiff, Nat.reduceEqDiff, Nat.reduceSub, Int.reduceNeg, iI_add, iI_sub, iI_mul, iI_neg, iI_n, zbz, zchar_id, zin, zwr_s, zwr_a, zwr_i, if_pos, if_neg, Int.toNat_natCast, Int.natCast_zero, Int.reduceToNat, z50, zc3, zuE k1 k3, e, vx, e175, kl, g1, g4, zt1, zt2, zW_k, zgX]
      · rw [if_neg g4] at g0
        omega
    · rw [if_neg g]
      refine Or.inr (Or.inl ⟨rfl, ?_⟩)
      have g : ¬ ((sd = 115 ∨ sd = 101) ∧ (0 ≤ o ∧ o ≤ 900) ∧ (1 ≤ l ∧ l ≤ 900)) := g
      rw [zc]
      by_cases g1 : sd = 115 ∨ sd = 101
      · have run : ¬ (0 ≤ o ∧ o ≤ 900) ∨ ((0 ≤ o ∧ o ≤ 900) ∧ ¬ (1 ≤ l ∧ l ≤ 900)) := by omega
        rcases g1 with g1 | g1
        · rcases run with g2 | ⟨g2, g3⟩
          · by_cases g4 : o < 0
            · simp (disch := first | omega | (simp (disch := omega) only [zwr_s, zwr_a, zwr_i, zn_put, zn_new, zn_fil, zn_chg, zV_n]; omega)) only [zentry, zs0, zs1, zs2, zs3, zg_lo, zg_st, zg_st2, zg_ald, zg_ast, zs_ia, zs_i0, zcs, zg_ii, zi_max, zi_min, zi_abi, zi_abf, zi_fb, zi_bf, lget, lst, lst2, lc2, Option.map_some, zso, if_true, if_false, zc1, and_true, true_and, and_self, List.length_nil, List.length_cons, Nat.zero_le, reduceIte, reduceCtorEq, false_and, and_false, Bool.false_eq_true, zca_some, zr0, zr100, Option.bind_some, zb_none, zb_some, zrc, or_true, true_or, eq_self, ne_eq, not_true_eq_false, not_false_eq_true, zrt_i, zrt_zb, zrt_b, zrt_c, zrt_l, zrt_f, zrt_r, zrt_n, zrt_v, zft_0, zft_1, zft_zb, zft_3, zft_4, zft_5, zft_7r, zft_7n, iI_t, zb_i, zb_0, zb_1, Nat.reduceAdd, Nat.reduceLeDiff, Nat.reduceEqDiff, Nat.reduceSub, Int.reduceNeg, iI_add, iI_sub, iI_mul, iI_neg, iI_n, zbz, zchar_id, zin, zwr_s, zwr_a, zwr_i, if_pos, if_neg, Int.toNat_natCast, Int.natCast_zero, Int.reduceToNat, z50, zc3, zuE k1 k3, e, g1, zt1, zt2, zgX]
            · simp (disch := first | omega | (simp (disch := omega) only [zwr_s, zwr_a, zwr_i, zn_put, zn_new, zn_fil, zn_chg, zV_n]; omega)) only [zentry, zs0, zs1, zs2, zs3, zg_lo, zg_st, zg_st2, zg_ald, zg_ast, zs_ia, zs_i0, zcs, zg_ii, zi_max, zi_min, zi_abi, zi_abf, zi_fb, zi_bf, lget, lst, lst2, lc2, Option.map_some, zso, if_true, if_false, zc1, and_true, true_and, and_self, List.length_nil, List.length_cons, Nat.zero_le, reduceIte, reduceCtorEq, false_and, and_false, Bool.false_eq_true, zca_some, zr0, zr100, Option.bind_some, zb_none, zb_some, zrc, or_true, true_or, eq_self, ne_eq, not_true_eq_false, not_false_eq_true, zrt_i, zrt_zb, zrt_b, zrt_c, zrt_l, zrt_f, zrt_r, zrt_n, zrt_v, zft_0, zft_1, zft_zb, zft_3, zft_4, zft_5, zft_7r, zft_7n, iI_t, zb_i, zb_0, zb_1, Nat.reduceAdd, Nat.reduceLeDiff, Nat.reduceEqDiff, Nat.reduceSub, Int.reduceNeg, iI_add, iI_sub, iI_mul, iI_neg, iI_n, zbz, zchar_id, zin, zwr_s, zwr_a, zwr_i, if_pos, if_neg, Int.toNat_natCast, Int.natCast_zero, Int.reduceToNat, z50, zc3, zuE k1 k3, e, g1, zt1, zt2, zgX]
          · by_cases g4 : l < 1
            · simp (disch := first | omega | (simp (disch := omega) only [zwr_s, zwr_a, zwr_i, zn_put, zn_new, zn_fil, zn_chg, zV_n]; omega)) only [zentry, zs0, zs1, zs2, zs3, zg_lo, zg_st, zg_st2, zg_ald, zg_ast, zs_ia, zs_i0, zcs, zg_ii, zi_max, zi_min, zi_abi, zi_abf, zi_fb, zi_bf, lget, lst, lst2, lc2, Option.map_some, zso, if_true, if_false, zc1, and_true, true_and, and_self, List.length_nil, List.length_cons, Nat.zero_le, reduceIte, reduceCtorEq, false_and, and_false, Bool.false_eq_true, zca_some, zr0, zr100, Option.bind_some, zb_none, zb_some, zrc, or_true, true_or, eq_self, ne_eq, not_true_eq_false, not_false_eq_true, zrt_i, zrt_zb, zrt_b, zrt_c, zrt_l, zrt_f, zrt_r, zrt_n, zrt_v, zft_0, zft_1, zft_zb, zft_3, zft_4, zft_5, zft_7r, zft_7n, iI_t, zb_i, zb_0, zb_1, Nat.reduceAdd, Nat.reduceLeDiff, Nat.reduceEqDiff, Nat.reduceSub, Int.reduceNeg, iI_add, iI_sub, iI_mul, iI_neg, iI_n, zbz, zchar_id, zin, zwr_s, zwr_a, zwr_i, if_pos, if_neg, Int.toNat_natCast, Int.natCast_zero, Int.reduceToNat, z50, zc3, zuE k1 k3, e, g1, zt1, zt2, zgX]
            · simp (disch := first | omega | (simp (disch := omega) only [zwr_s, zwr_a, zwr_i, zn_put, zn_new, zn_fil, zn_chg, zV_n]; omega)) only [zentry, zs0, zs1, zs2, zs3, zg_lo, zg_st, zg_st2, zg_ald, zg_ast, zs_ia, zs_i0, zcs, zg_ii, zi_max, zi_min, zi_abi, zi_abf, zi_fb, zi_bf, lget, lst, lst2, lc2, Option.map_some, zso, if_true, if_false, zc1, and_true, true_and, and_self, List.length_nil, List.length_cons, Nat.zero_le, reduceIte, reduceCtorEq, false_and, and_false, Bool.false_eq_true, zca_some, zr0, zr100, Option.bind_some, zb_none, zb_some, zrc, or_true, true_or, eq_self, ne_eq, not_true_eq_false, not_false_eq_true, zrt_i, zrt_zb, zrt_b, zrt_c, zrt_l, zrt_f, zrt_r, zrt_n, zrt_v, zft_0, zft_1, zft_zb, zft_3, zft_4, zft_5, zft_7r, zft_7n, iI_t, zb_i, zb_0, zb_1, Nat.reduceAdd, Nat.reduceLeDiff, Nat.reduceEqDiff, Nat.reduceSub, Int.reduceNeg, iI_add, iI_sub, iI_mul, iI_neg, iI_n, zbz, zchar_id, zin, zwr_s, zwr_a, zwr_i, if_pos, if_neg, Int.toNat_natCast, Int.natCast_zero, Int.reduceToNat, z50, zc3, zuE k1 k3, e, g1, zt1, zt2, zgX]
        · rcases run with g2 | ⟨g2, g3⟩
          · by_cases g4 : o < 0
            · simp (disch := first | omega | (simp (disch := omega) only [zwr_s, zwr_a, zwr_i, zn_put, zn_new, zn_fil, zn_chg, zV_n]; omega)) only [zentry, zs0, zs1, zs2, zs3, zg_lo, zg_st, zg_st2, zg_ald, zg_ast, zs_ia, zs_i0, zcs, zg_ii, zi_max, zi_min, zi_abi, zi_abf, zi_fb, zi_bf, lget, lst, lst2, lc2, Option.map_some, zso, if_true, if_false, zc1, and_true, true_and, and_self, List.length_nil, List.length_cons, Nat.zero_le, reduceIte, reduceCtorEq, false_and, and_false, Bool.false_eq_true, zca_some, zr0, zr100, Option.bind_some, zb_none, zb_some, zrc, or_true, true_or, eq_self, ne_eq, not_true_eq_false, not_false_eq_true, zrt_i, zrt_zb, zrt_b, zrt_c, zrt_l, zrt_f, zrt_r, zrt_n, zrt_v, zft_0, zft_1, zft_zb, zft_3, zft_4, zft_5, zft_7r, zft_7n, iI_t, zb_i, zb_0, zb_1, Nat.reduceAdd, Nat.reduceLeDiff, Nat.reduceEqDiff, Nat.reduceSub, Int.reduceNeg, iI_add, iI_sub, iI_mul, iI_neg, iI_n, zbz, zchar_id, zin, zwr_s, zwr_a, zwr_i, if_pos, if_neg, Int.toNat_natCast, Int.natCast_zero, Int.reduceToNat, z50, zc3, zuE k1 k3, e, g1, zt1, zt2, zgX]
            · simp (disch := first | omega | (simp (disch := omega) only [zwr_s, zwr_a, zwr_i, zn_put, zn_new, zn_fil, zn_chg, zV_n]; omega)) only [zentry, zs0, zs1, zs2, zs3, zg_lo, zg_st, zg_st2, zg_ald, zg_ast, zs_ia, zs_i0, zcs, zg_ii, zi_max, zi_min, zi_abi, zi_abf, zi_fb, zi_bf, lget, lst, lst2, lc2, Option.map_some, zso, if_true, if_false, zc1, and_true, true_and, and_self, List.length_nil, List.length_cons, Nat.zero_le, reduceIte, reduceCtorEq, false_and, and_false, Bool.false_eq_true, zca_some, zr0, zr100, Option.bind_some, zb_none, zb_some, zrc, or_true, true_or, eq_self, ne_eq, not_true_eq_false, not_false_eq_true, zrt_i, zrt_zb, zrt_b, zrt_c, zrt_l, zrt_f, zrt_r, zrt_n, zrt_v, zft_0, zft_1, zft_zb, zft_3, zft_4, zft_5, zft_7r, zft_7n, iI_t, zb_i, zb_0, zb_1, Nat.reduceAdd, Nat.reduceLeDiff, Nat.reduceEqDiff, Nat.reduceSub, Int.reduceNeg, iI_add, iI_sub, iI_mul, iI_neg, iI_n, zbz, zchar_id, zin, zwr_s, zwr_a, zwr_i, if_pos, if_neg, Int.toNat_natCast, Int.natCast_zero, Int.reduceToNat, z50, zc3, zuE k1 k3, e, g1, zt1, zt2, zgX]
          · by_cases g4 : l < 1
            · simp (disch := first | omega | (simp (disch := omega) only [zwr_s, zwr_a, zwr_i, zn_put, zn_new, zn_fil, zn_chg, zV_n]; omega)) only [zentry, zs0, zs1, zs2, zs3, zg_lo, zg_st, zg_st2, zg_ald, zg_ast, zs_ia, zs_i0, zcs, zg_ii, zi_max, zi_min, zi_abi, zi_abf, zi_fb, zi_bf, lget, lst, lst2, lc2, Option.map_some, zso, if_true, if_false, zc1, and_true, true_and, and_self, List.length_nil, List.length_cons, Nat.zero_le, reduceIte, reduceCtorEq, false_and, and_false, Bool.false_eq_true, zca_some, zr0, zr100, Option.bind_some, zb_none, zb_some, zrc, or_true, true_or, eq_self, ne_eq, not_true_eq_false, not_false_eq_true, zrt_i, zrt_zb, zrt_b, zrt_c, zrt_l, zrt_f, zrt_r, zrt_n, zrt_v, zft_0, zft_1, zft_zb, zft_3, zft_4, zft_5, zft_7r, zft_7n, iI_t, zb_i, zb_0, zb_1, Nat.reduceAdd, Nat.reduceLeDiff, Nat.reduceEqDiff, Nat.reduceSub, Int.reduceNeg, iI_add, iI_sub, iI_mul, iI_neg, iI_n, zbz, zchar_id, zin, zwr_s, zwr_a, zwr_i, if_pos, if_neg, Int.toNat_natCast, Int.natCast_zero, Int.reduceToNat, z50, zc3, zuE k1 k3, e, g1, zt1, zt2, zgX]
            · simp (disch := first | omega | (simp (disch := omega) only [zwr_s, zwr_a, zwr_i, zn_put, zn_new, zn_fil, zn_chg, zV_n]; omega)) only [zentry, zs0, zs1, zs2, zs3, zg_lo, zg_st, zg_st2, zg_ald, zg_ast, zs_ia, zs_i0, zcs, zg_ii, zi_max, zi_min, zi_abi, zi_abf, zi_fb, zi_bf, lget, lst, lst2, lc2, Option.map_some, zso, if_true, if_false, zc1, and_true, true_and, and_self, List.length_nil, List.length_cons, Nat.zero_le, reduceIte, reduceCtorEq, false_and, and_false, Bool.false_eq_true, zca_some, zr0, zr100, Option.bind_some, zb_none, zb_some, zrc, or_true, true_or, eq_self, ne_eq, not_true_eq_false, not_false_eq_true, zrt_i, zrt_zb, zrt_b, zrt_c, zrt_l, zrt_f, zrt_r, zrt_n, zrt_v, zft_0, zft_1, zft_zb, zft_3, zft_4, zft_5, zft_7r, zft_7n, iI_t, zb_i, zb_0, zb_1, Nat.reduceAdd, Nat.reduceLeDiff, Nat.reduceEqDiff, Nat.reduceSub, Int.reduceNeg, iI_add, iI_sub, iI_mul, iI_neg, iI_n, zbz, zchar_id, zin, zwr_s, zwr_a, zwr_i, if_pos, if_neg, Int.toNat_natCast, Int.natCast_zero, Int.reduceToNat, z50, zc3, zuE k1 k3, e, g1, zt1, zt2, zgX]
      · simp (disch := first | omega | (simp (disch := omega) only [zwr_s, zwr_a, zwr_i, zn_put, zn_new, zn_fil, zn_chg, zV_n]; omega)) only [zentry, zs0, zs1, zs2, zs3, zg_lo, zg_st, zg_st2, zg_ald, zg_ast, zs_ia, zs_i0, zcs, zg_ii, zi_max, zi_min, zi_abi, zi_abf, zi_fb, zi_bf, lget, lst, lst2, lc2, Option.map_some, zso, if_true, if_false, zc1, and_true, true_and, and_self, List.length_nil, List.length_cons, Nat.zero_le, reduceIte, reduceCtorEq, false_and, and_false, Bool.false_eq_true, zca_some, zr0, zr100, Option.bind_some, zb_none, zb_some, zrc, or_true, true_or, eq_self, ne_eq, not_true_eq_false, not_false_eq_true, zrt_i, zrt_zb, zrt_b, zrt_c, zrt_l, zrt_f, zrt_r, zrt_n, zrt_v, zft_0, zft_1, zft_zb, zft_3, zft_4, zft_5, zft_7r, zft_7n, iI_t, zb_i, zb_0, zb_1, Nat.reduceAdd, Nat.reduceLeDiff, Nat.reduceEqDiff, Nat.reduceSub, Int.reduceNeg, iI_add, iI_sub, iI_mul, iI_neg, iI_n, zbz, zchar_id, zin, zwr_s, zwr_a, zwr_i, if_pos, if_neg, Int.toNat_natCast, Int.natCast_zero, Int.reduceToNat, z50, zc3, zuE k1 k3, e, zt1, zt2, zgX]
  · refine Or.inl ⟨?_, ?_⟩
    · unfold qEv at e0
      unfold qAt
      by_cases g : 0 ≤ x ∧ x ≤ D 32 15 - 1
      · rw [if_pos g] at e0
        omega
      · rw [if_neg g]
    · rw [zc]
      clear p g0
      simp (disch := first | omega | (simp (disch := omega) only [zwr_s, zwr_a, zwr_i, zn_put, zn_new, zn_fil, zn_chg, zV_n]; omega)) only [zentry, zs0, zs1, zs2, zs3, zg_lo, zg_st, zg_st2, zg_ald, zg_ast, zs_ia, zs_i0, zcs, zg_ii, zi_max, zi_min, zi_abi, zi_abf, zi_fb, zi_bf, lget, lst, lst2, lc2, Option.map_some, zso, if_true, if_false, zc1, and_true, true_and, and_self, List.length_nil, List.length_cons, Nat.zero_le, reduceIte, reduceCtorEq, false_and, and_false, Bool.false_eq_true, zca_some, zr0, zr100, Option.bind_some, zb_none, zb_some, zrc, or_true, true_or, eq_self, ne_eq, not_true_eq_false, not_false_eq_true, zrt_i, zrt_zb, zrt_b, zrt_c, zrt_l, zrt_f, zrt_r, zrt_n, zrt_v, zft_0, zft_1, zft_zb, zft_3, zft_4, zft_5, zft_7r, zft_7n, iI_t, zb_i, zb_0, zb_1, Nat.reduceAdd, Nat.reduceLeDiff, Nat.reduceEqDiff, Nat.reduceSub, Int.reduceNeg, iI_add, iI_sub, iI_mul, iI_neg, iI_n, zbz, zchar_id, zin, zwr_s, zwr_a, zwr_i, if_pos, if_neg, Int.toNat_natCast, Int.natCast_zero, Int.reduceToNat, z50, zc3, e, zb_x, zt2]
set_option maxRecDepth 20000 in
theorem s50 {x sd o l : Int} {c : Nat} {h : zH} {X D : zD} (p : Inv c h X D) (hc : c < 600) (hr : iR x) (hs : 0 ≤ sd ∧ sd ≤ 65535) (ho : iR o) (hl : iR l) : (qAt D x sd o l = 0 ∧ ∃ (v : Int) (h1 : zH) (X1 D1 D9 : zD), (zc 50 6 [.ref 3, .int (Int32.ofInt x), .int (Int32.ofInt sd), .int (Int32.ofInt o), .int (Int32.ofInt l)] (zV (zU h X) D)) = some (.inl (some (.int (Int32.ofInt v))), zV (zU h1 X1) D1) ∧ (-(12 * (c : Int)) ≤ v ∧ v ≤ 100000) ∧ (∀ a i, a < 32 → D9 a i = D1 a i) ∧ Inv (c + 1) h1 X1 D9 ∧ ∀ i, D9 39 i = D 39 i) ∨ cE (zc 50 6 [.ref 3, .int (Int32.ofInt x), .int (Int32.ofInt sd), .int (Int32.ofInt o), .int (Int32.ofInt l)] (zV (zU h X) D)) (qAt D x sd o l) 1 2 h X D ∨ cE (zc 50 6 [.ref 3, .int (Int32.ofInt x), .int (Int32.ofInt sd), .int (Int32.ofInt o), .int (Int32.ofInt l)] (zV (zU h X) D)) (qAt D x sd o l) 2 0 h X D ∨ cE (zc 50 6 [.ref 3, .int (Int32.ofInt x), .int (Int32.ofInt sd), .int (Int32.ofInt o), .int (Int32.ofInt l)] (zV (zU h X) D)) (qAt D x sd o l) 3 1 h X D := by
  have h15 := p.1.1.2.1.1
  by_cases g0 : qAt D x sd o l = 0
  · have hx : (0 ≤ x ∧ x ≤ D 32 15 - 1) ∧ sdOk sd o l ∧ D 57 x.toNat ≠ 3 := by
      unfold qAt at g0
      by_cases g : 0 ≤ x ∧ x ≤ D 32 15 - 1
      · rw [if_pos g] at g0
        by_cases g1 : sdOk sd o l
        · rw [if_pos g1] at g0
          by_cases g2 : D 57 x.toNat = 3
          · rw [if_pos g2] at g0
            omega
          · exact ⟨g, g1, g2⟩
        · rw [if_neg g1] at g0
          omega
      · rw [if_neg g] at g0
        omega
    obtain ⟨hx, ⟨s1, s2, s3⟩, s4⟩ := hx
    have e87 : zc 87 2 [.ref 3, .int (Int32.ofInt x)] (zV (zU h X) D) = some (.inl (some (.ref (lsE X 5 x.toNat))), zV (zU h X) D) := by
      rcases c87 p hr with ⟨-, e⟩ | ⟨e, -⟩
      · exact e
      · unfold qEv at e
        rw [if_pos hx] at e
        omega
    have hS := p.2.1.2.1
    have hG := p.ev
    have hz := p.2.2.2.2.2.1
    have T := hG.2.2 x.toNat (by omega)
    obtain ⟨⟨k1, k2, k3⟩, tb, ⟨v1, v2, v3⟩, te, tf, ⟨tg1, tg2⟩⟩ := T
    have vx : X (lsE X 5 x.toNat) 3 = ((X (lsE X 5 x.toNat) 3).toNat : Int) := by omega
    have kl := v2.1.1
    -- the new object
    have shn : shX h (znew h 3 3 (fun i => zdef (zty 3 i))) 1 3 := shX.new
    have kn : zk (znew h 3 3 (fun i => zdef (zty 3 i))) (zn h) = 3 := by rw [zk_new, if_pos rfl]
    have nw := zW_new (h := h) (X := X) (D := D) (k := 3) (n := 3) (by omega) hz.1
    have e24 := c24 (X := zrw X (zn h) (dz 3)) (D := D) (o := o) (l := l) hz.1 kn hs
    have hXo : ∀ b k, b ≠ zn h → seI (zrw X (zn h) (dz 3)) (zn h) sd o l b k = X b k := fun b k q => by
      unfold seI
      rw [zwr_a q, zwr_a q, zwr_a q, zrw_a q]
    have hXs : seI (zrw X (zn h) (dz 3)) (zn h) sd o l (zn h) 0 = sd ∧ seI (zrw X (zn h) (dz 3)) (zn h) sd o l (zn h) 1 = o ∧ seI (zrw X (zn h) (dz 3)) (zn h) sd o l (zn h) 2 = l := by
      unfold seI zwr
      simp
    have n1 : zn (znew h 3 3 (fun i => zdef (zty 3 i))) = zn h + 1 := zn_new
    generalize hh1 : znew h 3 3 (fun i => zdef (zty 3 i)) = h1 at *
    generalize seI (zrw X (zn h) (dz 3)) (zn h) sd o l = X1 at *
    have kk1 := shn.2.2.2 1 (by omega)
    have hLn : (X (lsE X 5 x.toNat) 3).toNat < zn h := by omega
    have hl1 : lsO h1 X1 (X (lsE X 5 x.toNat) 3).toNat (D 57 x.toNat) 3 := by
      have := lsO_sh shn hLn v2
      obtain ⟨⟨w1, w2, w3⟩, w4, w5⟩ := this
      have q1 : ∀ k, X1 (X (lsE X 5 x.toNat) 3).toNat k = X (X (lsE X 5 x.toNat) 3).toNat k := fun k => hXo _ k (by omega)
      have hd : (X (X (lsE X 5 x.toNat) 3).toNat 1).toNat < zn h := by
        rcases v2.2.1 with ⟨-, q⟩ | ⟨q, -⟩ <;> omega
      have q2 : ∀ k, X1 (X (X (lsE X 5 x.toNat) 3).toNat 1).toNat k = X (X (X (lsE X 5 x.toNat) 3).toNat 1).toNat k := fun k => hXo _ k (by omega)
      unfold lsO
      rw [q1, q1, q2]
      refine ⟨⟨w1, w2, w3⟩, w4, fun i hi => ?_⟩
      rw [q2]
      exact w5 i hi
    have q11 : X1 (X (lsE X 5 x.toNat) 3).toNat 1 = X (X (lsE X 5 x.toNat) 3).toNat 1 := hXo _ 1 (by omega)
    obtain ⟨h2, X2, e165, A1, A2, A3, A4, A5, A6⟩ := c165 (D := D) (v := zn h) (by omega) (by omega) (by omega) hl1 (by omega) (by omega) (by rw [kk1.1]; exact hz.2.1) (by rw [kk1.2.1]; exact hz.2.2) ⟨hz.1, by omega, kn⟩
    have e175 := c175 (h := h) (X := X) (D := D) (a := (X (lsE X 5 x.toNat) 3).toNat) (by omega) kl
    rw [v2.1.2.1] at e175
    have e175b := c175 (h := h2) (X := X2) (D := D) (a := (X (lsE X 5 x.toNat) 3).toNat) (by omega) A2.1.1
    rw [A2.1.2.1] at e175b
    have kl2 := A2.1.1
    have sh := shn.tr A1
    have ob : obD h X X2 (X (lsE X 5 x.toNat) 3).toNat := fun b k q0 q1 q2 => by
      rw [A4 b k (by omega) q1 (by rw [q11]; exact q2)]
      exact hXo b k (by omega)
    have hLa : zk h (X (X (lsE X 5 x.toNat) 3).toNat 1).toNat = 31 ∨ zk h (X (X (lsE X 5 x.toNat) 3).toNat 1).toNat = 26 := by
      rcases v2.2.1 with ⟨-, g4⟩ | ⟨w1, w2, w3, w4, w5⟩
      · left
        rw [g4]
        exact hz.2.1
      · exact Or.inr w2
    have ea : ∀ m, X2 (lsE X 5 x.toNat) m = X (lsE X 5 x.toNat) m := fun m => ob _ m k2 (fun w => by rw [← w] at kl; omega) (fun w => by rw [← w] at hLa; omega)
    have ka1 : zk h1 (lsE X 5 x.toNat) = 1 := by rw [(shn.2.2.2 _ k2).1]; exact k3
    have ka2 : zk h2 (lsE X 5 x.toNat) = 1 := by rw [(sh.2.2.2 _ k2).1]; exact k3
    have kl1 : zk h1 (X (lsE X 5 x.toNat) 3).toNat = 7 := hl1.1.1
    have xa1 : ∀ k, X1 (lsE X 5 x.toNat) k = X (lsE X 5 x.toNat) k := fun k => hXo _ k (by omega)
    have vx1 : X1 (lsE X 5 x.toNat) 3 = ((X (lsE X 5 x.toNat) 3).toNat : Int) := by rw [xa1]; exact vx
    have vx2 : X2 (lsE X 5 x.toNat) 3 = ((X (lsE X 5 x.toNat) 3).toNat : Int) := by rw [ea]; exact vx
    have e50 : cV (zc 50 6 [.ref 3, .int (Int32.ofInt x), .int (Int32.ofInt sd), .int (Int32.ofInt o), .int (Int32.ofInt l)] (zV (zU h X) D)) 0 (D 57 x.toNat + 1) h2 X2 D := by
      refine ⟨rfl, ?_⟩
      rw [zc]
      clear hG hS p v2 v3 te tf tb tg2 A1 A2 A3 A4 A5 A6 shn sh hl1 ob hLa ea xa1 hXo q11 kk1 hXs
      generalize lsE X 5 x.toNat = a at *
      generalize (X a 3).toNat = b at *
      rcases s1 with s1 | s1
      · simp (disch := first | omega | (simp (disch := omega) only [zwr_s, zwr_a, zwr_i, zn_put, zn_new, zn_fil, zn_chg, zV_n]; omega)) only [zentry, zs0, zs1, zs2, zs3, zg_lo, zg_st, zg_st2, zg_ald, zg_ast, zs_ia, zs_i0, zcs, zg_ii, zi_max, zi_min, zi_abi, zi_abf, zi_fb, zi_bf, lget, lst, lst2, lc2, Option.map_some, zso, if_true, if_false, zc1, and_true, true_and, and_self, List.length_nil, List.length_cons, Nat.zero_le, reduceIte, reduceCtorEq, false_and, and_false, Bool.false_eq_true, zca_some, zr0, zr100, Option.bind_some, zb_none, zb_some, zrc, or_true, true_or, eq_self, ne_eq, not_true_eq_false, not_false_eq_true, zrt_i, zrt_zb, zrt_b, zrt_c, zrt_l, zrt_f, zrt_r, zrt_n, zrt_v, zft_0, zft_1, zft_zb, zft_3, zft_4, zft_5, zft_7r, zft_7n, iI_t, zb_i, zb_0, zb_1, Nat.reduceAdd, Nat.reduceLeDiff, Nat.reduceEqDiff, Nat.reduceSub, Int.reduceNeg, iI_add, iI_sub, iI_mul, iI_neg, iI_n, zbz, zchar_id, zin, zwr_s, zwr_a, zwr_i, if_pos, if_neg, Int.toNat_natCast, Int.natCast_zero, Int.reduceToNat, z50, zc3, zuE k1 k3, zuE k1 ka1, zuE k1 ka2, e87, vx, vx1, vx2, e175, e175b, nw, zW_n, hh1, e24, e165, kl, kl1, kl2, zt1, zt2, zt4, zW_k]
      · simp (disch := first | omega | (simp (disch := omega) only [zwr_s, zwr_a, zwr_i, zn_put, zn_new, zn_fil, zn_chg, zV_n]; omega)) only [zentry, zs0, zs1, zs2, zs3, zg_lo, zg_st, zg_st2, zg_ald, zg_ast, zs_ia, zs_i0, zcs, zg_ii, zi_max, zi_min, zi_abi, zi_abf, zi_fb, zi_bf, lget, lst, lst2, lc2, Option.map_some, zso, if_true, if_false, zc1, and_true, true_and, and_self, List.length_nil, List.length_cons, Nat.zero_le, reduceIte, reduceCtorEq, false_and, and_false, Bool.false_eq_true, zca_some, zr0, zr100, Option.bind_some, zb_none, zb_some, zrc, or_true, true_or, eq_self, ne_eq, not_true_eq_false, not_false_eq_true, zrt_i, zrt_zb, zrt_b, zrt_c, zrt_l, zrt_f, zrt_r, zrt_n, zrt_v, zft_0, zft_1, zft_zb, zft_3, zft_4, zft_5, zft_7r, zft_7n, iI_t, zb_i, zb_0, zb_1, Nat.reduceAdd, Nat.reduceLeDiff, Nat.reduceEqDiff, Nat.reduceSub, Int.reduceNeg, iI_add, iI_sub, iI_mul, iI_neg, iI_n, zbz, zchar_id, zin, zwr_s, zwr_a, zwr_i, if_pos, if_neg, Int.toNat_natCast, Int.natCast_zero, Int.reduceToNat, z50, zc3, zuE k1 k3, zuE k1 ka1, zuE k1 ka2, e87, vx, vx1, vx2, e175, e175b, nw, zW_n, hh1, e24, e165, kl, kl1, kl2, zt1, zt2, zt4, zW_k]
    have d : ∀ a i, a ≠ 68 → zwr D 68 0 (D 57 x.toNat + 1) a i = D a i := fun a i q2 => zwr_a q2
    have em := m119 (p := x) (sd := sd) (o := o) (l := l) (h := zU h2 X2) (D := zwr D 68 0 (D 57 x.toNat + 1)) hr hs ho hl (by rw [d 32 15 (by omega)]; exact h15) (fun e he => by
      rw [d 32 15 (by omega)] at he
      have q := p.1.2.1 e he
      have r : ∀ i, zwr D 68 0 (D 57 x.toNat + 1) (45 + e) i = D (45 + e) i := fun i => d _ _ (by omega)
      rw [d 57 e (by omega)]
      refine ⟨q.1, fun k hk => ?_⟩
      rw [r, r, r]
      exact q.2 k hk)
    have g1 : qAt (zwr D 68 0 (D 57 x.toNat + 1)) x sd o l = 0 := by
      unfold qAt
      rw [d 32 15 (by omega), d 57 _ (by omega)]
      exact g0
    rw [if_pos g1, if_pos g1, d 57 _ (by omega)] at em
    have eD : ∀ a i, mAtD (zwr D 68 0 (D 57 x.toNat + 1)) x sd o l a i = if a = 57 ∧ i = x.toNat then D 57 x.toNat + 1 else if a = 45 + x.toNat ∧ i = 3 * (D 57 x.toNat).toNat + 2 then l else if a = 45 + x.toNat ∧ i = 3 * (D 57 x.toNat).toNat + 1 then o else if a = 45 + x.toNat ∧ i = 3 * (D 57 x.toNat).toNat then (if sd = 115 then 0 else 1) else if a = 32 ∧ i = 32 then 0 else zwr D 68 0 (D 57 x.toNat + 1) a i := fun a i => by
      unfold mAtD
      rw [d 57 _ (by omega), zwr_e, zwr_e, zwr_e, zwr_e, zwr_e]
    generalize mAtD (zwr D 68 0 (D 57 x.toNat + 1)) x sd o l = D9 at *
    have o9 : ∀ a i, ¬ (a = 32 ∧ i = 32) → a ≠ 57 → a ≠ 45 + x.toNat → a ≠ 68 → D9 a i = D a i := fun a i q1 q2 q3 q4 => by
      rw [eD, if_neg (by omega), if_neg (by omega), if_neg (by omega), if_neg (by omega), if_neg (by omega), d a i q4]
    have o57 : ∀ j, j ≠ x.toNat → D9 57 j = D 57 j := fun j q => by
      rw [eD, if_neg (by omega), if_neg (by omega), if_neg (by omega), if_neg (by omega), if_neg (by omega), d _ _ (by omega)]
    have f15 : D9 32 15 = D 32 15 := o9 32 15 (by omega) (by omega) (by omega) (by omega)
    have f7 : D9 32 7 = D 32 7 := o9 32 7 (by omega) (by omega) (by omega) (by omega)
    have h4L : 4 ≠ (X (lsE X 5 x.toNat) 3).toNat := by omega
    have h5L : 5 ≠ (X (lsE X 5 x.toNat) 3).toNat := by omega
    obtain ⟨hC9, l4⟩ := p.2.1.1.mv (D' := D9) sh hz.1 hz.2.1 v2 ob h4L (fun a i q => o9 a i (by omega) (by omega) (by omega) (by omega))
    obtain ⟨l51, l52⟩ := lsO_k sh hz.2.1 v2 hS.1 (by omega) h5L ob
    have hX : ∀ n : Nat, (n : Int) < D 32 15 → ∀ m, X2 (lsE X 5 n) m = X (lsE X 5 n) m := fun n hn m => by
      obtain ⟨z1, z2, z3⟩ := hS.K hn
      exact ob _ m z2 (fun w => by rw [← w] at kl; omega) (fun w => by rw [← w] at hLa; omega)
    have z1 := sh.1
    have z2 := sh.2.1
    have z3 := sh.2.2.1
    have kz := sh.2.2.2 1 (by omega)
    refine Or.inl ⟨g0, D 57 x.toNat + 1, h2, _, _, D9, e50.2, ⟨by omega, by omega⟩, fun a i w => o9 a i (by omega) (by omega) (by omega) (by omega), ?_, fun i => o9 39 i (by omega) (by omega) (by omega) (by omega)⟩
    refine p.me hc (fun a i q1 q2 => o9 a i (by omega) (by omega) (by omega) (by omega)) (fun a i q => o9 a i (by omega) (by omega) (by omega) (by omega)) (by omega) (fun i => ?_) hC9 ⟨by rw [f15]; exact l51, fun i j hi hj => ?_, fun e he => ?_⟩ ?_ ⟨⟨by omega, kz.1.trans hz.2.1, kz.2.1.trans hz.2.2⟩, by omega, by omega⟩
    · rw [o9 43 i (by omega) (by omega) (by omega) (by omega)]
      exact p.1.2.2.1 i
    · rw [f15] at hi hj
      rw [l52 i hi, l52 j hj]
      exact hS.2.1 i j hi hj
    · rw [f15] at he
      rw [l52 e he]
      by_cases ge : e = x.toNat
      · subst ge
        have c57 : D9 57 x.toNat = D 57 x.toNat + 1 := by rw [eD, if_pos ⟨rfl, rfl⟩]
        have r40 : ∀ a, 40 ≤ a → a ≤ 43 → D9 a x.toNat = D a x.toNat := fun a q1 q2 => o9 a _ (by omega) (by omega) (by omega) (by omega)
        have row : ∀ k, D9 (45 + x.toNat) k = if k = 3 * (D 57 x.toNat).toNat + 2 then l else if k = 3 * (D 57 x.toNat).toNat + 1 then o else if k = 3 * (D 57 x.toNat).toNat then (if sd = 115 then 0 else 1) else D (45 + x.toNat) k := fun k => by
          rw [eD, if_neg (by omega)]
          by_cases w1 : k = 3 * (D 57 x.toNat).toNat + 2
          · rw [if_pos ⟨rfl, w1⟩, if_pos w1]
          · rw [if_neg (fun q => w1 q.2), if_neg w1]
            by_cases w2 : k = 3 * (D 57 x.toNat).toNat + 1
            · rw [if_pos ⟨rfl, w2⟩, if_pos w2]
            · rw [if_neg (fun q => w2 q.2), if_neg w2]
              by_cases w3 : k = 3 * (D 57 x.toNat).toNat
              · rw [if_pos ⟨rfl, w3⟩, if_pos w3]
              · rw [if_neg (fun q => w3 q.2), if_neg w3, if_neg (by omega), d _ _ (by omega)]
        have rlo : ∀ k i : Nat, (k : Int) < D 57 x.toNat → i < 3 → D9 (45 + x.toNat) (3 * k + i) = D (45 + x.toNat) (3 * k + i) := fun k i q1 q2 => by
          rw [row, if_neg (by omega), if_neg (by omega), if_neg (by omega)]
        have rhi : ∀ k : Nat, k = (D 57 x.toNat).toNat → D9 (45 + x.toNat) (3 * k) = (if sd = 115 then 0 else 1) ∧ D9 (45 + x.toNat) (3 * k + 1) = o ∧ D9 (45 + x.toNat) (3 * k + 2) = l := fun k q1 => by
          subst q1
          refine ⟨?_, ?_, ?_⟩
          · rw [row, if_neg (by omega), if_neg (by omega), if_pos rfl]
          · rw [row, if_neg (by omega), if_pos rfl]
          · rw [row, if_pos rfl]
        clear row
        refine ⟨⟨k1, by omega, ka2⟩, ?_, ?_, fun k hk => ?_, ?_, ?_⟩
        · rw [ea, ea, ea, ea, r40 40 (by omega) (by omega), r40 41 (by omega) (by omega), r40 42 (by omega) (by omega), r40 43 (by omega) (by omega), l4 _ (by omega)]
          exact tb
        · rw [ea, c57]
          refine ⟨by omega, A2, ?_⟩
          rw [A5 100 (by omega) (by omega) (by omega), hXo _ _ (by omega)]
          exact v3
        · rw [c57] at hk
          rw [ea, A3 k (by omega)]
          by_cases w : (k : Int) < D 57 x.toNat
          · have lk : lsE X1 (X (lsE X 5 x.toNat) 3).toNat k = lsE X (X (lsE X 5 x.toNat) 3).toNat k := by
              show (X1 (X1 (X (lsE X 5 x.toNat) 3).toNat 1).toNat k).toNat = (X (X (X (lsE X 5 x.toNat) 3).toNat 1).toNat k).toNat
              rw [q11, hXo _ _ (by
                rcases v2.2.1 with ⟨-, q⟩ | ⟨q, -⟩ <;> omega)]
            obtain ⟨u1, u2, u3⟩ := v2.2.2 k w
            have u3 : zk h (lsE X (X (lsE X 5 x.toNat) 3).toNat k) = 3 := u3
            have u4 : lsE X (X (lsE X 5 x.toNat) 3).toNat k < zn h := by
              show (X (X (X (lsE X 5 x.toNat) 3).toNat 1).toNat k).toNat < zn h
              omega
            have es : ∀ m, X2 (lsE X (X (lsE X 5 x.toNat) 3).toNat k) m = X (lsE X (X (lsE X 5 x.toNat) 3).toNat k) m := fun m => ob _ m u4 (fun q => by rw [q] at u3; omega) (fun q => by rw [← q] at hLa; omega)
            have y0 := rlo k 0 w (by omega)
            rw [Nat.add_zero] at y0
            rw [if_pos w, lk, es, es, es, y0, rlo k 1 w (by omega), rlo k 2 w (by omega)]
            exact te k w
          · have wk : k = (D 57 x.toNat).toNat := by omega
            have es : ∀ m, X2 (zn h) m = X1 (zn h) m := fun m => A4 _ m (by omega) (by omega) (by
              rw [q11]
              rcases v2.2.1 with ⟨-, q⟩ | ⟨q, -⟩ <;> omega)
            obtain ⟨y1, y2, y3⟩ := hXs
            obtain ⟨r0, r1, r2⟩ := rhi k wk
            rw [if_neg w, if_pos (by omega), es, es, es, r0, r1, r2, y1]
            refine ⟨?_, y2, y3⟩
            rcases s1 with s1 | s1
            · rw [if_pos s1, if_pos rfl]
              exact s1
            · rw [if_neg (show ¬ sd = 115 by omega), if_neg (by omega)]
              exact s1
        · rw [r40 40 (by omega) (by omega), r40 41 (by omega) (by omega), r40 42 (by omega) (by omega), r40 43 (by omega) (by omega), f7]
          exact tf
        · rw [c57]
          refine ⟨by omega, fun k hk => ?_⟩
          by_cases w : (k : Int) < D 57 x.toNat
          · have y0 := rlo k 0 w (by omega)
            rw [Nat.add_zero] at y0
            rw [y0, rlo k 1 w (by omega), rlo k 2 w (by omega)]
            exact tg2 k w
          · obtain ⟨r0, r1, r2⟩ := rhi k (by omega)
            rw [r0, r1, r2]
            refine ⟨?_, s2, s3⟩
            split <;> omega
      · have hne : (X (lsE X 5 e) 3).toNat ≠ (X (lsE X 5 x.toNat) 3).toNat := fun w => by
          have q1 := (hG.2.2 e he).2.2.1.2.2
          rw [w, v3] at q1
          exact ge (hS.2.1 e _ he (by omega) (by omega))
        refine (hG.2.2 e he).mv sh hz.2.1 v2 ob hne ⟨⟨o9 _ _ (by omega) (by omega) (by omega) (by omega), o9 _ _ (by omega) (by omega) (by omega) (by omega), o9 _ _ (by omega) (by omega) (by omega) (by omega), o9 _ _ (by omega) (by omega) (by omega) (by omega), o57 _ ge⟩, fun k hk => o9 _ _ (by omega) (by omega) (by omega) (by omega)⟩ (Int.le_of_eq f7.symm) l4
    · rcases p.2.2.2.2.1 with L | ⟨L1, L2⟩
      · exact Or.inl (by rw [o9 3 6 (by omega) (by omega) (by omega) (by omega)]; exact L)
      · refine Or.inr ⟨by rw [o9 3 6 (by omega) (by omega) (by omega) (by omega)]; exact L1, ?_⟩
        have le : lEq D D9 := ⟨⟨f15, o9 32 16 (by omega) (by omega) (by omega) (by omega)⟩, fun e he => ⟨o9 _ _ (by omega) (by omega) (by omega) (by omega), o9 _ _ (by omega) (by omega) (by omega) (by omega), o9 _ _ (by omega) (by omega) (by omega) (by omega), o9 _ _ (by omega) (by omega) (by omega) (by omega)⟩, fun i hi => ⟨o9 _ _ (by omega) (by omega) (by omega) (by omega), o9 _ _ (by omega) (by omega) (by omega) (by omega), o9 _ _ (by omega) (by omega) (by omega) (by omega), o9 _ _ (by omega) (by omega) (by omega) (by omega), o9 _ _ (by omega) (by omega) (by omega) (by omega), o9 _ _ (by omega) (by omega) (by omega) (by omega)⟩, Or.inl f7⟩
        unfold laO
        rw [lyF_g le p.1.1.1 p.1.1.2.1 p.1.1.2.2.1, o9 6 3 (by omega) (by omega) (by omega) (by omega), f15]
        refine ⟨L2.1, tRp_c (fun k _ => ⟨o9 _ _ (by omega) (by omega) (by omega) (by omega), o9 _ _ (by omega) (by omega) (by omega) (by omega), o9 _ _ (by omega) (by omega) (by omega) (by omega)⟩) L2.2.1, fun n hn => ?_⟩
        obtain ⟨u1, u2, u3⟩ := L2.2.2 n hn
        rw [l52 n hn, hX n hn, hX n hn]
        exact ⟨evR_c u1 (hX n hn _) (hX n hn _) (hX n hn _) (fun _ => rfl), u2, u3⟩
  · have bt := qAt_v (D := D) (p := x) (sd := sd) (o := o) (l := l)
    exact Or.inr (q8_f p hr hs ho hl g0)

/-! an event inserted -/
theorem qIn_v {D : zD} {p c md st : Int} : 0 ≤ qIn D p c md st ∧ qIn D p c md st ≤ 4 := by
  unfold qIn
  split
  · split
    · omega
    · split
      · split <;> omega
      · omega
  · omega
set_option maxRecDepth 20000 in
theorem q4_f {x cl md st : Int} {c : Nat} {h : zH} {X D : zD} (p : Inv c h X D) (hr : iR x) (hcl : iR cl) (hm : 0 ≤ md ∧ md ≤ 65535) (hst : iR st) (g0 : qIn D x cl md st ≠ 0) :
    cE (zc 46 6 [.ref 3, .int (Int32.ofInt x), .int (Int32.ofInt cl), .int (Int32.ofInt md), .int (Int32.ofInt st)] (zV (zU h X) D)) (qIn D x cl md st) 1 2 h X D ∨ cE (zc 46 6 [.ref 3, .int (Int32.ofInt x), .int (Int32.ofInt cl), .int (Int32.ofInt md), .int (Int32.ofInt st)] (zV (zU h X) D)) (qIn D x cl md st) 2 3 h X D ∨ cE (zc 46 6 [.ref 3, .int (Int32.ofInt x), .int (Int32.ofInt cl), .int (Int32.ofInt md), .int (Int32.ofInt st)] (zV (zU h X) D)) (qIn D x cl md st) 3 0 h X D ∨ cE (zc 46 6 [.ref 3, .int (Int32.ofInt x), .int (Int32.ofInt cl), .int (Int32.ofInt md), .int (Int32.ofInt st)] (zV (zU h X) D)) (qIn D x cl md st) 4 1 h X D := by
  have h0 := p.2.1.2.1.1.1
  have h15 := p.1.1.2.1.1
  have e175 := c175 (h := h) (X := X) (D := D) (a := 5) (by omega) h0.1
  rw [h0.2.1] at e175
  have e86 := c86 p hcl
  unfold qIn at g0 ⊢
  unfold mPlT at e86
  clear p
  by_cases gx : 0 ≤ x ∧ x ≤ D 32 15
  · by_cases gc : 0 ≤ cl ∧ cl ≤ D 32 7 - 1
    · rw [if_pos gc] at e86
      rw [if_pos ⟨gc, gx⟩] at g0 ⊢
      by_cases g38 : D 38 cl.toNat = 1
      · rw [if_pos g38] at e86 ⊢
        have e86 : zc 86 3 [.ref 3, .int (Int32.ofInt cl)] (zV (zU h X) D) = some (.inr 3, zV (zU (zchg h 1 6) X) D) := by
          rcases e86 with ⟨q, -⟩ | ⟨q, -⟩ | ⟨-, q⟩
          · omega
          · omega
          · exact q
        refine Or.inr (Or.inl ⟨rfl, ?_⟩)
        rw [zc]
        simp (disch := first | omega | (simp (disch := omega) only [zwr_s, zwr_a, zwr_i, zn_put, zn_new, zn_fil, zn_chg, zV_n]; omega)) only [zentry, zs0, zs1, zs2, zs3, zg_lo, zg_st, zg_st2, zg_ald, zg_ast, zs_ia, zs_i0, zcs, zg_ii, zi_max, zi_min, zi_abi, zi_abf, zi_fb, zi_bf, lget, lst, lst2, lc2, Option.map_some, zso, if_true, if_false, zc1, and_true, true_and, and_self, List.length_nil, List.length_cons, Nat.zero_le, reduceIte, reduceCtorEq, false_and, and_false, Bool.false_eq_true, zca_some, zr0, zr100, Option.bind_some, zb_none, zb_some, zrc, or_true, true_or, eq_self, ne_eq, not_true_eq_false, not_false_eq_true, zrt_i, zrt_zb, zrt_b, zrt_c, zrt_l, zrt_f, zrt_r, zrt_n, zrt_v, zft_0, zft_1, zft_zb, zft_3, zft_4, zft_5, zft_7r, zft_7n, iI_t, zb_i, zb_0, zb_1, Nat.reduceAdd, Nat.reduceLeDiff, Nat.reduceEqDiff, Nat.reduceSub, Int.reduceNeg, iI_add, iI_sub, iI_mul, iI_neg, iI_n, zbz, zchar_id, zin, zwr_s, zwr_a, zwr_i, if_pos, if_neg, Int.toNat_natCast, Int.natCast_zero, Int.reduceToNat, z46, zc3, zuL (a := 5) (Or.inr (Or.inl rfl)) h0.1, e175, e86, zb_x, zt1, zt2]
      · rw [if_neg g38] at e86 g0 ⊢
        have e86 : zc 86 3 [.ref 3, .int (Int32.ofInt cl)] (zV (zU h X) D) = some (.inl (some (.ref (lsE X 4 cl.toNat))), zV (zU h X) D) := by
          rcases e86 with ⟨-, q⟩ | ⟨q, -⟩ | ⟨q, -⟩
          · exact q
          · omega
          · omega
        generalize lsE X 4 cl.toNat = cr at *
        by_cases gm : mdOk md st
        · rw [if_pos gm] at g0 ⊢
          by_cases g12 : D 32 15 = 12
          · rw [if_pos g12]
            refine Or.inr (Or.inr (Or.inr ⟨rfl, ?_⟩))
            have gm : md = 102 ∨ ((md = 99 ∨ md = 112 ∨ md = 106) ∧ (0 ≤ st ∧ st ≤ 3599)) := gm
            rw [zc]
            rcases gm with gm | ⟨gm | gm | gm, gs⟩
            · simp (disch := first | omega | (simp (disch := omega) only [zwr_s, zwr_a, zwr_i, zn_put, zn_new, zn_fil, zn_chg, zV_n]; omega)) only [zentry, zs0, zs1, zs2, zs3, zg_lo, zg_st, zg_st2, zg_ald, zg_ast, zs_ia, zs_i0, zcs, zg_ii, zi_max, zi_min, zi_abi, zi_abf, zi_fb, zi_bf, lget, lst, lst2, lc2, Option.map_some, zso, if_true, if_false, zc1, and_true, true_and, and_self, List.length_nil, List.length_cons, Nat.zero_le, reduceIte, reduceCtorEq, false_and, and_false, Bool.false_eq_true, zca_some, zr0, zr100, Option.bind_some, zb_none, zb_some, zrc, or_true, true_or, eq_self, ne_eq, not_true_eq_false, not_false_eq_true, zrt_i, zrt_zb, zrt_b, zrt_c, zrt_l, zrt_f, zrt_r, zrt_n, zrt_v, zft_0, zft_1, zft_zb, zft_3, zft_4, zft_5, zft_7r, zft_7n, iI_t, zb_i, zb_0, zb_1, Nat.reduceAdd, Nat.reduceLeDiff, Nat.reduceEqDiff, Nat.reduceSub, Int.reduceNeg, iI_add, iI_sub, iI_mul, iI_neg, iI_n, zbz, zchar_id, zin, zwr_s, zwr_a, zwr_i, if_pos, if_neg, Int.toNat_natCast, Int.natCast_zero, Int.reduceToNat, z46, zc3, zuL (a := 5) (Or.inr (Or.inl rfl)) h0.1, e175, e86, gm, zt1, zt2, zgX]
            · simp (disch := first | omega | (simp (disch := omega) only [zwr_s, zwr_a, zwr_i, zn_put, zn_new, zn_fil, zn_chg, zV_n]; omega)) only [zentry, zs0, zs1, zs2, zs3, zg_lo, zg_st, zg_st2, zg_ald, zg_ast, zs_ia, zs_i0, zcs, zg_ii, zi_max, zi_min, zi_abi, zi_abf, zi_fb, zi_bf, lget, lst, lst2, lc2, Option.map_some, zso, if_true, if_false, zc1, and_true, true_and, and_self, List.length_nil, List.length_cons, Nat.zero_le, reduceIte, reduceCtorEq, false_and, and_false, Bool.false_eq_true, zca_some, zr0, zr100, Option.bind_some, zb_none, zb_some, zrc, or_true, true_or, eq_self, ne_eq, not_true_eq_false, not_false_eq_true, zrt_i, zrt_zb, zrt_b, zrt_c, zrt_l, zrt_f, zrt_r, zrt_n, zrt_v, zft_0, zft_1, zft_zb, zft_3, zft_4, zft_5, zft_7r, zft_7n, iI_t, zb_i, zb_0, zb_1, Nat.reduceAdd, Nat.reduceLeDiff, Nat.reduceEqDiff, Nat.reduceSub, Int.reduceNeg, iI_add, iI_sub, iI_mul, iI_neg, iI_n, zbz, zchar_id, zin, zwr_s, zwr_a, zwr_i, if_pos, if_neg, Int.toNat_natCast, Int.natCast_zero, Int.reduceToNat, z46, zc3, zuL (a := 5) (Or.inr (Or.inl rfl)) h0.1, e175, e86, gm, zt1, zt2, zgX]
            · simp (disch := first | omega | (simp (disch := omega) only [zwr_s, zwr_a, zwr_i, zn_put, zn_new, zn_fil, zn_chg, zV_n]; omega)) only [zentry, zs0, zs1, zs2, zs3, zg_lo, zg_st, zg_st2, zg_ald, zg_ast, zs_ia, zs_i0, zcs, zg_ii, zi_max, zi_min, zi_abi, zi_abf, zi_fb, zi_bf, lget, lst, lst2, lc2, Option.map_some, zso, if_true, if_false, zc1, and_true, true_and, and_self, List.length_nil, List.length_cons, Nat.zero_le, reduceIte, reduceCtorEq, false_and, and_false, Bool.false_eq_true, zca_some, zr0, zr100, Option.bind_some, zb_none, zb_some, zrc, or_true, true_or, eq_self, ne_eq, not_true_eq_false, not_false_eq_true, zrt_i, zrt_zb, zrt_b, zrt_c, zrt_l, zrt_f, zrt_r, zrt_n, zrt_v, zft_0, zft_1, zft_zb, zft_3, zft_4, zft_5, zft_7r, zft_7n, iI_t, zb_i, zb_0, zb_1, Nat.reduceAdd, Nat.reduceLeDiff, Nat.reduceEqDiff, Nat.reduceSub, Int.reduceNeg, iI_add, iI_sub, iI_mul, iI_neg, iI_n, zbz, zchar_id, zin, zwr_s, zwr_a, zwr_i, if_pos, if_neg, Int.toNat_natCast, Int.natCast_zero, Int.reduceToNat, z46, zc3, zuL (a := 5) (Or.inr (Or.inl rfl)) h0.1, e175, e86, gm, zt1, zt2, zgX]
            · simp (disch := first | omega | (simp (disch := omega) only [zwr_s, zwr_a, zwr_i, zn_put, zn_new, zn_fil, zn_chg, zV_n]; omega)) only [zentry, zs0, zs1, zs2, zs3, zg_lo, zg_st, zg_st2, zg_ald, zg_ast, zs_ia, zs_i0, zcs, zg_ii, zi_max, zi_min, zi_abi, zi_abf, zi_fb, zi_bf, lget, lst, lst2, lc2, Option.map_some, zso, if_true, if_false, zc1, and_true, true_and, and_self, List.length_nil, List.length_cons, Nat.zero_le, reduceIte, reduceCtorEq, false_and, and_false, Bool.false_eq_true, zca_some, zr0, zr100, Option.bind_some, zb_none, zb_some, zrc, or_true, true_or, eq_self, ne_eq, not_true_eq_false, not_false_eq_true, zrt_i, zrt_zb, zrt_b, zrt_c, zrt_l, zrt_f, zrt_r, zrt_n, zrt_v, zft_0, zft_1, zft_zb, zft_3, zft_4, zft_5, zft_7r, zft_7n, iI_t, zb_i, zb_0, zb_1, Nat.reduceAdd, Nat.reduceLeDiff, Nat.reduceEqDiff, Nat.reduceSub, Int.reduceNeg, iI_add, iI_sub, iI_mul, iI_neg, iI_n, zbz, zchar_id, zin, zwr_s, zwr_a, zwr_i, if_pos, if_neg, Int.toNat_natCast, Int.natCast_zero, Int.reduceToNat, z46, zc3, zuL (a := 5) (Or.inr (Or.inl rfl)) h0.1, e175, e86, gm, zt1, zt2, zgX]
          · rw [if_neg g12] at g0
            omega
        · rw [if_neg gm]
          refine Or.inr (Or.inr (Or.inl ⟨rfl, ?_⟩))
          have gm : ¬ (md = 102 ∨ ((md = 99 ∨ md = 112 ∨ md = 106) ∧ (0 ≤ st ∧ st ≤ 3599))) := gm
          rw [zc]
          by_cases gk : md = 99 ∨ md = 112 ∨ md = 106
          · have gs : ¬ (0 ≤ st ∧ st ≤ 3599) := fun q => gm (Or.inr ⟨gk, q⟩)
            by_cases gs2 : st < 0
            · rcases gk with gk | gk | gk
              · simp (disch := first | omega | (simp (disch := omega) only [zwr_s, zwr_a, zwr_i, zn_put, zn_new, zn_fil, zn_chg, zV_n]; omega)) only [zentry, zs0, zs1, zs2, zs3, zg_lo, zg_st, zg_st2, zg_ald, zg_ast, zs_ia, zs_i0, zcs, zg_ii, zi_max, zi_min, zi_abi, zi_abf, zi_fb, zi_bf, lget, lst, lst2, lc2, Option.map_some, zso, if_true, if_false, zc1, and_true, true_and, and_self, List.length_nil, List.length_cons, Nat.zero_le, reduceIte, reduceCtorEq, false_and, and_false, Bool.false_eq_true, zca_some, zr0, zr100, Option.bind_some, zb_none, zb_some, zrc, or_true, true_or, eq_self, ne_eq, not_true_eq_false, not_false_eq_true, zrt_i, zrt_zb, zrt_b, zrt_c, zrt_l, zrt_f, zrt_r, zrt_n, zrt_v, zft_0, zft_1, zft_zb, zft_3, zft_4, zft_5, zft_7r, zft_7n, iI_t, zb_i, zb_0, zb_1, Nat.reduceAdd, Nat.reduceLeDiff, Nat.reduceEqDiff, Nat.reduceSub, Int.reduceNeg, iI_add, iI_sub, iI_mul, iI_neg, iI_n, zbz, zchar_id, zin, zwr_s, zwr_a, zwr_i, if_pos, if_neg, Int.toNat_natCast, Int.natCast_zero, Int.reduceToNat, z46, zc3, zuL (a := 5) (Or.inr (Or.inl rfl)) h0.1, e175, e86, gk, zt1, zt2, zgX]
              · simp (disch := first | omega | (simp (disch := omega) only [zwr_s, zwr_a, zwr_i, zn_put, zn_new, zn_fil, zn_chg, zV_n]; omega)) only [zentry, zs0, zs1, zs2, zs3, zg_lo, zg_st, zg_st2, zg_ald, zg_ast, zs_ia, zs_i0, zcs, zg_ii, zi_max, zi_min, zi_abi, zi_abf, zi_fb, zi_bf, lget, lst, lst2, lc2, Option.map_some, zso, if_true, if_false, zc1, and_true, true_and, and_self, List.length_nil, List.length_cons, Nat.zero_le, reduceIte, reduceCtorEq, false_and, and_false, Bool.false_eq_true, zca_some, zr0, zr100, Option.bind_some, zb_none, zb_some, zrc, or_true, true_or, eq_self, ne_eq, not_true_eq_false, not_false_eq_true, zrt_i, zrt_zb, zrt_b, zrt_c, zrt_l, zrt_f, zrt_r, zrt_n, zrt_v, zft_0, zft_1, zft_zb, zft_3, zft_4, zft_5, zft_7r, zft_7n, iI_t, zb_i, zb_0, zb_1, Nat.reduceAdd, Nat.reduceLeDiff, Nat.reduceEqDiff, Nat.reduceSub, Int.reduceNeg, iI_add, iI_sub, iI_mul, iI_neg, iI_n, zbz, zchar_id, zin, zwr_s, zwr_a, zwr_i, if_pos, if_neg, Int.toNat_natCast, Int.natCast_zero, Int.reduceToNat, z46, zc3, zuL (a := 5) (Or.inr (Or.inl rfl)) h0.1, e175, e86, gk, zt1, zt2, zgX]
              · simp (disch := first | omega | (simp (disch := omega) only [zwr_s, zwr_a, zwr_i, zn_put, zn_new, zn_fil, zn_chg, zV_n]; omega)) only [zentry, zs0, zs1, zs2, zs3, zg_lo, zg_st, zg_st2, zg_ald, zg_ast, zs_ia, zs_i0, zcs, zg_ii, zi_max, zi_min, zi_abi, zi_abf, zi_fb, zi_bf, lget, lst, lst2, lc2, Option.map_some, zso, if_true, if_false, zc1, and_true, true_and, and_self, List.length_nil, List.length_cons, Nat.zero_le, reduceIte, reduceCtorEq, false_and, and_false, Bool.false_eq_true, zca_some, zr0, zr100, Option.bind_some, zb_none, zb_some, zrc, or_true, true_or, eq_self, ne_eq, not_true_eq_false, not_false_eq_true, zrt_i, zrt_zb, zrt_b, zrt_c, zrt_l, zrt_f, zrt_r, zrt_n, zrt_v, zft_0, zft_1, zft_zb, zft_3, zft_4, zft_5, zft_7r, zft_7n, iI_t, zb_i, zb_0, zb_1, Nat.reduceAdd, Nat.reduceLeDiff, Nat.reduceEqDiff, Nat.reduceSub, Int.reduceNeg, iI_add, iI_sub, iI_mul, iI_neg, iI_n, zbz, zchar_id, zin, zwr_s, zwr_a, zwr_i, if_pos, if_neg, Int.toNat_natCast, Int.natCast_zero, Int.reduceToNat, z46, zc3, zuL (a := 5) (Or.inr (Or.inl rfl)) h0.1, e175, e86, gk, zt1, zt2, zgX]
            · rcases gk with gk | gk | gk
              · simp (disch := first | omega | (simp (disch := omega) only [zwr_s, zwr_a, zwr_i, zn_put, zn_new, zn_fil, zn_chg, zV_n]; omega)) only [zentry, zs0, zs1, zs2, zs3, zg_lo, zg_st, zg_st2, zg_ald, zg_ast, zs_ia, zs_i0, zcs, zg_ii, zi_max, zi_min, zi_abi, zi_abf, zi_fb, zi_bf, lget, lst, lst2, lc2, Option.map_some, zso, if_true, if_false, zc1, and_true, true_and, and_self, List.length_nil, List.length_cons, Nat.zero_le, reduceIte, reduceCtorEq, false_and, and_false, Bool.false_eq_true, zca_some, zr0, zr100, Option.bind_some, zb_none, zb_some, zrc, or_true, true_or, eq_self, ne_eq, not_true_eq_false, not_false_eq_true, zrt_i, zrt_zb, zrt_b, zrt_c, zrt_l, zrt_f, zrt_r, zrt_n, zrt_v, zft_0, zft_1, zft_zb, zft_3, zft_4, zft_5, zft_7r, zft_7n, iI_t, zb_i, zb_0, zb_1, Nat.reduceAdd, Nat.reduceLeDiff, Nat.reduceEqDiff, Nat.reduceSub, Int.reduceNeg, iI_add, iI_sub, iI_mul, iI_neg, iI_n, zbz, zchar_id, zin, zwr_s, zwr_a, zwr_i, if_pos, if_neg, Int.toNat_natCast, Int.natCast_zero, Int.reduceToNat, z46, zc3, zuL (a := 5) (Or.inr (Or.inl rfl)) h0.1, e175, e86, gk, zt1, zt2, zgX]
              · simp (disch := first | omega | (simp (disch := omega) only [zwr_s, zwr_a, zwr_i, zn_put, zn_new, zn_fil, zn_chg, zV_n]; omega)) only [zentry, zs0, zs1, zs2, zs3, zg_lo, zg_st, zg_st2, zg_ald, zg_ast, zs_ia, zs_i0, zcs, zg_ii, zi_max, zi_min, zi_abi, zi_abf, zi_fb, zi_bf, lget, lst, lst2, lc2, Option.map_some, zso, if_true, if_false, zc1, and_true, true_and, and_self, List.length_nil, List.length_cons, Nat.zero_le, reduceIte, reduceCtorEq, false_and, and_false, Bool.false_eq_true, zca_some, zr0, zr100, Option.bind_some, zb_none, zb_some, zrc, or_true, true_or, eq_self, ne_eq, not_true_eq_false, not_false_eq_true, zrt_i, zrt_zb, zrt_b, zrt_c, zrt_l, zrt_f, zrt_r, zrt_n, zrt_v, zft_0, zft_1, zft_zb, zft_3, zft_4, zft_5, zft_7r, zft_7n, iI_t, zb_i, zb_0, zb_1, Nat.reduceAdd, Nat.reduceLeDiff, Nat.reduceEqDiff, Nat.reduceSub, Int.reduceNeg, iI_add, iI_sub, iI_mul, iI_neg, iI_n, zbz, zchar_id, zin, zwr_s, zwr_a, zwr_i, if_pos, if_neg, Int.toNat_natCast, Int.natCast_zero, Int.reduceToNat, z46, zc3, zuL (a := 5) (Or.inr (Or.inl rfl)) h0.1, e175, e86, gk, zt1, zt2, zgX]
              · simp (disch := first | omega | (simp (disch := omega) only [zwr_s, zwr_a, zwr_i, zn_put, zn_new, zn_fil, zn_chg, zV_n]; omega)) only [zentry, zs0, zs1, zs2, zs3, zg_lo, zg_st, zg_st2, zg_ald, zg_ast, zs_ia, zs_i0, zcs, zg_ii, zi_max, zi_min, zi_abi, zi_abf, zi_fb, zi_bf, lget, lst, lst2, lc2, Option.map_some, zso, if_true, if_false, zc1, and_true, true_and, and_self, List.length_nil, List.length_cons, Nat.zero_le, reduceIte, reduceCtorEq, false_and, and_false, Bool.false_eq_true, zca_some, zr0, zr100, Option.bind_some, zb_none, zb_some, zrc, or_true, true_or, eq_self, ne_eq, not_true_eq_false, not_false_eq_true, zrt_i, zrt_zb, zrt_b, zrt_c, zrt_l, zrt_f, zrt_r, zrt_n, zrt_v, zft_0, zft_1, zft_zb, zft_3, zft_4, zft_5, zft_7r, zft_7n, iI_t, zb_i, zb_0, zb_1, Nat.reduceAdd, Nat.reduceLeDiff, Nat.reduceEqDiff, Nat.reduceSub, Int.reduceNeg, iI_add, iI_sub, iI_mul, iI_neg, iI_n, zbz, zchar_id, zin, zwr_s, zwr_a, zwr_i, if_pos, if_neg, Int.toNat_natCast, Int.natCast_zero, Int.reduceToNat, z46, zc3, zuL (a := 5) (Or.inr (Or.inl rfl)) h0.1, e175, e86, gk, zt1, zt2, zgX]
          · have g102 : ¬ md = 102 := fun q => gm (Or.inl q)
            clear gm
            simp (disch := first | omega | (simp (disch := omega) only [zwr_s, zwr_a, zwr_i, zn_put, zn_new, zn_fil, zn_chg, zV_n]; omega)) only [zentry, zs0, zs1, zs2, zs3, zg_lo, zg_st, zg_st2, zg_ald, zg_ast, zs_ia, zs_i0, zcs, zg_ii, zi_max, zi_min, zi_abi, zi_abf, zi_fb, zi_bf, lget, lst, lst2, lc2, Option.map_some, zso, if_true, if_false, zc1, and_true, true_and, and_self, List.length_nil, List.length_cons, Nat.zero_le, reduceIte, reduceCtorEq, false_and, and_false, Bool.false_eq_true, zca_some, zr0, zr100, Option.bind_some, zb_none, zb_some, zrc, or_true, true_or, eq_self, ne_eq, not_true_eq_false, not_false_eq_true, zrt_i, zrt_zb, zrt_b, zrt_c, zrt_l, zrt_f, zrt_r, zrt_n, zrt_v, zft_0, zft_1, zft_zb, zft_3, zft_4, zft_5, zft_7r, zft_7n, iI_t, zb_i, zb_0, zb_1, Nat.reduceAdd, Nat.reduceLeDiff, Nat.reduceEqDiff, Nat.reduceSub, Int.reduceNeg, iI_add, iI_sub, iI_mul, iI_neg, iI_n, zbz, zchar_id, zin, zwr_s, zwr_a, zwr_i, if_pos, if_neg, Int.toNat_natCast, Int.natCast_zero, Int.reduceToNat, z46, zc3, zuL (a := 5) (Or.inr (Or.inl rfl)) h0.1, e175, e86, zt1, zt2, zgX]
    · rw [if_neg gc] at e86
      rw [if_neg (fun q => gc q.1)]
      have e86 : zc 86 3 [.ref 3, .int (Int32.ofInt cl)] (zV (zU h X) D) = some (.inr 2, zV (zU (zchg h 1 6) X) D) := by
        rcases e86 with ⟨q, -⟩ | ⟨-, q⟩ | ⟨q, -⟩
        · omega
        · exact q
        · omega
      refine Or.inl ⟨rfl, ?_⟩
      rw [zc]
      simp (disch := first | omega | (simp (disch := omega) only [zwr_s, zwr_a, zwr_i, zn_put, zn_new, zn_fil, zn_chg, zV_n]; omega)) only [zentry, zs0, zs1, zs2, zs3, zg_lo, zg_st, zg_st2, zg_ald, zg_ast, zs_ia, zs_i0, zcs, zg_ii, zi_max, zi_min, zi_abi, zi_abf, zi_fb, zi_bf, lget, lst, lst2, lc2, Option.map_some, zso, if_true, if_false, zc1, and_true, true_and, and_self, List.length_nil, List.length_cons, Nat.zero_le, reduceIte, reduceCtorEq, false_and, and_false, Bool.false_eq_true, zca_some, zr0, zr100, Option.bind_some, zb_none, zb_some, zrc, or_true, true_or, eq_self, ne_eq, not_true_eq_false, not_false_eq_true, zrt_i, zrt_zb, zrt_b, zrt_c, zrt_l, zrt_f, zrt_r, zrt_n, zrt_v, zft_0, zft_1, zft_zb, zft_3, zft_4, zft_5, zft_7r, zft_7n, iI_t, zb_i, zb_0, zb_1, Nat.reduceAdd, Nat.reduceLeDiff, Nat.reduceEqDiff, Nat.reduceSub, Int.reduceNeg, iI_add, iI_sub, iI_mul, iI_neg, iI_n, zbz, zchar_id, zin, zwr_s, zwr_a, zwr_i, if_pos, if_neg, Int.toNat_natCast, Int.natCast_zero, Int.reduceToNat, z46, zc3, zuL (a := 5) (Or.inr (Or.inl rfl)) h0.1, e175, e86, zb_x, zt1, zt2]
  · rw [if_neg (fun q => gx q.2)]
    refine Or.inl ⟨rfl, ?_⟩
    rw [zc]
    by_cases g : x < 0
    · simp (disch := first | omega | (simp (disch := omega) only [zwr_s, zwr_a, zwr_i, zn_put, zn_new, zn_fil, zn_chg, zV_n]; omega)) only [zentry, zs0, zs1, zs2, zs3, zg_lo, zg_st, zg_st2, zg_ald, zg_ast, zs_ia, zs_i0, zcs, zg_ii, zi_max, zi_min, zi_abi, zi_abf, zi_fb, zi_bf, lget, lst, lst2, lc2, Option.map_some, zso, if_true, if_false, zc1, and_true, true_and, and_self, List.length_nil, List.length_cons, Nat.zero_le, reduceIte, reduceCtorEq, false_and, and_false, Bool.false_eq_true, zca_some, zr0, zr100, Option.bind_some, zb_none, zb_some, zrc, or_true, true_or, eq_self, ne_eq, not_true_eq_false, not_false_eq_true, zrt_i, zrt_zb, zrt_b, zrt_c, zrt_l, zrt_f, zrt_r, zrt_n, zrt_v, zft_0, zft_1, zft_zb, zft_3, zft_4, zft_5, zft_7r, zft_7n, iI_t, zb_i, zb_0, zb_1, Nat.reduceAdd, Nat.reduceLeDiff, Nat.reduceEqDiff, Nat.reduceSub, Int.reduceNeg, iI_add, iI_sub, iI_mul, iI_neg, iI_n, zbz, zchar_id, zin, zwr_s, zwr_a, zwr_i, if_pos, if_neg, Int.toNat_natCast, Int.natCast_zero, Int.reduceToNat, z46, zc3, zuL (a := 5) (Or.inr (Or.inl rfl)) h0.1, e175, zt1, zgX]
    · simp (disch := first | omega | (simp (disch := omega) only [zwr_s, zwr_a, zwr_i, zn_put, zn_new, zn_fil, zn_chg, zV_n]; omega)) only [zentry, zs0, zs1, zs2, zs3, zg_lo, zg_st, zg_st2, zg_ald, zg_ast, zs_ia, zs_i0, zcs, zg_ii, zi_max, zi_min, zi_abi, zi_abf, zi_fb, zi_bf, lget, lst, lst2, lc2, Option.map_some, zso, if_true, if_false, zc1, and_true, true_and, and_self, List.length_nil, List.length_cons, Nat.zero_le, reduceIte, reduceCtorEq, false_and, and_false, Bool.false_eq_true, zca_some, zr0, zr100, Option.bind_some, zb_none, zb_some, zrc, or_true, true_or, eq_self, ne_eq, not_true_eq_false, not_false_eq_true, zrt_i, zrt_zb, zrt_b, zrt_c, zrt_l, zrt_f, zrt_r, zrt_n, zrt_v, zft_0, zft_1, zft_zb, zft_3, zft_4, zft_5, zft_7r, zft_7n, iI_t, zb_i, zb_0, zb_1, Nat.reduceAdd, Nat.reduceLeDiff, Nat.reduceEqDiff, Nat.reduceSub, Int.reduceNeg, iI_add, iI_sub, iI_mul, iI_neg, iI_n, zbz, zchar_id, zin, zwr_s, zwr_a, zwr_i, if_pos, if_neg, Int.toNat_natCast, Int.natCast_zero, Int.reduceToNat, z46, zc3, zuL (a := 5) (Or.inr (Or.inl rfl)) h0.1, e175, zt1, zgX]
/-- lists stay where only new addresses differ -/
theorem lsO_n {h h' : zH} {X X' : zD} {a K c s : Nat} {n : Int} (sh : shX h h' c s) (hn : 2 ≤ zn h) (q : ∀ b k, b < zn h → X' b k = X b k) (han : a < zn h) (hl : lsO h X a n K) : lsO h' X' a n K ∧ ∀ i, lsE X' a i = lsE X a i := by
  obtain ⟨⟨w1, w2, w3⟩, w4, w5⟩ := lsO_sh sh han hl
  have hd : (X a 1).toNat < zn h := by
    rcases hl.2.1 with ⟨-, q⟩ | ⟨q, -⟩ <;> omega
  have q1 : ∀ k, X' a k = X a k := fun k => q a k han
  have q2 : ∀ k, X' (X a 1).toNat k = X (X a 1).toNat k := fun k => q _ k hd
  refine ⟨?_, fun i => ?_⟩
  · unfold lsO
    rw [q1, q1, q2]
    refine ⟨⟨w1, w2, w3⟩, w4, fun i hi => ?_⟩
    rw [q2]
    exact w5 i hi
  · unfold lsE
    rw [q1, q2]
theorem evI_v {X : zD} {a l cl : Nat} {md st : Int} (hal : a ≠ l) : (evI X a l cl md st a 0 = cl ∧ evI X a l cl md st a 1 = md ∧ evI X a l cl md st a 2 = st ∧ evI X a l cl md st a 3 = l ∧ evI X a l cl md st a 4 = 0) ∧ (evI X a l cl md st l 1 = 1 ∧ evI X a l cl md st l 2 = 0) ∧ ∀ b k, b ≠ a → b ≠ l → evI X a l cl md st b k = X b k := by
  have hla : l ≠ a := fun q => hal q.symm
  have z2 : dz 7 2 = 0 := rfl
  unfold evI zwr zrw
  refine ⟨?_, ?_, fun b k h1 h2 => ?_⟩
  · simp [hal, hla]
  · simp [hal, hla, z2]
  · simp [h1, h2]
set_option maxRecDepth 20000 in
theorem s46 {x cl md st : Int} {c : Nat} {h : zH} {X D : zD} (p : Inv c h X D) (hc : c < 600) (hr : iR x) (hcl : iR cl) (hm : 0 ≤ md ∧ md ≤ 65535) (hst : iR st) : (qIn D x cl md st = 0 ∧ ∃ (v : Int) (h1 : zH) (X1 D1 D9 : zD), (zc 46 6 [.ref 3, .int (Int32.ofInt x), .int (Int32.ofInt cl), .int (Int32.ofInt md), .int (Int32.ofInt st)] (zV (zU h X) D)) = some (.inl (some (.int (Int32.ofInt v))), zV (zU h1 X1) D1) ∧ (-(12 * (c : Int)) ≤ v ∧ v ≤ 100000) ∧ (∀ a i, a < 32 → D9 a i = D1 a i) ∧ Inv (c + 1) h1 X1 D9 ∧ ∀ i, D9 39 i = D 39 i) ∨ cE (zc 46 6 [.ref 3, .int (Int32.ofInt x), .int (Int32.ofInt cl), .int (Int32.ofInt md), .int (Int32.ofInt st)] (zV (zU h X) D)) (qIn D x cl md st) 1 2 h X D ∨ cE (zc 46 6 [.ref 3, .int (Int32.ofInt x), .int (Int32.ofInt cl), .int (Int32.ofInt md), .int (Int32.ofInt st)] (zV (zU h X) D)) (qIn D x cl md st) 2 3 h X D ∨ cE (zc 46 6 [.ref 3, .int (Int32.ofInt x), .int (Int32.ofInt cl), .int (Int32.ofInt md), .int (Int32.ofInt st)] (zV (zU h X) D)) (qIn D x cl md st) 3 0 h X D ∨ cE (zc 46 6 [.ref 3, .int (Int32.ofInt x), .int (Int32.ofInt cl), .int (Int32.ofInt md), .int (Int32.ofInt st)] (zV (zU h X) D)) (qIn D x cl md st) 4 1 h X D := by
  have h15 := p.1.1.2.1.1
  have h7 := p.1.1.1.1
  by_cases g0 : qIn D x cl md st = 0
  · have hx : (0 ≤ cl ∧ cl ≤ D 32 7 - 1) ∧ (0 ≤ x ∧ x ≤ D 32 15) ∧ D 38 cl.toNat ≠ 1 ∧ mdOk md st ∧ D 32 15 ≠ 12 := by
      unfold qIn at g0
      by_cases g : (0 ≤ cl ∧ cl ≤ D 32 7 - 1) ∧ (0 ≤ x ∧ x ≤ D 32 15)
      · rw [if_pos g] at g0
        by_cases g1 : D 38 cl.toNat = 1
        · rw [if_pos g1] at g0
          omega
        · rw [if_neg g1] at g0
          by_cases g2 : mdOk md st
          · rw [if_pos g2] at g0
            by_cases g3 : D 32 15 = 12
            · rw [if_pos g3] at g0
              omega
            · exact ⟨g.1, g.2, g1, g2, g3⟩
          · rw [if_neg g2] at g0
            omega
      · rw [if_neg g] at g0
        omega
    obtain ⟨gc, gx, g38, gm, g12⟩ := hx
    have e86 : zc 86 3 [.ref 3, .int (Int32.ofInt cl)] (zV (zU h X) D) = some (.inl (some (.ref (lsE X 4 cl.toNat))), zV (zU h X) D) := by
      rcases c86 p hcl with ⟨-, e⟩ | ⟨e, -⟩ | ⟨e, -⟩
      · exact e
      · unfold mPlT at e
        rw [if_pos gc, if_neg g38] at e
        omega
      · unfold mPlT at e
        rw [if_pos gc, if_neg g38] at e
        omega
    have hS := p.2.1.2.1
    have hG := p.ev
    have hz := p.2.2.2.2.2.1
    have h0 := hS.1.1
    have e175 := c175 (h := h) (X := X) (D := D) (a := 5) (by omega) h0.1
    rw [h0.2.1] at e175
    -- the new objects
    have nw := zW_new (h := h) (X := X) (D := D) (k := 1) (n := 10) (by omega) hz.1
    have sh1 : shX h (znew h 1 10 (fun i => zdef (zty 1 i))) 1 10 := shX.new
    have kv : zk (znew h 1 10 (fun i => zdef (zty 1 i))) (zn h) = 1 := by rw [zk_new, if_pos rfl]
    have n1 : zn (znew h 1 10 (fun i => zdef (zty 1 i))) = zn h + 1 := zn_new
    generalize hh1 : znew h 1 10 (fun i => zdef (zty 1 i)) = h1 at *
    have e2 := c2 (X := zrw X (zn h) (dz 1)) (D := D) (cl := lsE X 4 cl.toNat) (st := st) hz.1 (by omega) kv hm
    rw [n1] at e2
    have sh2 : shX h1 (znew h1 7 3 (fun i => zdef (zty 7 i))) 1 3 := shX.new
    have kl : zk (znew h1 7 3 (fun i => zdef (zty 7 i))) (zn h + 1) = 7 := by rw [zk_new, if_pos n1.symm]
    have n2 : zn (znew h1 7 3 (fun i => zdef (zty 7 i))) = zn h + 2 := by rw [zn_new, n1]
    generalize hh2 : znew h1 7 3 (fun i => zdef (zty 7 i)) = h2 at *
    obtain ⟨⟨i0, i1, i2, i3, i4⟩, ⟨j1, j2⟩, io⟩ := evI_v (X := zrw X (zn h) (dz 1)) (a := zn h) (l := zn h + 1) (cl := lsE X 4 cl.toNat) (md := md) (st := st) (by omega)
    rw [← zU_g (h := h2) (a := zn h + 1) (i := 100) (x := (zn h : Int)) (by omega)] at e2
    have Y0 : ∀ b k, b ≠ zn h → b ≠ zn h + 1 → zwr (evI (zrw X (zn h) (dz 1)) (zn h) (zn h + 1) (lsE X 4 cl.toNat) md st) (zn h + 1) 100 (zn h : Int) b k = X b k := fun b k q1 q2 => by rw [zwr_a q2, io b k q1 q2, zrw_a q1]
    have Yv : ∀ k, zwr (evI (zrw X (zn h) (dz 1)) (zn h) (zn h + 1) (lsE X 4 cl.toNat) md st) (zn h + 1) 100 (zn h : Int) (zn h) k = evI (zrw X (zn h) (dz 1)) (zn h) (zn h + 1) (lsE X 4 cl.toNat) md st (zn h) k := fun k => zwr_a (by omega)
    have Yl : ∀ k, k ≠ 100 → zwr (evI (zrw X (zn h) (dz 1)) (zn h) (zn h + 1) (lsE X 4 cl.toNat) md st) (zn h + 1) 100 (zn h : Int) (zn h + 1) k = evI (zrw X (zn h) (dz 1)) (zn h) (zn h + 1) (lsE X 4 cl.toNat) md st (zn h + 1) k := fun k q => zwr_i q
    have Yg : zwr (evI (zrw X (zn h) (dz 1)) (zn h) (zn h + 1) (lsE X 4 cl.toNat) md st) (zn h + 1) 100 (zn h : Int) (zn h + 1) 100 = zn h := zwr_s
    generalize zwr (evI (zrw X (zn h) (dz 1)) (zn h) (zn h + 1) (lsE X 4 cl.toNat) md st) (zn h + 1) 100 (zn h : Int) = Y at *
    rw [← Yv] at i0 i1 i2 i3 i4
    rw [← Yl 1 (by omega)] at j1
    rw [← Yl 2 (by omega)] at j2
    have sh12 := sh1.tr sh2
    have kk1 := sh12.2.2.2 1 (by omega)
    obtain ⟨lY, lYe⟩ := lsO_n sh12 (by omega) (fun b k q => Y0 b k (by omega) (by omega)) (by omega) hS.1
    have kv2 : zk h2 (zn h) = 1 := by rw [(sh2.2.2.2 _ (by omega)).1]; exact kv
    obtain ⟨h3, X3, e167, A1, A2, A3, A4, A5, A6⟩ := c167 (D := D) (i := x) (v := zn h) (Or.inr (Or.inl rfl)) (by omega) (by omega) lY (by omega) (by omega) (by rw [kk1.1]; exact hz.2.1) (by rw [kk1.2.1]; exact hz.2.2) (by omega) ⟨hz.1, by omega, kv2⟩
    have k5 : zk h2 5 = 7 := lY.1.1
    have e175b := c175 (h := h3) (X := X3) (D := zwr D 3 6 0) (a := 5) (by omega) A2.1.1
    rw [A2.1.2.1] at e175b
    have e46 : cV (zc 46 6 [.ref 3, .int (Int32.ofInt x), .int (Int32.ofInt cl), .int (Int32.ofInt md), .int (Int32.ofInt st)] (zV (zU h X) D)) 0 (D 32 15 + 1) h3 X3 (zwr D 3 6 0) := by
      refine ⟨rfl, ?_⟩
      rw [zc]
      have gm : md = 102 ∨ ((md = 99 ∨ md = 112 ∨ md = 106) ∧ (0 ≤ st ∧ st ≤ 3599)) := gm
      have k53 := A2.1.1
      clear hG hS p A1 A2 A3 A4 A5 A6 sh1 sh2 sh12 io Y0 Yv Yl Yg i0 i1 i2 i3 i4 j1 j2 lY lYe kk1
      generalize lsE X 4 cl.toNat = cr at *
      rcases gm with gm | ⟨gm | gm | gm, gs⟩
      · subst gm
        simp (disch := first | omega | (simp (disch := omega) only [zwr_s, zwr_a, zwr_i, zn_put, zn_new, zn_fil, zn_chg, zV_n]; omega)) only [zentry, zs0, zs1, zs2, zs3, zg_lo, zg_st, zg_st2, zg_ald, zg_ast, zs_ia, zs_i0, zcs, zg_ii, zi_max, zi_min, zi_abi, zi_abf, zi_fb, zi_bf, lget, lst, lst2, lc2, Option.map_some, zso, if_true, if_false, zc1, and_true, true_and, and_self, List.length_nil, List.length_cons, Nat.zero_le, reduceIte, reduceCtorEq, false_and, and_false, Bool.false_eq_true, zca_some, zr0, zr100, Option.bind_some, zb_none, zb_some, zrc, or_true, true_or, eq_self, ne_eq, not_true_eq_false, not_false_eq_true, zrt_i, zrt_zb, zrt_b, zrt_c, zrt_l, zrt_f, zrt_r, zrt_n, zrt_v, zft_0, zft_1, zft_zb, zft_3, zft_4, zft_5, zft_7r, zft_7n, iI_t, zb_i, zb_0, zb_1, Nat.reduceAdd, Nat.reduceLeDiff, Nat.reduceEqDiff, Nat.reduceSub, Int.reduceNeg, iI_add, iI_sub, iI_mul, iI_neg, iI_n, zbz, zchar_id, zin, zwr_s, zwr_a, zwr_i, if_pos, if_neg, Int.toNat_natCast, Int.natCast_zero, Int.reduceToNat, z46, zc3, zuL (a := 5) (Or.inr (Or.inl rfl)) h0.1, e175, e175b, e86, nw, zW_n, hh1, hh2, e2, e167, k5, k53, zt1, zt2, zt3, zt4, zW_k]
      · subst gm
        simp (disch := first | omega | (simp (disch := omega) only [zwr_s, zwr_a, zwr_i, zn_put, zn_new, zn_fil, zn_chg, zV_n]; omega)) only [zentry, zs0, zs1, zs2, zs3, zg_lo, zg_st, zg_st2, zg_ald, zg_ast, zs_ia, zs_i0, zcs, zg_ii, zi_max, zi_min, zi_abi, zi_abf, zi_fb, zi_bf, lget, lst, lst2, lc2, Option.map_some, zso, if_true, if_false, zc1, and_true, true_and, and_self, List.length_nil, List.length_cons, Nat.zero_le, reduceIte, reduceCtorEq, false_and, and_false, Bool.false_eq_true, zca_some, zr0, zr100, Option.bind_some, zb_none, zb_some, zrc, or_true, true_or, eq_self, ne_eq, not_true_eq_false, not_false_eq_true, zrt_i, zrt_zb, zrt_b, zrt_c, zrt_l, zrt_f, zrt_r, zrt_n, zrt_v, zft_0, zft_1, zft_zb, zft_3, zft_4, zft_5, zft_7r, zft_7n, iI_t, zb_i, zb_0, zb_1, Nat.reduceAdd, Nat.reduceLeDiff, Nat.reduceEqDiff, Nat.reduceSub, Int.reduceNeg, iI_add, iI_sub, iI_mul, iI_neg, iI_n, zbz, zchar_id, zin, zwr_s, zwr_a, zwr_i, if_pos, if_neg, Int.toNat_natCast, Int.natCast_zero, Int.reduceToNat, z46, zc3, zuL (a := 5) (Or.inr (Or.inl rfl)) h0.1, e175, e175b, e86, nw, zW_n, hh1, hh2, e2, e167, k5, k53, zt1, zt2, zt3, zt4, zW_k]
      · subst gm
        simp (disch := first | omega | (simp (disch := omega) only [zwr_s, zwr_a, zwr_i, zn_put, zn_new, zn_fil, zn_chg, zV_n]; omega)) only [zentry, zs0, zs1, zs2, zs3, zg_lo, zg_st, zg_st2, zg_ald, zg_ast, zs_ia, zs_i0, zcs, zg_ii, zi_max, zi_min, zi_abi, zi_abf, zi_fb, zi_bf, lget, lst, lst2, lc2, Option.map_some, zso, if_true, if_false, zc1, and_true, true_and, and_self, List.length_nil, List.length_cons, Nat.zero_le, reduceIte, reduceCtorEq, false_and, and_false, Bool.false_eq_true, zca_some, zr0, zr100, Option.bind_some, zb_none, zb_some, zrc, or_true, true_or, eq_self, ne_eq, not_true_eq_false, not_false_eq_true, zrt_i, zrt_zb, zrt_b, zrt_c, zrt_l, zrt_f, zrt_r, zrt_n, zrt_v, zft_0, zft_1, zft_zb, zft_3, zft_4, zft_5, zft_7r, zft_7n, iI_t, zb_i, zb_0, zb_1, Nat.reduceAdd, Nat.reduceLeDiff, Nat.reduceEqDiff, Nat.reduceSub, Int.reduceNeg, iI_add, iI_sub, iI_mul, iI_neg, iI_n, zbz, zchar_id, zin, zwr_s, zwr_a, zwr_i, if_pos, if_neg, Int.toNat_natCast, Int.natCast_zero, Int.reduceToNat, z46, zc3, zuL (a := 5) (Or.inr (Or.inl rfl)) h0.1, e175, e175b, e86, nw, zW_n, hh1, hh2, e2, e167, k5, k53, zt1, zt2, zt3, zt4, zW_k]
      · subst gm
        simp (disch := first | omega | (simp (disch := omega) only [zwr_s, zwr_a, zwr_i, zn_put, zn_new, zn_fil, zn_chg, zV_n]; omega)) only [zentry, zs0, zs1, zs2, zs3, zg_lo, zg_st, zg_st2, zg_ald, zg_ast, zs_ia, zs_i0, zcs, zg_ii, zi_max, zi_min, zi_abi, zi_abf, zi_fb, zi_bf, lget, lst, lst2, lc2, Option.map_some, zso, if_true, if_false, zc1, and_true, true_and, and_self, List.length_nil, List.length_cons, Nat.zero_le, reduceIte, reduceCtorEq, false_and, and_false, Bool.false_eq_true, zca_some, zr0, zr100, Option.bind_some, zb_none, zb_some, zrc, or_true, true_or, eq_self, ne_eq, not_true_eq_false, not_false_eq_true, zrt_i, zrt_zb, zrt_b, zrt_c, zrt_l, zrt_f, zrt_r, zrt_n, zrt_v, zft_0, zft_1, zft_zb, zft_3, zft_4, zft_5, zft_7r, zft_7n, iI_t, zb_i, zb_0, zb_1, Nat.reduceAdd, Nat.reduceLeDiff, Nat.reduceEqDiff, Nat.reduceSub, Int.reduceNeg, iI_add, iI_sub, iI_mul, iI_neg, iI_n, zbz, zchar_id, zin, zwr_s, zwr_a, zwr_i, if_pos, if_neg, Int.toNat_natCast, Int.natCast_zero, Int.reduceToNat, z46, zc3, zuL (a := 5) (Or.inr (Or.inl rfl)) h0.1, e175, e175b, e86, nw, zW_n, hh1, hh2, e2, e167, k5, k53, zt1, zt2, zt3, zt4, zW_k]
    have d : ∀ a i, a ≠ 3 → a ≠ 68 → zwr (zwr D 3 6 0) 68 0 (D 32 15 + 1) a i = D a i := fun a i q1 q2 => by rw [zwr_a q2, zwr_a q1]
    have em := m115 (p := x) (c := cl) (md := md) (st := st) (h := zU h3 X3) (D := zwr (zwr D 3 6 0) 68 0 (D 32 15 + 1)) hr hcl hm hst (by rw [d 32 7 (by omega) (by omega)]; exact h7) (by rw [d 32 15 (by omega) (by omega)]; exact h15) (fun i => by rw [d 38 i (by omega) (by omega)]; exact (p.1.2.2.2.2 i).2) (fun i => by rw [d 43 i (by omega) (by omega)]; exact p.1.2.2.1 i)
    have g1 : qIn (zwr (zwr D 3 6 0) 68 0 (D 32 15 + 1)) x cl md st = 0 := by
      unfold qIn
      rw [d 32 15 (by omega) (by omega), d 32 7 (by omega) (by omega), d 38 _ (by omega) (by omega)]
      exact g0
    rw [if_pos g1, if_pos g1, d 32 15 (by omega) (by omega)] at em
    have eD : ∀ a i, mInD (zwr (zwr D 3 6 0) 68 0 (D 32 15 + 1)) x cl md st a i = if a = 32 ∧ i = 15 then D 32 15 + 1 else if a = 57 ∧ i = x.toNat then 0 else if a = 43 ∧ i = x.toNat then md else if a = 42 ∧ i = x.toNat then 0 else if a = 41 ∧ i = x.toNat then st else if a = 40 ∧ i = x.toNat then cl else if a = 32 ∧ i = 32 then 0 else mSU (zwr (zwr D 3 6 0) 68 0 (D 32 15 + 1)) x.toNat (D 32 15).toNat a i := fun a i => by
      unfold mInD
      rw [d 32 15 (by omega) (by omega), zwr_e, zwr_e, zwr_e, zwr_e, zwr_e, zwr_e, zwr_e]
    generalize mInD (zwr (zwr D 3 6 0) 68 0 (D 32 15 + 1)) x cl md st = D9 at *
    have f15 : D9 32 15 = D 32 15 + 1 := by rw [eD, if_pos ⟨rfl, rfl⟩]
    have o : ∀ a i, ¬ (a = 32 ∧ (i = 15 ∨ i = 32)) → ¬ (40 ≤ a ∧ a ≤ 43) → ¬ (45 ≤ a ∧ a ≤ 57) → D9 a i = zwr (zwr D 3 6 0) 68 0 (D 32 15 + 1) a i := fun a i q1 q2 q3 => by
      rw [eD, if_neg (by omega), if_neg (by omega), if_neg (by omega), if_neg (by omega), if_neg (by omega), if_neg (by omega), if_neg (by omega)]
      unfold mSU
      rw [if_neg (by omega), if_neg (by omega)]
    have f7 : D9 32 7 = D 32 7 := by rw [o 32 7 (by omega) (by omega) (by omega), d 32 7 (by omega) (by omega)]
    have eM : ∀ a i, ¬ (a = 32) → i ≠ x.toNat → D9 a i = mSU (zwr (zwr D 3 6 0) 68 0 (D 32 15 + 1)) x.toNat (D 32 15).toNat a i := fun a i q1 q2 => by
      rw [eD, if_neg (by omega), if_neg (by omega), if_neg (by omega), if_neg (by omega), if_neg (by omega), if_neg (by omega), if_neg (by omega)]
    have eR : ∀ j k, j < 12 → D9 (45 + j) k = mSU (zwr (zwr D 3 6 0) 68 0 (D 32 15 + 1)) x.toNat (D 32 15).toNat (45 + j) k := fun j k q1 => by
      rw [eD, if_neg (by omega), if_neg (by omega), if_neg (by omega), if_neg (by omega), if_neg (by omega), if_neg (by omega), if_neg (by omega)]
    have rcd : ∀ j : Nat, (j : Int) ≤ D 32 15 → (j : Int) ≠ x → rcE D D9 (if (j : Int) < x then j else j - 1) j := fun j hj hjx => by
      have v : ∀ a, (a = 40 ∨ a = 41 ∨ a = 42 ∨ a = 43 ∨ a = 57) → D9 a j = D a (if (j : Int) < x then j else j - 1) := fun a ha => by
        rw [eM a j (by omega) (by omega)]
        unfold mSU
        by_cases w : (j : Int) < x
        · rw [if_neg (by omega), if_neg (by omega), if_pos w, d a j (by omega) (by omega)]
        · rw [if_pos (by omega), if_neg w, d a _ (by omega) (by omega)]
      refine ⟨⟨v 40 (by omega), v 41 (by omega), v 42 (by omega), v 43 (by omega), v 57 (by omega)⟩, fun k hk => ?_⟩
      rw [eR j k (by omega)]
      unfold mSU
      by_cases w : (j : Int) < x
      · rw [if_neg (by omega), if_neg (by omega), if_pos w, d _ k (by omega) (by omega)]
      · rw [if_neg (by omega), if_pos (by omega), if_neg w, show 45 + j - 1 = 45 + (j - 1) by omega, d _ k (by omega) (by omega)]
    have sh := sh12.tr A1
    have dY : (Y 5 1).toNat = (X 5 1).toNat := by rw [Y0 5 1 (by omega) (by omega)]
    have hd5 : (X 5 1).toNat < zn h := by
      rcases hS.1.2.1 with ⟨-, q⟩ | ⟨q, -⟩ <;> omega
    have ob : obD h X X3 5 := fun b k q0 q1 q2 => by
      rw [A4 b k (by omega) q1 (by rw [dY]; exact q2)]
      exact Y0 b k (by omega) (by omega)
    have vN : ∀ k, X3 (zn h) k = Y (zn h) k := fun k => A4 _ k (by omega) (by omega) (by omega)
    have lN : ∀ k, X3 (zn h + 1) k = Y (zn h + 1) k := fun k => A4 _ k (by omega) (by omega) (by omega)
    have el : ∀ j : Nat, (j : Int) ≤ D 32 15 → lsE X3 5 j = if (j : Int) = x then zn h else lsE X 5 (if (j : Int) < x then j else j - 1) := fun j hj => by
      rw [A3 j (by omega)]
      by_cases w : (j : Int) < x
      · rw [if_pos w, if_neg (by omega), if_pos w, lYe]
      · rw [if_neg w]
        by_cases w2 : (j : Int) = x
        · rw [if_pos w2, if_pos w2]
        · rw [if_neg w2, if_neg w2, if_neg w, lYe]
    obtain ⟨hC9, l4⟩ := p.2.1.1.mv (D' := D9) sh hz.1 hz.2.1 hS.1 ob (by omega) (fun a i q => by rw [o a i (by omega) (by omega) (by omega), d a i (by omega) (by omega)])
    have hne : ∀ e : Nat, (e : Int) < D 32 15 → (X (lsE X 5 e) 3).toNat ≠ 5 := fun e he => by
      have := (hG.2.2 e he).2.2.1.1
      omega
    have hnew : ∀ e : Nat, (e : Int) < D 32 15 → lsE X 5 e ≠ zn h := fun e he => by
      have := (hS.K he).2.1
      omega
    have z1 := sh.1
    have z2 := sh.2.1
    have z3 := sh.2.2.1
    have kz := sh.2.2.2 1 (by omega)
    have zA := A1.1
    refine Or.inl ⟨g0, D 32 15 + 1, h3, _, _, D9, e46.2, ⟨by omega, by omega⟩, fun a i w => by rw [o a i (by omega) (by omega) (by omega), zwr_a (by omega)], ?_, fun i => by rw [o 39 i (by omega) (by omega) (by omega), d 39 i (by omega) (by omega)]⟩
    refine p.me hc (fun a i q1 q2 => ?_) (fun a i q => ?_) (by omega) (fun i => ?_) hC9 ⟨by rw [f15]; exact A2, fun i j hi hj => ?_, fun e he => ?_⟩ (Or.inl ?_) ⟨⟨by omega, kz.1.trans hz.2.1, kz.2.1.trans hz.2.2⟩, by omega, by omega⟩
    · rw [o a i (by omega) (by omega) (by omega), zwr_a (by omega), zwr_e, if_neg q2]
    · rw [o a i (by omega) (by omega) (by omega), d a i (by omega) (by omega)]
    · have m0 : m43 (zwr (zwr D 3 6 0) 68 0 (D 32 15 + 1)) := fun i => by rw [d 43 i (by omega) (by omega)]; exact p.1.2.2.1 i
      by_cases gi : i = x.toNat
      · rw [eD, if_neg (by omega), if_neg (by omega), if_pos ⟨rfl, gi⟩]
        exact hm
      · rw [eM 43 i (by omega) gi]
        exact m0.su _ _ i
    · rw [f15] at hi hj
      rw [el i (by omega), el j (by omega)]
      intro w
      by_cases w1 : (i : Int) = x
      · by_cases w2 : (j : Int) = x
        · omega
        · rw [if_pos w1, if_neg w2] at w
          exact absurd w.symm (hnew _ (by split <;> omega))
      · by_cases w2 : (j : Int) = x
        · rw [if_neg w1, if_pos w2] at w
          exact absurd w (hnew _ (by split <;> omega))
        · rw [if_neg w1, if_neg w2] at w
          have := hS.2.1 _ _ (by split <;> omega) (by split <;> omega) w
          split at this <;> split at this <;> omega
    · rw [f15] at he
      rw [el e (by omega)]
      by_cases w : (e : Int) = x
      · have we : e = x.toNat := by omega
        subst we
        rw [if_pos w]
        have c40 : D9 40 x.toNat = cl := by rw [eD, if_neg (by omega), if_neg (by omega), if_neg (by omega), if_neg (by omega), if_neg (by omega), if_pos ⟨rfl, rfl⟩]
        have c41 : D9 41 x.toNat = st := by rw [eD, if_neg (by omega), if_neg (by omega), if_neg (by omega), if_neg (by omega), if_pos ⟨rfl, rfl⟩]
        have c42 : D9 42 x.toNat = 0 := by rw [eD, if_neg (by omega), if_neg (by omega), if_neg (by omega), if_pos ⟨rfl, rfl⟩]
        have c43 : D9 43 x.toNat = md := by rw [eD, if_neg (by omega), if_neg (by omega), if_pos ⟨rfl, rfl⟩]
        have c57 : D9 57 x.toNat = 0 := by rw [eD, if_neg (by omega), if_pos ⟨rfl, rfl⟩]
        have kv3 : zk h3 (zn h) = 1 := by rw [(A1.2.2.2 _ (by omega)).1]; exact kv2
        have kl3 : zk h3 (zn h + 1) = 7 := by rw [(A1.2.2.2 _ (by omega)).1]; exact kl
        have x3 : X3 (zn h) 3 = ((zn h + 1 : Nat) : Int) := by rw [vN]; exact i3
        refine ⟨⟨hz.1, by omega, kv3⟩, ?_, ?_, fun k hk => ?_, ?_, ?_⟩
        · rw [vN, vN, vN, vN, c40, c41, c42, c43, i0, i1, i2, i4, l4 _ (by omega)]
          exact ⟨rfl, rfl, rfl, rfl⟩
        · rw [x3, Int.toNat_natCast, c57]
          refine ⟨by omega, ⟨⟨kl3, by rw [lN]; exact j2, by omega⟩, Or.inl ⟨rfl, by rw [lN]; exact j1⟩, fun i hi => by omega⟩, by rw [lN]; exact Yg⟩
        · rw [c57] at hk
          omega
        · rw [c40, c41, c42, c43, f7]
          have gm : md = 102 ∨ ((md = 99 ∨ md = 112 ∨ md = 106) ∧ (0 ≤ st ∧ st ≤ 3599)) := gm
          exact ⟨by omega, by omega, by omega, fun q => by omega⟩
        · rw [c57]
          exact ⟨by omega, fun k hk => by omega⟩
      · rw [if_neg w]
        have r := rcd e (by omega) w
        have hb : ((if (e : Int) < x then e else e - 1 : Nat) : Int) < D 32 15 := by split <;> omega
        exact (hG.2.2 _ hb).mv sh hz.2.1 hS.1 ob (hne _ hb) r (Int.le_of_eq f7.symm) l4
    · rw [o 3 6 (by omega) (by omega) (by omega), zwr_a (by omega), zwr_s]
  · have bt := qIn_v (D := D) (p := x) (c := cl) (md := md) (st := st)
    exact Or.inr (q4_f p hr hcl hm hst g0)

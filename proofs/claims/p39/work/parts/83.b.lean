/-! the constructors, step by step (a program has written them) -/
set_option maxRecDepth 20000 in
theorem k186_4 {L : Nat} {xs : Nat → Int32} : zc 186 1 [.ref 4] (zP L xs 5 0) = some (.inl none, zP L xs 5 1) := by
  have f0 : zput (zP L xs 5 0) 4 0 (.int (Int32.ofInt 0)) = zP L xs 5 1 := zP_put (by decide) (by decide) (by decide +kernel) (by decide +kernel)
  rw [zc]
  simp (disch := first | omega | (simp (disch := omega) only [zwr_s, zwr_a, zwr_i, zn_put, zn_new, zn_fil, zn_chg, zV_n]; omega)) only [zentry, zs0, zs1, zs2, zs3, zg_lo, zg_st, zg_st2, zg_ald, zg_ast, zs_ia, zs_i0, zg_ii, zi_max, zi_min, zi_abi, zi_abf, zi_fb, zi_bf, lget, lst, lst2, lc2, Option.map_some, zso, if_true, if_false, zc1, and_true, true_and, and_self, List.length_nil, List.length_cons, Nat.zero_le, reduceIte, reduceCtorEq, false_and, and_false, Bool.false_eq_true, zca_some, zr0, zr100, Option.bind_some, zb_none, zb_some, zrc, or_true, true_or, eq_self, ne_eq, not_true_eq_false, not_false_eq_true, zrt_i, zrt_zb, zrt_b, zrt_c, zrt_l, zrt_f, zrt_r, zrt_n, zrt_v, zft_0, zft_1, zft_zb, zft_3, zft_4, zft_5, zft_7r, zft_7n, iI_t, zb_i, zb_0, zb_1, Nat.reduceAdd, Nat.reduceLeDiff, Nat.reduceEqDiff, Nat.reduceSub, Int.reduceNeg, iI_add, iI_sub, iI_mul, iI_neg, zbz, zchar_id, zin, zwr_s, zwr_a, zwr_i, if_pos, if_neg, Int.toNat_natCast, Int.natCast_zero, Int.reduceToNat, z186, f0, c187, zP_n, zP_k4, zP_k5, zP_k3, zP_k6, zP_k10, zP_k14, zP_k32, zg_mn, zt1]
set_option maxRecDepth 20000 in
theorem k164_4 {L : Nat} {xs : Nat → Int32} : zc 164 1 [.ref 4] (zP L xs 5 0) = some (.inl none, zP L xs 5 2) := by
  have f1 : zput (zP L xs 5 1) 4 1 (.ref 1) = zP L xs 5 2 := zP_put (by decide) (by decide) (by decide +kernel) (by decide +kernel)
  rw [zc]
  simp (disch := first | omega | (simp (disch := omega) only [zwr_s, zwr_a, zwr_i, zn_put, zn_new, zn_fil, zn_chg, zV_n]; omega)) only [zentry, zs0, zs1, zs2, zs3, zg_lo, zg_st, zg_st2, zg_ald, zg_ast, zs_ia, zs_i0, zg_ii, zi_max, zi_min, zi_abi, zi_abf, zi_fb, zi_bf, lget, lst, lst2, lc2, Option.map_some, zso, if_true, if_false, zc1, and_true, true_and, and_self, List.length_nil, List.length_cons, Nat.zero_le, reduceIte, reduceCtorEq, false_and, and_false, Bool.false_eq_true, zca_some, zr0, zr100, Option.bind_some, zb_none, zb_some, zrc, or_true, true_or, eq_self, ne_eq, not_true_eq_false, not_false_eq_true, zrt_i, zrt_zb, zrt_b, zrt_c, zrt_l, zrt_f, zrt_r, zrt_n, zrt_v, zft_0, zft_1, zft_zb, zft_3, zft_4, zft_5, zft_7r, zft_7n, iI_t, zb_i, zb_0, zb_1, Nat.reduceAdd, Nat.reduceLeDiff, Nat.reduceEqDiff, Nat.reduceSub, Int.reduceNeg, iI_add, iI_sub, iI_mul, iI_neg, zbz, zchar_id, zin, zwr_s, zwr_a, zwr_i, if_pos, if_neg, Int.toNat_natCast, Int.natCast_zero, Int.reduceToNat, z164, k186_4 (L := L) (xs := xs), f1, zP_n, zP_k4, zP_k5, zP_k3, zP_k6, zP_k10, zP_k14, zP_k32, zg_mn, zt1]
set_option maxRecDepth 20000 in
theorem k186_5 {L : Nat} {xs : Nat → Int32} : zc 186 1 [.ref 5] (zP L xs 6 3) = some (.inl none, zP L xs 6 4) := by
  have f0 : zput (zP L xs 6 3) 5 0 (.int (Int32.ofInt 0)) = zP L xs 6 4 := zP_put (by decide) (by decide) (by decide +kernel) (by decide +kernel)
  rw [zc]
  simp (disch := first | omega | (simp (disch := omega) only [zwr_s, zwr_a, zwr_i, zn_put, zn_new, zn_fil, zn_chg, zV_n]; omega)) only [zentry, zs0, zs1, zs2, zs3, zg_lo, zg_st, zg_st2, zg_ald, zg_ast, zs_ia, zs_i0, zg_ii, zi_max, zi_min, zi_abi, zi_abf, zi_fb, zi_bf, lget, lst, lst2, lc2, Option.map_some, zso, if_true, if_false, zc1, and_true, true_and, and_self, List.length_nil, List.length_cons, Nat.zero_le, reduceIte, reduceCtorEq, false_and, and_false, Bool.false_eq_true, zca_some, zr0, zr100, Option.bind_some, zb_none, zb_some, zrc, or_true, true_or, eq_self, ne_eq, not_true_eq_false, not_false_eq_true, zrt_i, zrt_zb, zrt_b, zrt_c, zrt_l, zrt_f, zrt_r, zrt_n, zrt_v, zft_0, zft_1, zft_zb, zft_3, zft_4, zft_5, zft_7r, zft_7n, iI_t, zb_i, zb_0, zb_1, Nat.reduceAdd, Nat.reduceLeDiff, Nat.reduceEqDiff, Nat.reduceSub, Int.reduceNeg, iI_add, iI_sub, iI_mul, iI_neg, zbz, zchar_id, zin, zwr_s, zwr_a, zwr_i, if_pos, if_neg, Int.toNat_natCast, Int.natCast_zero, Int.reduceToNat, z186, f0, c187, zP_n, zP_k4, zP_k5, zP_k3, zP_k6, zP_k10, zP_k14, zP_k32, zg_mn, zt1]
set_option maxRecDepth 20000 in
theorem k164_5 {L : Nat} {xs : Nat → Int32} : zc 164 1 [.ref 5] (zP L xs 6 3) = some (.inl none, zP L xs 6 5) := by
  have f1 : zput (zP L xs 6 4) 5 1 (.ref 1) = zP L xs 6 5 := zP_put (by decide) (by decide) (by decide +kernel) (by decide +kernel)
  rw [zc]
  simp (disch := first | omega | (simp (disch := omega) only [zwr_s, zwr_a, zwr_i, zn_put, zn_new, zn_fil, zn_chg, zV_n]; omega)) only [zentry, zs0, zs1, zs2, zs3, zg_lo, zg_st, zg_st2, zg_ald, zg_ast, zs_ia, zs_i0, zg_ii, zi_max, zi_min, zi_abi, zi_abf, zi_fb, zi_bf, lget, lst, lst2, lc2, Option.map_some, zso, if_true, if_false, zc1, and_true, true_and, and_self, List.length_nil, List.length_cons, Nat.zero_le, reduceIte, reduceCtorEq, false_and, and_false, Bool.false_eq_true, zca_some, zr0, zr100, Option.bind_some, zb_none, zb_some, zrc, or_true, true_or, eq_self, ne_eq, not_true_eq_false, not_false_eq_true, zrt_i, zrt_zb, zrt_b, zrt_c, zrt_l, zrt_f, zrt_r, zrt_n, zrt_v, zft_0, zft_1, zft_zb, zft_3, zft_4, zft_5, zft_7r, zft_7n, iI_t, zb_i, zb_0, zb_1, Nat.reduceAdd, Nat.reduceLeDiff, Nat.reduceEqDiff, Nat.reduceSub, Int.reduceNeg, iI_add, iI_sub, iI_mul, iI_neg, zbz, zchar_id, zin, zwr_s, zwr_a, zwr_i, if_pos, if_neg, Int.toNat_natCast, Int.natCast_zero, Int.reduceToNat, z164, k186_5 (L := L) (xs := xs), f1, zP_n, zP_k4, zP_k5, zP_k3, zP_k6, zP_k10, zP_k14, zP_k32, zg_mn, zt1]
set_option maxRecDepth 20000 in
theorem k28_6 {L : Nat} {xs : Nat → Int32} : zc 28 1 [.ref 6] (zP L xs 7 6) = some (.inl none, zP L xs 10 10) := by
  have f0 : znew (zP L xs 7 6) 20 116 (fun _ => .int 0) = zP L xs 8 6 := zP_new (by decide) (by decide +kernel) (by decide +kernel) (fun i => rfl) trivial (by decide +kernel)
  have f1 : zput (zP L xs 8 6) 6 0 (.ref 7) = zP L xs 8 7 := zP_put (by decide) (by decide) (by decide +kernel) (by decide +kernel)
  have f2 : znew (zP L xs 8 7) 20 116 (fun _ => .int 0) = zP L xs 9 7 := zP_new (by decide) (by decide +kernel) (by decide +kernel) (fun i => rfl) trivial (by decide +kernel)
  have f3 : zput (zP L xs 9 7) 6 1 (.ref 8) = zP L xs 9 8 := zP_put (by decide) (by decide) (by decide +kernel) (by decide +kernel)
  have f4 : znew (zP L xs 9 8) 20 116 (fun _ => .int 0) = zP L xs 10 8 := zP_new (by decide) (by decide +kernel) (by decide +kernel) (fun i => rfl) trivial (by decide +kernel)
  have f5 : zput (zP L xs 10 8) 6 2 (.ref 9) = zP L xs 10 9 := zP_put (by decide) (by decide) (by decide +kernel) (by decide +kernel)
  have f6 : zput (zP L xs 10 9) 6 3 (.int (Int32.ofInt 0)) = zP L xs 10 10 := zP_put (by decide) (by decide) (by decide +kernel) (by decide +kernel)
  rw [zc]
  simp (disch := first | omega | (simp (disch := omega) only [zwr_s, zwr_a, zwr_i, zn_put, zn_new, zn_fil, zn_chg, zV_n]; omega)) only [zentry, zs0, zs1, zs2, zs3, zg_lo, zg_st, zg_st2, zg_ald, zg_ast, zs_ia, zs_i0, zg_ii, zi_max, zi_min, zi_abi, zi_abf, zi_fb, zi_bf, lget, lst, lst2, lc2, Option.map_some, zso, if_true, if_false, zc1, and_true, true_and, and_self, List.length_nil, List.length_cons, Nat.zero_le, reduceIte, reduceCtorEq, false_and, and_false, Bool.false_eq_true, zca_some, zr0, zr100, Option.bind_some, zb_none, zb_some, zrc, or_true, true_or, eq_self, ne_eq, not_true_eq_false, not_false_eq_true, zrt_i, zrt_zb, zrt_b, zrt_c, zrt_l, zrt_f, zrt_r, zrt_n, zrt_v, zft_0, zft_1, zft_zb, zft_3, zft_4, zft_5, zft_7r, zft_7n, iI_t, zb_i, zb_0, zb_1, Nat.reduceAdd, Nat.reduceLeDiff, Nat.reduceEqDiff, Nat.reduceSub, Int.reduceNeg, iI_add, iI_sub, iI_mul, iI_neg, zbz, zchar_id, zin, zwr_s, zwr_a, zwr_i, if_pos, if_neg, Int.toNat_natCast, Int.natCast_zero, Int.reduceToNat, z28, f0, f1, f2, f3, f4, f5, f6, zP_n, zP_k4, zP_k5, zP_k3, zP_k6, zP_k10, zP_k14, zP_k32, zg_mn, zt1]
set_option maxRecDepth 20000 in
theorem k28_10 {L : Nat} {xs : Nat → Int32} : zc 28 1 [.ref 10] (zP L xs 11 11) = some (.inl none, zP L xs 14 15) := by
  have f0 : znew (zP L xs 11 11) 20 116 (fun _ => .int 0) = zP L xs 12 11 := zP_new (by decide) (by decide +kernel) (by decide +kernel) (fun i => rfl) trivial (by decide +kernel)
  have f1 : zput (zP L xs 12 11) 10 0 (.ref 11) = zP L xs 12 12 := zP_put (by decide) (by decide) (by decide +kernel) (by decide +kernel)
  have f2 : znew (zP L xs 12 12) 20 116 (fun _ => .int 0) = zP L xs 13 12 := zP_new (by decide) (by decide +kernel) (by decide +kernel) (fun i => rfl) trivial (by decide +kernel)
  have f3 : zput (zP L xs 13 12) 10 1 (.ref 12) = zP L xs 13 13 := zP_put (by decide) (by decide) (by decide +kernel) (by decide +kernel)
  have f4 : znew (zP L xs 13 13) 20 116 (fun _ => .int 0) = zP L xs 14 13 := zP_new (by decide) (by decide +kernel) (by decide +kernel) (fun i => rfl) trivial (by decide +kernel)
  have f5 : zput (zP L xs 14 13) 10 2 (.ref 13) = zP L xs 14 14 := zP_put (by decide) (by decide) (by decide +kernel) (by decide +kernel)
  have f6 : zput (zP L xs 14 14) 10 3 (.int (Int32.ofInt 0)) = zP L xs 14 15 := zP_put (by decide) (by decide) (by decide +kernel) (by decide +kernel)
  rw [zc]
  simp (disch := first | omega | (simp (disch := omega) only [zwr_s, zwr_a, zwr_i, zn_put, zn_new, zn_fil, zn_chg, zV_n]; omega)) only [zentry, zs0, zs1, zs2, zs3, zg_lo, zg_st, zg_st2, zg_ald, zg_ast, zs_ia, zs_i0, zg_ii, zi_max, zi_min, zi_abi, zi_abf, zi_fb, zi_bf, lget, lst, lst2, lc2, Option.map_some, zso, if_true, if_false, zc1, and_true, true_and, and_self, List.length_nil, List.length_cons, Nat.zero_le, reduceIte, reduceCtorEq, false_and, and_false, Bool.false_eq_true, zca_some, zr0, zr100, Option.bind_some, zb_none, zb_some, zrc, or_true, true_or, eq_self, ne_eq, not_true_eq_false, not_false_eq_true, zrt_i, zrt_zb, zrt_b, zrt_c, zrt_l, zrt_f, zrt_r, zrt_n, zrt_v, zft_0, zft_1, zft_zb, zft_3, zft_4, zft_5, zft_7r, zft_7n, iI_t, zb_i, zb_0, zb_1, Nat.reduceAdd, Nat.reduceLeDiff, Nat.reduceEqDiff, Nat.reduceSub, Int.reduceNeg, iI_add, iI_sub, iI_mul, iI_neg, zbz, zchar_id, zin, zwr_s, zwr_a, zwr_i, if_pos, if_neg, Int.toNat_natCast, Int.natCast_zero, Int.reduceToNat, z28, f0, f1, f2, f3, f4, f5, f6, zP_n, zP_k4, zP_k5, zP_k3, zP_k6, zP_k10, zP_k14, zP_k32, zg_mn, zt1]
set_option maxRecDepth 4000 in
theorem y8_0 :
  (∀ (ls : zL) (st : zS) (h : zH), zx 8 0 ls st h = zgo 8 (zpure (.aload_n 0) 1 0 [] ls st h)) ∧
  (∀ (ls : zL) (st : zS) (h : zH), zx 8 1 ls st h = zgo 8 (zpure (.invokespecial 3) 4 0 [] ls st h)) ∧
  (∀ (ls : zL) (st : zS) (h : zH), zx 8 4 ls st h = zgo 8 (zpure (.aload_n 0) 5 0 [] ls st h)) ∧
  (∀ (ls : zL) (st : zS) (h : zH), zx 8 5 ls st h = zgo 8 (zpure (.bipush 8) 7 0 [] ls st h)) ∧
  (∀ (ls : zL) (st : zS) (h : zH), zx 8 7 ls st h = zgo 8 (zpure (.newarray .int) 9 0 [] ls st h)) ∧
  (∀ (ls : zL) (st : zS) (h : zH), zx 8 9 ls st h = zgo 8 (zpure (.putfield 9) 12 0 [2, 0, 7] ls st h)) :=
  ⟨zx_0 rfl, zx_0 rfl, zx_0 rfl, zx_0 rfl, zx_0 rfl, zx_0 rfl⟩
set_option maxRecDepth 20000 in
theorem s8_0 {L : Nat} {xs : Nat → Int32} : zx 8 0 [some (.ref 14)] [] (zP L xs 15 16) = zx 8 12 [some (.ref 14)] [] (zP L xs 16 17) := by
  have f0 : znew (zP L xs 15 16) 20 8 (fun _ => .int 0) = zP L xs 16 16 := zP_new (by decide) (by decide +kernel) (by decide +kernel) (fun i => rfl) trivial (by decide +kernel)
  have f1 : zput (zP L xs 16 16) 14 0 (.ref 15) = zP L xs 16 17 := zP_put (by decide) (by decide) (by decide +kernel) (by decide +kernel)
  simp (disch := omega) only [zentry, zs0, zs1, zs2, zs3, zg_lo, zg_st, zg_st2, zg_ald, zg_ast, zs_ia, zs_i0, zg_ii, zi_max, zi_min, zi_abi, zi_abf, zi_fb, zi_bf, lget, lst, lst2, lc2, Option.map_some, zso, if_true, if_false, zc1, and_true, true_and, and_self, List.length_nil, List.length_cons, Nat.zero_le, reduceIte, reduceCtorEq, false_and, and_false, Bool.false_eq_true, zca_some, zr0, zr100, Option.bind_some, zb_none, zb_some, zrc, or_true, true_or, eq_self, ne_eq, not_true_eq_false, not_false_eq_true, zrt_i, zrt_zb, zrt_b, zrt_c, zrt_l, zrt_f, zrt_r, zrt_n, zrt_v, zft_0, zft_1, zft_zb, zft_3, zft_4, zft_5, zft_7r, zft_7n, iI_t, zb_i, zb_0, zb_1, Nat.reduceAdd, Nat.reduceLeDiff, Nat.reduceEqDiff, Nat.reduceSub, Int.reduceNeg, iI_add, iI_sub, iI_mul, iI_neg, zbz, zchar_id, zin, if_pos, if_neg, Int.toNat_natCast, Int.natCast_zero, Int.reduceToNat, y8_0, f0, f1, zP_n, zP_k4, zP_k5, zP_k3, zP_k6, zP_k10, zP_k14, zP_k32, zg_mn, zt1]
set_option maxRecDepth 4000 in
theorem y8_1 :
  (∀ (ls : zL) (st : zS) (h : zH), zx 8 12 ls st h = zgo 8 (zpure (.aload_n 0) 13 0 [] ls st h)) ∧
  (∀ (ls : zL) (st : zS) (h : zH), zx 8 13 ls st h = zgo 8 (zpure (.bipush 8) 15 0 [] ls st h)) ∧
  (∀ (ls : zL) (st : zS) (h : zH), zx 8 15 ls st h = zgo 8 (zpure (.newarray .int) 17 0 [] ls st h)) ∧
  (∀ (ls : zL) (st : zS) (h : zH), zx 8 17 ls st h = zgo 8 (zpure (.putfield 15) 20 0 [2, 1, 7] ls st h)) :=
  ⟨zx_0 rfl, zx_0 rfl, zx_0 rfl, zx_0 rfl⟩
set_option maxRecDepth 20000 in
theorem s8_1 {L : Nat} {xs : Nat → Int32} : zx 8 12 [some (.ref 14)] [] (zP L xs 16 17) = zx 8 20 [some (.ref 14)] [] (zP L xs 17 18) := by
  have f0 : znew (zP L xs 16 17) 20 8 (fun _ => .int 0) = zP L xs 17 17 := zP_new (by decide) (by decide +kernel) (by decide +kernel) (fun i => rfl) trivial (by decide +kernel)
  have f1 : zput (zP L xs 17 17) 14 1 (.ref 16) = zP L xs 17 18 := zP_put (by decide) (by decide) (by decide +kernel) (by decide +kernel)
  simp (disch := omega) only [zentry, zs0, zs1, zs2, zs3, zg_lo, zg_st, zg_st2, zg_ald, zg_ast, zs_ia, zs_i0, zg_ii, zi_max, zi_min, zi_abi, zi_abf, zi_fb, zi_bf, lget, lst, lst2, lc2, Option.map_some, zso, if_true, if_false, zc1, and_true, true_and, and_self, List.length_nil, List.length_cons, Nat.zero_le, reduceIte, reduceCtorEq, false_and, and_false, Bool.false_eq_true, zca_some, zr0, zr100, Option.bind_some, zb_none, zb_some, zrc, or_true, true_or, eq_self, ne_eq, not_true_eq_false, not_false_eq_true, zrt_i, zrt_zb, zrt_b, zrt_c, zrt_l, zrt_f, zrt_r, zrt_n, zrt_v, zft_0, zft_1, zft_zb, zft_3, zft_4, zft_5, zft_7r, zft_7n, iI_t, zb_i, zb_0, zb_1, Nat.reduceAdd, Nat.reduceLeDiff, Nat.reduceEqDiff, Nat.reduceSub, Int.reduceNeg, iI_add, iI_sub, iI_mul, iI_neg, zbz, zchar_id, zin, if_pos, if_neg, Int.toNat_natCast, Int.natCast_zero, Int.reduceToNat, y8_1, f0, f1, zP_n, zP_k4, zP_k5, zP_k3, zP_k6, zP_k10, zP_k14, zP_k32, zg_mn, zt1]
set_option maxRecDepth 4000 in
theorem y8_2 :
  (∀ (ls : zL) (st : zS) (h : zH), zx 8 20 ls st h = zgo 8 (zpure (.aload_n 0) 21 0 [] ls st h)) ∧
  (∀ (ls : zL) (st : zS) (h : zH), zx 8 21 ls st h = zgo 8 (zpure (.bipush 8) 23 0 [] ls st h)) ∧
  (∀ (ls : zL) (st : zS) (h : zH), zx 8 23 ls st h = zgo 8 (zpure (.newarray .int) 25 0 [] ls st h)) ∧
  (∀ (ls : zL) (st : zS) (h : zH), zx 8 25 ls st h = zgo 8 (zpure (.putfield 18) 28 0 [2, 2, 7] ls st h)) :=
  ⟨zx_0 rfl, zx_0 rfl, zx_0 rfl, zx_0 rfl⟩
set_option maxRecDepth 20000 in
theorem s8_2 {L : Nat} {xs : Nat → Int32} : zx 8 20 [some (.ref 14)] [] (zP L xs 17 18) = zx 8 28 [some (.ref 14)] [] (zP L xs 18 19) := by
  have f0 : znew (zP L xs 17 18) 20 8 (fun _ => .int 0) = zP L xs 18 18 := zP_new (by decide) (by decide +kernel) (by decide +kernel) (fun i => rfl) trivial (by decide +kernel)
  have f1 : zput (zP L xs 18 18) 14 2 (.ref 17) = zP L xs 18 19 := zP_put (by decide) (by decide) (by decide +kernel) (by decide +kernel)
  simp (disch := omega) only [zentry, zs0, zs1, zs2, zs3, zg_lo, zg_st, zg_st2, zg_ald, zg_ast, zs_ia, zs_i0, zg_ii, zi_max, zi_min, zi_abi, zi_abf, zi_fb, zi_bf, lget, lst, lst2, lc2, Option.map_some, zso, if_true, if_false, zc1, and_true, true_and, and_self, List.length_nil, List.length_cons, Nat.zero_le, reduceIte, reduceCtorEq, false_and, and_false, Bool.false_eq_true, zca_some, zr0, zr100, Option.bind_some, zb_none, zb_some, zrc, or_true, true_or, eq_self, ne_eq, not_true_eq_false, not_false_eq_true, zrt_i, zrt_zb, zrt_b, zrt_c, zrt_l, zrt_f, zrt_r, zrt_n, zrt_v, zft_0, zft_1, zft_zb, zft_3, zft_4, zft_5, zft_7r, zft_7n, iI_t, zb_i, zb_0, zb_1, Nat.reduceAdd, Nat.reduceLeDiff, Nat.reduceEqDiff, Nat.reduceSub, Int.reduceNeg, iI_add, iI_sub, iI_mul, iI_neg, zbz, zchar_id, zin, if_pos, if_neg, Int.toNat_natCast, Int.natCast_zero, Int.reduceToNat, y8_2, f0, f1, zP_n, zP_k4, zP_k5, zP_k3, zP_k6, zP_k10, zP_k14, zP_k32, zg_mn, zt1]
set_option maxRecDepth 4000 in
theorem y8_3 :
  (∀ (ls : zL) (st : zS) (h : zH), zx 8 28 ls st h = zgo 8 (zpure (.aload_n 0) 29 0 [] ls st h)) ∧
  (∀ (ls : zL) (st : zS) (h : zH), zx 8 29 ls st h = zgo 8 (zpure (.iconst 0) 30 0 [] ls st h)) ∧
  (∀ (ls : zL) (st : zS) (h : zH), zx 8 30 ls st h = zgo 8 (zpure (.putfield 21) 33 0 [2, 3, 0] ls st h)) :=
  ⟨zx_0 rfl, zx_0 rfl, zx_0 rfl⟩
set_option maxRecDepth 20000 in
theorem s8_3 {L : Nat} {xs : Nat → Int32} : zx 8 28 [some (.ref 14)] [] (zP L xs 18 19) = zx 8 33 [some (.ref 14)] [] (zP L xs 18 20) := by
  have f0 : zput (zP L xs 18 19) 14 3 (.int (Int32.ofInt 0)) = zP L xs 18 20 := zP_put (by decide) (by decide) (by decide +kernel) (by decide +kernel)
  simp (disch := omega) only [zentry, zs0, zs1, zs2, zs3, zg_lo, zg_st, zg_st2, zg_ald, zg_ast, zs_ia, zs_i0, zg_ii, zi_max, zi_min, zi_abi, zi_abf, zi_fb, zi_bf, lget, lst, lst2, lc2, Option.map_some, zso, if_true, if_false, zc1, and_true, true_and, and_self, List.length_nil, List.length_cons, Nat.zero_le, reduceIte, reduceCtorEq, false_and, and_false, Bool.false_eq_true, zca_some, zr0, zr100, Option.bind_some, zb_none, zb_some, zrc, or_true, true_or, eq_self, ne_eq, not_true_eq_false, not_false_eq_true, zrt_i, zrt_zb, zrt_b, zrt_c, zrt_l, zrt_f, zrt_r, zrt_n, zrt_v, zft_0, zft_1, zft_zb, zft_3, zft_4, zft_5, zft_7r, zft_7n, iI_t, zb_i, zb_0, zb_1, Nat.reduceAdd, Nat.reduceLeDiff, Nat.reduceEqDiff, Nat.reduceSub, Int.reduceNeg, iI_add, iI_sub, iI_mul, iI_neg, zbz, zchar_id, zin, if_pos, if_neg, Int.toNat_natCast, Int.natCast_zero, Int.reduceToNat, y8_3, f0, zP_n, zP_k4, zP_k5, zP_k3, zP_k6, zP_k10, zP_k14, zP_k32, zg_mn, zt1]
set_option maxRecDepth 4000 in
theorem y8_4 :
  (∀ (ls : zL) (st : zS) (h : zH), zx 8 33 ls st h = zgo 8 (zpure (.aload_n 0) 34 0 [] ls st h)) ∧
  (∀ (ls : zL) (st : zS) (h : zH), zx 8 34 ls st h = zgo 8 (zpure (.bipush 9) 36 0 [] ls st h)) ∧
  (∀ (ls : zL) (st : zS) (h : zH), zx 8 36 ls st h = zgo 8 (zpure (.sipush 3601) 39 0 [] ls st h)) ∧
  (∀ (ls : zL) (st : zS) (h : zH), zx 8 39 ls st h = zgo 8 (zpure (.multianewarray 25 2) 43 0 [27, 21] ls st h)) ∧
  (∀ (ls : zL) (st : zS) (h : zH), zx 8 43 ls st h = zgo 8 (zpure (.putfield 27) 46 0 [2, 4, 7] ls st h)) :=
  ⟨zx_0 rfl, zx_0 rfl, zx_0 rfl, zx_0 rfl, zx_0 rfl⟩
set_option maxRecDepth 20000 in
theorem s8_4 {L : Nat} {xs : Nat → Int32} : zx 8 33 [some (.ref 14)] [] (zP L xs 18 20) = zx 8 46 [some (.ref 14)] [] (zP L xs 28 21) := by
  have f0 : znews (znew (zP L xs 18 20) 27 9 (fun i => if i < 9 then .ref ((19 + i : Nat)) else .null)) 21 3601 (.int 0) 9 = zP L xs 28 20 := zP_ns18 (by decide +kernel)
  have f1 : zput (zP L xs 28 20) 14 4 (.ref 18) = zP L xs 28 21 := zP_put (by decide) (by decide) (by decide +kernel) (by decide +kernel)
  simp (disch := omega) only [zentry, zs0, zs1, zs2, zs3, zg_lo, zg_st, zg_st2, zg_ald, zg_ast, zs_ia, zs_i0, zg_ii, zi_max, zi_min, zi_abi, zi_abf, zi_fb, zi_bf, lget, lst, lst2, lc2, Option.map_some, zso, if_true, if_false, zc1, and_true, true_and, and_self, List.length_nil, List.length_cons, Nat.zero_le, reduceIte, reduceCtorEq, false_and, and_false, Bool.false_eq_true, zca_some, zr0, zr100, Option.bind_some, zb_none, zb_some, zrc, or_true, true_or, eq_self, ne_eq, not_true_eq_false, not_false_eq_true, zrt_i, zrt_zb, zrt_b, zrt_c, zrt_l, zrt_f, zrt_r, zrt_n, zrt_v, zft_0, zft_1, zft_zb, zft_3, zft_4, zft_5, zft_7r, zft_7n, iI_t, zb_i, zb_0, zb_1, Nat.reduceAdd, Nat.reduceLeDiff, Nat.reduceEqDiff, Nat.reduceSub, Int.reduceNeg, iI_add, iI_sub, iI_mul, iI_neg, zbz, zchar_id, zin, if_pos, if_neg, Int.toNat_natCast, Int.natCast_zero, Int.reduceToNat, y8_4, f0, f1, zP_n, zP_k4, zP_k5, zP_k3, zP_k6, zP_k10, zP_k14, zP_k32, zg_mn, zt1]
set_option maxRecDepth 4000 in
theorem y8_5 :
  (∀ (ls : zL) (st : zS) (h : zH), zx 8 46 ls st h = zgo 8 (zpure (.aload_n 0) 47 0 [] ls st h)) ∧
  (∀ (ls : zL) (st : zS) (h : zH), zx 8 47 ls st h = zgo 8 (zpure (.iconst 0) 48 0 [] ls st h)) ∧
  (∀ (ls : zL) (st : zS) (h : zH), zx 8 48 ls st h = zgo 8 (zpure (.putfield 30) 51 0 [2, 5, 1] ls st h)) :=
  ⟨zx_0 rfl, zx_0 rfl, zx_0 rfl⟩
set_option maxRecDepth 20000 in
theorem s8_5 {L : Nat} {xs : Nat → Int32} : zx 8 46 [some (.ref 14)] [] (zP L xs 28 21) = zx 8 51 [some (.ref 14)] [] (zP L xs 28 22) := by
  have f0 : zput (zP L xs 28 21) 14 5 (.int (Int32.ofInt 0)) = zP L xs 28 22 := zP_put (by decide) (by decide) (by decide +kernel) (by decide +kernel)
  simp (disch := omega) only [zentry, zs0, zs1, zs2, zs3, zg_lo, zg_st, zg_st2, zg_ald, zg_ast, zs_ia, zs_i0, zg_ii, zi_max, zi_min, zi_abi, zi_abf, zi_fb, zi_bf, lget, lst, lst2, lc2, Option.map_some, zso, if_true, if_false, zc1, and_true, true_and, and_self, List.length_nil, List.length_cons, Nat.zero_le, reduceIte, reduceCtorEq, false_and, and_false, Bool.false_eq_true, zca_some, zr0, zr100, Option.bind_some, zb_none, zb_some, zrc, or_true, true_or, eq_self, ne_eq, not_true_eq_false, not_false_eq_true, zrt_i, zrt_zb, zrt_b, zrt_c, zrt_l, zrt_f, zrt_r, zrt_n, zrt_v, zft_0, zft_1, zft_zb, zft_3, zft_4, zft_5, zft_7r, zft_7n, iI_t, zb_i, zb_0, zb_1, Nat.reduceAdd, Nat.reduceLeDiff, Nat.reduceEqDiff, Nat.reduceSub, Int.reduceNeg, iI_add, iI_sub, iI_mul, iI_neg, zbz, zchar_id, zin, if_pos, if_neg, Int.toNat_natCast, Int.natCast_zero, Int.reduceToNat, y8_5, f0, zP_n, zP_k4, zP_k5, zP_k3, zP_k6, zP_k10, zP_k14, zP_k32, zg_mn, zt1]
set_option maxRecDepth 4000 in
theorem y8_6 :
  (∀ (ls : zL) (st : zS) (h : zH), zx 8 51 ls st h = zgo 8 (zpure (.aload_n 0) 52 0 [] ls st h)) ∧
  (∀ (ls : zL) (st : zS) (h : zH), zx 8 52 ls st h = zgo 8 (zpure (.bipush 70) 54 0 [] ls st h)) ∧
  (∀ (ls : zL) (st : zS) (h : zH), zx 8 54 ls st h = zgo 8 (zpure (.newarray .int) 56 0 [] ls st h)) ∧
  (∀ (ls : zL) (st : zS) (h : zH), zx 8 56 ls st h = zgo 8 (zpure (.putfield 34) 59 0 [2, 6, 7] ls st h)) :=
  ⟨zx_0 rfl, zx_0 rfl, zx_0 rfl, zx_0 rfl⟩
set_option maxRecDepth 20000 in
theorem s8_6 {L : Nat} {xs : Nat → Int32} : zx 8 51 [some (.ref 14)] [] (zP L xs 28 22) = zx 8 59 [some (.ref 14)] [] (zP L xs 29 23) := by
  have f0 : znew (zP L xs 28 22) 20 70 (fun _ => .int 0) = zP L xs 29 22 := zP_new (by decide) (by decide +kernel) (by decide +kernel) (fun i => rfl) trivial (by decide +kernel)
  have f1 : zput (zP L xs 29 22) 14 6 (.ref 28) = zP L xs 29 23 := zP_put (by decide) (by decide) (by decide +kernel) (by decide +kernel)
  simp (disch := omega) only [zentry, zs0, zs1, zs2, zs3, zg_lo, zg_st, zg_st2, zg_ald, zg_ast, zs_ia, zs_i0, zg_ii, zi_max, zi_min, zi_abi, zi_abf, zi_fb, zi_bf, lget, lst, lst2, lc2, Option.map_some, zso, if_true, if_false, zc1, and_true, true_and, and_self, List.length_nil, List.length_cons, Nat.zero_le, reduceIte, reduceCtorEq, false_and, and_false, Bool.false_eq_true, zca_some, zr0, zr100, Option.bind_some, zb_none, zb_some, zrc, or_true, true_or, eq_self, ne_eq, not_true_eq_false, not_false_eq_true, zrt_i, zrt_zb, zrt_b, zrt_c, zrt_l, zrt_f, zrt_r, zrt_n, zrt_v, zft_0, zft_1, zft_zb, zft_3, zft_4, zft_5, zft_7r, zft_7n, iI_t, zb_i, zb_0, zb_1, Nat.reduceAdd, Nat.reduceLeDiff, Nat.reduceEqDiff, Nat.reduceSub, Int.reduceNeg, iI_add, iI_sub, iI_mul, iI_neg, zbz, zchar_id, zin, if_pos, if_neg, Int.toNat_natCast, Int.natCast_zero, Int.reduceToNat, y8_6, f0, f1, zP_n, zP_k4, zP_k5, zP_k3, zP_k6, zP_k10, zP_k14, zP_k32, zg_mn, zt1]
set_option maxRecDepth 4000 in
theorem y8_7 :
  (∀ (ls : zL) (st : zS) (h : zH), zx 8 59 ls st h = zgo 8 (zpure (.aload_n 0) 60 0 [] ls st h)) ∧
  (∀ (ls : zL) (st : zS) (h : zH), zx 8 60 ls st h = zgo 8 (zpure (.bipush 70) 62 0 [] ls st h)) ∧
  (∀ (ls : zL) (st : zS) (h : zH), zx 8 62 ls st h = zgo 8 (zpure (.newarray .int) 64 0 [] ls st h)) ∧
  (∀ (ls : zL) (st : zS) (h : zH), zx 8 64 ls st h = zgo 8 (zpure (.putfield 37) 67 0 [2, 7, 7] ls st h)) :=
  ⟨zx_0 rfl, zx_0 rfl, zx_0 rfl, zx_0 rfl⟩
set_option maxRecDepth 20000 in
theorem s8_7 {L : Nat} {xs : Nat → Int32} : zx 8 59 [some (.ref 14)] [] (zP L xs 29 23) = zx 8 67 [some (.ref 14)] [] (zP L xs 30 24) := by
  have f0 : znew (zP L xs 29 23) 20 70 (fun _ => .int 0) = zP L xs 30 23 := zP_new (by decide) (by decide +kernel) (by decide +kernel) (fun i => rfl) trivial (by decide +kernel)
  have f1 : zput (zP L xs 30 23) 14 7 (.ref 29) = zP L xs 30 24 := zP_put (by decide) (by decide) (by decide +kernel) (by decide +kernel)
  simp (disch := omega) only [zentry, zs0, zs1, zs2, zs3, zg_lo, zg_st, zg_st2, zg_ald, zg_ast, zs_ia, zs_i0, zg_ii, zi_max, zi_min, zi_abi, zi_abf, zi_fb, zi_bf, lget, lst, lst2, lc2, Option.map_some, zso, if_true, if_false, zc1, and_true, true_and, and_self, List.length_nil, List.length_cons, Nat.zero_le, reduceIte, reduceCtorEq, false_and, and_false, Bool.false_eq_true, zca_some, zr0, zr100, Option.bind_some, zb_none, zb_some, zrc, or_true, true_or, eq_self, ne_eq, not_true_eq_false, not_false_eq_true, zrt_i, zrt_zb, zrt_b, zrt_c, zrt_l, zrt_f, zrt_r, zrt_n, zrt_v, zft_0, zft_1, zft_zb, zft_3, zft_4, zft_5, zft_7r, zft_7n, iI_t, zb_i, zb_0, zb_1, Nat.reduceAdd, Nat.reduceLeDiff, Nat.reduceEqDiff, Nat.reduceSub, Int.reduceNeg, iI_add, iI_sub, iI_mul, iI_neg, zbz, zchar_id, zin, if_pos, if_neg, Int.toNat_natCast, Int.natCast_zero, Int.reduceToNat, y8_7, f0, f1, zP_n, zP_k4, zP_k5, zP_k3, zP_k6, zP_k10, zP_k14, zP_k32, zg_mn, zt1]
set_option maxRecDepth 4000 in
theorem y8_8 :
  (∀ (ls : zL) (st : zS) (h : zH), zx 8 67 ls st h = zgo 8 (zpure (.aload_n 0) 68 0 [] ls st h)) ∧
  (∀ (ls : zL) (st : zS) (h : zH), zx 8 68 ls st h = zgo 8 (zpure (.bipush 70) 70 0 [] ls st h)) ∧
  (∀ (ls : zL) (st : zS) (h : zH), zx 8 70 ls st h = zgo 8 (zpure (.newarray .int) 72 0 [] ls st h)) ∧
  (∀ (ls : zL) (st : zS) (h : zH), zx 8 72 ls st h = zgo 8 (zpure (.putfield 40) 75 0 [2, 8, 7] ls st h)) :=
  ⟨zx_0 rfl, zx_0 rfl, zx_0 rfl, zx_0 rfl⟩
set_option maxRecDepth 20000 in
theorem s8_8 {L : Nat} {xs : Nat → Int32} : zx 8 67 [some (.ref 14)] [] (zP L xs 30 24) = zx 8 75 [some (.ref 14)] [] (zP L xs 31 25) := by
  have f0 : znew (zP L xs 30 24) 20 70 (fun _ => .int 0) = zP L xs 31 24 := zP_new (by decide) (by decide +kernel) (by decide +kernel) (fun i => rfl) trivial (by decide +kernel)
  have f1 : zput (zP L xs 31 24) 14 8 (.ref 30) = zP L xs 31 25 := zP_put (by decide) (by decide) (by decide +kernel) (by decide +kernel)
  simp (disch := omega) only [zentry, zs0, zs1, zs2, zs3, zg_lo, zg_st, zg_st2, zg_ald, zg_ast, zs_ia, zs_i0, zg_ii, zi_max, zi_min, zi_abi, zi_abf, zi_fb, zi_bf, lget, lst, lst2, lc2, Option.map_some, zso, if_true, if_false, zc1, and_true, true_and, and_self, List.length_nil, List.length_cons, Nat.zero_le, reduceIte, reduceCtorEq, false_and, and_false, Bool.false_eq_true, zca_some, zr0, zr100, Option.bind_some, zb_none, zb_some, zrc, or_true, true_or, eq_self, ne_eq, not_true_eq_false, not_false_eq_true, zrt_i, zrt_zb, zrt_b, zrt_c, zrt_l, zrt_f, zrt_r, zrt_n, zrt_v, zft_0, zft_1, zft_zb, zft_3, zft_4, zft_5, zft_7r, zft_7n, iI_t, zb_i, zb_0, zb_1, Nat.reduceAdd, Nat.reduceLeDiff, Nat.reduceEqDiff, Nat.reduceSub, Int.reduceNeg, iI_add, iI_sub, iI_mul, iI_neg, zbz, zchar_id, zin, if_pos, if_neg, Int.toNat_natCast, Int.natCast_zero, Int.reduceToNat, y8_8, f0, f1, zP_n, zP_k4, zP_k5, zP_k3, zP_k6, zP_k10, zP_k14, zP_k32, zg_mn, zt1]
set_option maxRecDepth 4000 in
theorem y8_9 :
  (∀ (ls : zL) (st : zS) (h : zH), zx 8 75 ls st h = zgo 8 (zpure (.aload_n 0) 76 0 [] ls st h)) ∧
  (∀ (ls : zL) (st : zS) (h : zH), zx 8 76 ls st h = zgo 8 (zpure (.bipush 70) 78 0 [] ls st h)) ∧
  (∀ (ls : zL) (st : zS) (h : zH), zx 8 78 ls st h = zgo 8 (zpure (.newarray .int) 80 0 [] ls st h)) ∧
  (∀ (ls : zL) (st : zS) (h : zH), zx 8 80 ls st h = zgo 8 (zpure (.putfield 43) 83 0 [2, 9, 7] ls st h)) :=
  ⟨zx_0 rfl, zx_0 rfl, zx_0 rfl, zx_0 rfl⟩
set_option maxRecDepth 20000 in
theorem s8_9 {L : Nat} {xs : Nat → Int32} : zx 8 75 [some (.ref 14)] [] (zP L xs 31 25) = zx 8 83 [some (.ref 14)] [] (zP L xs 32 26) := by
  have f0 : znew (zP L xs 31 25) 20 70 (fun _ => .int 0) = zP L xs 32 25 := zP_new (by decide) (by decide +kernel) (by decide +kernel) (fun i => rfl) trivial (by decide +kernel)
  have f1 : zput (zP L xs 32 25) 14 9 (.ref 31) = zP L xs 32 26 := zP_put (by decide) (by decide) (by decide +kernel) (by decide +kernel)
  simp (disch := omega) only [zentry, zs0, zs1, zs2, zs3, zg_lo, zg_st, zg_st2, zg_ald, zg_ast, zs_ia, zs_i0, zg_ii, zi_max, zi_min, zi_abi, zi_abf, zi_fb, zi_bf, lget, lst, lst2, lc2, Option.map_some, zso, if_true, if_false, zc1, and_true, true_and, and_self, List.length_nil, List.length_cons, Nat.zero_le, reduceIte, reduceCtorEq, false_and, and_false, Bool.false_eq_true, zca_some, zr0, zr100, Option.bind_some, zb_none, zb_some, zrc, or_true, true_or, eq_self, ne_eq, not_true_eq_false, not_false_eq_true, zrt_i, zrt_zb, zrt_b, zrt_c, zrt_l, zrt_f, zrt_r, zrt_n, zrt_v, zft_0, zft_1, zft_zb, zft_3, zft_4, zft_5, zft_7r, zft_7n, iI_t, zb_i, zb_0, zb_1, Nat.reduceAdd, Nat.reduceLeDiff, Nat.reduceEqDiff, Nat.reduceSub, Int.reduceNeg, iI_add, iI_sub, iI_mul, iI_neg, zbz, zchar_id, zin, if_pos, if_neg, Int.toNat_natCast, Int.natCast_zero, Int.reduceToNat, y8_9, f0, f1, zP_n, zP_k4, zP_k5, zP_k3, zP_k6, zP_k10, zP_k14, zP_k32, zg_mn, zt1]
set_option maxRecDepth 4000 in
theorem y8_10 :
  (∀ (ls : zL) (st : zS) (h : zH), zx 8 83 ls st h = zgo 8 (zpure (.aload_n 0) 84 0 [] ls st h)) ∧
  (∀ (ls : zL) (st : zS) (h : zH), zx 8 84 ls st h = zgo 8 (zpure (.iconst 0) 85 0 [] ls st h)) ∧
  (∀ (ls : zL) (st : zS) (h : zH), zx 8 85 ls st h = zgo 8 (zpure (.putfield 46) 88 0 [2, 10, 0] ls st h)) :=
  ⟨zx_0 rfl, zx_0 rfl, zx_0 rfl⟩
set_option maxRecDepth 20000 in
theorem s8_10 {L : Nat} {xs : Nat → Int32} : zx 8 83 [some (.ref 14)] [] (zP L xs 32 26) = zx 8 88 [some (.ref 14)] [] (zP L xs 32 27) := by
  have f0 : zput (zP L xs 32 26) 14 10 (.int (Int32.ofInt 0)) = zP L xs 32 27 := zP_put (by decide) (by decide) (by decide +kernel) (by decide +kernel)
  simp (disch := omega) only [zentry, zs0, zs1, zs2, zs3, zg_lo, zg_st, zg_st2, zg_ald, zg_ast, zs_ia, zs_i0, zg_ii, zi_max, zi_min, zi_abi, zi_abf, zi_fb, zi_bf, lget, lst, lst2, lc2, Option.map_some, zso, if_true, if_false, zc1, and_true, true_and, and_self, List.length_nil, List.length_cons, Nat.zero_le, reduceIte, reduceCtorEq, false_and, and_false, Bool.false_eq_true, zca_some, zr0, zr100, Option.bind_some, zb_none, zb_some, zrc, or_true, true_or, eq_self, ne_eq, not_true_eq_false, not_false_eq_true, zrt_i, zrt_zb, zrt_b, zrt_c, zrt_l, zrt_f, zrt_r, zrt_n, zrt_v, zft_0, zft_1, zft_zb, zft_3, zft_4, zft_5, zft_7r, zft_7n, iI_t, zb_i, zb_0, zb_1, Nat.reduceAdd, Nat.reduceLeDiff, Nat.reduceEqDiff, Nat.reduceSub, Int.reduceNeg, iI_add, iI_sub, iI_mul, iI_neg, zbz, zchar_id, zin, if_pos, if_neg, Int.toNat_natCast, Int.natCast_zero, Int.reduceToNat, y8_10, f0, zP_n, zP_k4, zP_k5, zP_k3, zP_k6, zP_k10, zP_k14, zP_k32, zg_mn, zt1]
theorem y8_11 : ∀ (ls : zL) (st : zS) (h : zH), zx 8 88 ls st h = zret 8 st h := zx_1 rfl
theorem k8_14 {L : Nat} {xs : Nat → Int32} : zc 8 1 [.ref 14] (zP L xs 15 16) = some (.inl none, zP L xs 32 27) := by
  have e : zc 8 1 [.ref 14] (zP L xs 15 16) = zx 8 0 [some (.ref 14)] [] (zP L xs 15 16) := rfl
  rw [e, s8_0, s8_1, s8_2, s8_3, s8_4, s8_5, s8_6, s8_7, s8_8, s8_9, s8_10, y8_11]
  rfl
set_option maxRecDepth 20000 in
theorem k41 {L : Nat} {xs : Nat → Int32} : zc 41 1 [.ref 3] (zP L xs 4 0) = some (.inl none, zP L xs 32 31) := by
  have f0 : znew (zP L xs 4 0) 7 3 (fun i => zdef (zty 7 i)) = zP L xs 5 0 := zP_new (by decide) (by decide +kernel) (by decide +kernel) (fun i => rfl) trivial (by decide +kernel)
  have f2 : zput (zP L xs 5 2) 3 0 (.ref 4) = zP L xs 5 3 := zP_put (by decide) (by decide) (by decide +kernel) (by decide +kernel)
  have f3 : znew (zP L xs 5 3) 7 3 (fun i => zdef (zty 7 i)) = zP L xs 6 3 := zP_new (by decide) (by decide +kernel) (by decide +kernel) (fun i => rfl) trivial (by decide +kernel)
  have f5 : zput (zP L xs 6 5) 3 1 (.ref 5) = zP L xs 6 6 := zP_put (by decide) (by decide) (by decide +kernel) (by decide +kernel)
  have f6 : znew (zP L xs 6 6) 4 4 (fun i => zdef (zty 4 i)) = zP L xs 7 6 := zP_new (by decide) (by decide +kernel) (by decide +kernel) (fun i => rfl) trivial (by decide +kernel)
  have f8 : zput (zP L xs 10 10) 3 2 (.ref 6) = zP L xs 10 11 := zP_put (by decide) (by decide) (by decide +kernel) (by decide +kernel)
  have f9 : znew (zP L xs 10 11) 4 4 (fun i => zdef (zty 4 i)) = zP L xs 11 11 := zP_new (by decide) (by decide +kernel) (by decide +kernel) (fun i => rfl) trivial (by decide +kernel)
  have f11 : zput (zP L xs 14 15) 3 3 (.ref 10) = zP L xs 14 16 := zP_put (by decide) (by decide) (by decide +kernel) (by decide +kernel)
  have f12 : znew (zP L xs 14 16) 2 11 (fun i => zdef (zty 2 i)) = zP L xs 15 16 := zP_new (by decide) (by decide +kernel) (by decide +kernel) (fun i => rfl) trivial (by decide +kernel)
  have f14 : zput (zP L xs 32 27) 3 4 (.ref 14) = zP L xs 32 28 := zP_put (by decide) (by decide) (by decide +kernel) (by decide +kernel)
  have f15 : zput (zP L xs 32 28) 3 5 (.int (Int32.ofInt 0)) = zP L xs 32 29 := zP_put (by decide) (by decide) (by decide +kernel) (by decide +kernel)
  have f16 : zput (zP L xs 32 29) 3 6 (.int (Int32.ofInt 0)) = zP L xs 32 30 := zP_put (by decide) (by decide) (by decide +kernel) (by decide +kernel)
  have f17 : zput (zP L xs 32 30) 3 7 (.int (Int32.ofInt 0)) = zP L xs 32 31 := zP_put (by decide) (by decide) (by decide +kernel) (by decide +kernel)
  rw [zc]
  simp (disch := first | omega | (simp (disch := omega) only [zwr_s, zwr_a, zwr_i, zn_put, zn_new, zn_fil, zn_chg, zV_n]; omega)) only [zentry, zs0, zs1, zs2, zs3, zg_lo, zg_st, zg_st2, zg_ald, zg_ast, zs_ia, zs_i0, zg_ii, zi_max, zi_min, zi_abi, zi_abf, zi_fb, zi_bf, lget, lst, lst2, lc2, Option.map_some, zso, if_true, if_false, zc1, and_true, true_and, and_self, List.length_nil, List.length_cons, Nat.zero_le, reduceIte, reduceCtorEq, false_and, and_false, Bool.false_eq_true, zca_some, zr0, zr100, Option.bind_some, zb_none, zb_some, zrc, or_true, true_or, eq_self, ne_eq, not_true_eq_false, not_false_eq_true, zrt_i, zrt_zb, zrt_b, zrt_c, zrt_l, zrt_f, zrt_r, zrt_n, zrt_v, zft_0, zft_1, zft_zb, zft_3, zft_4, zft_5, zft_7r, zft_7n, iI_t, zb_i, zb_0, zb_1, Nat.reduceAdd, Nat.reduceLeDiff, Nat.reduceEqDiff, Nat.reduceSub, Int.reduceNeg, iI_add, iI_sub, iI_mul, iI_neg, zbz, zchar_id, zin, zwr_s, zwr_a, zwr_i, if_pos, if_neg, Int.toNat_natCast, Int.natCast_zero, Int.reduceToNat, z41, f0, k164_4 (L := L) (xs := xs), f2, f3, k164_5 (L := L) (xs := xs), f5, f6, k28_6 (L := L) (xs := xs), f8, f9, k28_10 (L := L) (xs := xs), f11, f12, k8_14 (L := L) (xs := xs), f14, f15, f16, f17, zP_n, zP_k4, zP_k5, zP_k3, zP_k6, zP_k10, zP_k14, zP_k32, zg_mn, zt1]
set_option maxRecDepth 4000 in
theorem y102_0 :
  (∀ (ls : zL) (st : zS) (h : zH), zx 102 0 ls st h = zgo 102 (zpure (.aload_n 0) 1 0 [] ls st h)) ∧
  (∀ (ls : zL) (st : zS) (h : zH), zx 102 1 ls st h = zgo 102 (zpure (.invokespecial 1) 4 0 [] ls st h)) ∧
  (∀ (ls : zL) (st : zS) (h : zH), zx 102 4 ls st h = zgo 102 (zpure (.aload_n 0) 5 0 [] ls st h)) ∧
  (∀ (ls : zL) (st : zS) (h : zH), zx 102 5 ls st h = zgo 102 (zpure (.bipush 12) 7 0 [] ls st h)) ∧
  (∀ (ls : zL) (st : zS) (h : zH), zx 102 7 ls st h = zgo 102 (zpure (.newarray .int) 9 0 [] ls st h)) ∧
  (∀ (ls : zL) (st : zS) (h : zH), zx 102 9 ls st h = zgo 102 (zpure (.putfield 9) 12 0 [6, 0, 7] ls st h)) :=
  ⟨zx_0 rfl, zx_0 rfl, zx_0 rfl, zx_0 rfl, zx_0 rfl, zx_0 rfl⟩
set_option maxRecDepth 20000 in
theorem s102_0 {L : Nat} {xs : Nat → Int32} : zx 102 0 [some (.ref 32)] [] (zP L xs 33 31) = zx 102 12 [some (.ref 32)] [] (zP L xs 34 32) := by
  have f0 : znew (zP L xs 33 31) 20 12 (fun _ => .int 0) = zP L xs 34 31 := zP_new (by decide) (by decide +kernel) (by decide +kernel) (fun i => rfl) trivial (by decide +kernel)
  have f1 : zput (zP L xs 34 31) 32 0 (.ref 33) = zP L xs 34 32 := zP_put (by decide) (by decide) (by decide +kernel) (by decide +kernel)
  simp (disch := omega) only [zentry, zs0, zs1, zs2, zs3, zg_lo, zg_st, zg_st2, zg_ald, zg_ast, zs_ia, zs_i0, zg_ii, zi_max, zi_min, zi_abi, zi_abf, zi_fb, zi_bf, lget, lst, lst2, lc2, Option.map_some, zso, if_true, if_false, zc1, and_true, true_and, and_self, List.length_nil, List.length_cons, Nat.zero_le, reduceIte, reduceCtorEq, false_and, and_false, Bool.false_eq_true, zca_some, zr0, zr100, Option.bind_some, zb_none, zb_some, zrc, or_true, true_or, eq_self, ne_eq, not_true_eq_false, not_false_eq_true, zrt_i, zrt_zb, zrt_b, zrt_c, zrt_l, zrt_f, zrt_r, zrt_n, zrt_v, zft_0, zft_1, zft_zb, zft_3, zft_4, zft_5, zft_7r, zft_7n, iI_t, zb_i, zb_0, zb_1, Nat.reduceAdd, Nat.reduceLeDiff, Nat.reduceEqDiff, Nat.reduceSub, Int.reduceNeg, iI_add, iI_sub, iI_mul, iI_neg, zbz, zchar_id, zin, if_pos, if_neg, Int.toNat_natCast, Int.natCast_zero, Int.reduceToNat, y102_0, f0, f1, zP_n, zP_k4, zP_k5, zP_k3, zP_k6, zP_k10, zP_k14, zP_k32, zg_mn, zt1]
set_option maxRecDepth 4000 in
theorem y102_1 :
  (∀ (ls : zL) (st : zS) (h : zH), zx 102 12 ls st h = zgo 102 (zpure (.aload_n 0) 13 0 [] ls st h)) ∧
  (∀ (ls : zL) (st : zS) (h : zH), zx 102 13 ls st h = zgo 102 (zpure (.bipush 12) 15 0 [] ls st h)) ∧
  (∀ (ls : zL) (st : zS) (h : zH), zx 102 15 ls st h = zgo 102 (zpure (.newarray .int) 17 0 [] ls st h)) ∧
  (∀ (ls : zL) (st : zS) (h : zH), zx 102 17 ls st h = zgo 102 (zpure (.putfield 13) 20 0 [6, 1, 7] ls st h)) :=
  ⟨zx_0 rfl, zx_0 rfl, zx_0 rfl, zx_0 rfl⟩
set_option maxRecDepth 20000 in
theorem s102_1 {L : Nat} {xs : Nat → Int32} : zx 102 12 [some (.ref 32)] [] (zP L xs 34 32) = zx 102 20 [some (.ref 32)] [] (zP L xs 35 33) := by
  have f0 : znew (zP L xs 34 32) 20 12 (fun _ => .int 0) = zP L xs 35 32 := zP_new (by decide) (by decide +kernel) (by decide +kernel) (fun i => rfl) trivial (by decide +kernel)
  have f1 : zput (zP L xs 35 32) 32 1 (.ref 34) = zP L xs 35 33 := zP_put (by decide) (by decide) (by decide +kernel) (by decide +kernel)
  simp (disch := omega) only [zentry, zs0, zs1, zs2, zs3, zg_lo, zg_st, zg_st2, zg_ald, zg_ast, zs_ia, zs_i0, zg_ii, zi_max, zi_min, zi_abi, zi_abf, zi_fb, zi_bf, lget, lst, lst2, lc2, Option.map_some, zso, if_true, if_false, zc1, and_true, true_and, and_self, List.length_nil, List.length_cons, Nat.zero_le, reduceIte, reduceCtorEq, false_and, and_false, Bool.false_eq_true, zca_some, zr0, zr100, Option.bind_some, zb_none, zb_some, zrc, or_true, true_or, eq_self, ne_eq, not_true_eq_false, not_false_eq_true, zrt_i, zrt_zb, zrt_b, zrt_c, zrt_l, zrt_f, zrt_r, zrt_n, zrt_v, zft_0, zft_1, zft_zb, zft_3, zft_4, zft_5, zft_7r, zft_7n, iI_t, zb_i, zb_0, zb_1, Nat.reduceAdd, Nat.reduceLeDiff, Nat.reduceEqDiff, Nat.reduceSub, Int.reduceNeg, iI_add, iI_sub, iI_mul, iI_neg, zbz, zchar_id, zin, if_pos, if_neg, Int.toNat_natCast, Int.natCast_zero, Int.reduceToNat, y102_1, f0, f1, zP_n, zP_k4, zP_k5, zP_k3, zP_k6, zP_k10, zP_k14, zP_k32, zg_mn, zt1]
set_option maxRecDepth 4000 in
theorem y102_2 :
  (∀ (ls : zL) (st : zS) (h : zH), zx 102 20 ls st h = zgo 102 (zpure (.aload_n 0) 21 0 [] ls st h)) ∧
  (∀ (ls : zL) (st : zS) (h : zH), zx 102 21 ls st h = zgo 102 (zpure (.bipush 12) 23 0 [] ls st h)) ∧
  (∀ (ls : zL) (st : zS) (h : zH), zx 102 23 ls st h = zgo 102 (zpure (.newarray .int) 25 0 [] ls st h)) ∧
  (∀ (ls : zL) (st : zS) (h : zH), zx 102 25 ls st h = zgo 102 (zpure (.putfield 16) 28 0 [6, 2, 7] ls st h)) :=
  ⟨zx_0 rfl, zx_0 rfl, zx_0 rfl, zx_0 rfl⟩
set_option maxRecDepth 20000 in
theorem s102_2 {L : Nat} {xs : Nat → Int32} : zx 102 20 [some (.ref 32)] [] (zP L xs 35 33) = zx 102 28 [some (.ref 32)] [] (zP L xs 36 34) := by
  have f0 : znew (zP L xs 35 33) 20 12 (fun _ => .int 0) = zP L xs 36 33 := zP_new (by decide) (by decide +kernel) (by decide +kernel) (fun i => rfl) trivial (by decide +kernel)
  have f1 : zput (zP L xs 36 33) 32 2 (.ref 35) = zP L xs 36 34 := zP_put (by decide) (by decide) (by decide +kernel) (by decide +kernel)
  simp (disch := omega) only [zentry, zs0, zs1, zs2, zs3, zg_lo, zg_st, zg_st2, zg_ald, zg_ast, zs_ia, zs_i0, zg_ii, zi_max, zi_min, zi_abi, zi_abf, zi_fb, zi_bf, lget, lst, lst2, lc2, Option.map_some, zso, if_true, if_false, zc1, and_true, true_and, and_self, List.length_nil, List.length_cons, Nat.zero_le, reduceIte, reduceCtorEq, false_and, and_false, Bool.false_eq_true, zca_some, zr0, zr100, Option.bind_some, zb_none, zb_some, zrc, or_true, true_or, eq_self, ne_eq, not_true_eq_false, not_false_eq_true, zrt_i, zrt_zb, zrt_b, zrt_c, zrt_l, zrt_f, zrt_r, zrt_n, zrt_v, zft_0, zft_1, zft_zb, zft_3, zft_4, zft_5, zft_7r, zft_7n, iI_t, zb_i, zb_0, zb_1, Nat.reduceAdd, Nat.reduceLeDiff, Nat.reduceEqDiff, Nat.reduceSub, Int.reduceNeg, iI_add, iI_sub, iI_mul, iI_neg, zbz, zchar_id, zin, if_pos, if_neg, Int.toNat_natCast, Int.natCast_zero, Int.reduceToNat, y102_2, f0, f1, zP_n, zP_k4, zP_k5, zP_k3, zP_k6, zP_k10, zP_k14, zP_k32, zg_mn, zt1]
set_option maxRecDepth 4000 in
theorem y102_3 :
  (∀ (ls : zL) (st : zS) (h : zH), zx 102 28 ls st h = zgo 102 (zpure (.aload_n 0) 29 0 [] ls st h)) ∧
  (∀ (ls : zL) (st : zS) (h : zH), zx 102 29 ls st h = zgo 102 (zpure (.bipush 12) 31 0 [] ls st h)) ∧
  (∀ (ls : zL) (st : zS) (h : zH), zx 102 31 ls st h = zgo 102 (zpure (.newarray .int) 33 0 [] ls st h)) ∧
  (∀ (ls : zL) (st : zS) (h : zH), zx 102 33 ls st h = zgo 102 (zpure (.putfield 19) 36 0 [6, 3, 7] ls st h)) :=
  ⟨zx_0 rfl, zx_0 rfl, zx_0 rfl, zx_0 rfl⟩
set_option maxRecDepth 20000 in
theorem s102_3 {L : Nat} {xs : Nat → Int32} : zx 102 28 [some (.ref 32)] [] (zP L xs 36 34) = zx 102 36 [some (.ref 32)] [] (zP L xs 37 35) := by
  have f0 : znew (zP L xs 36 34) 20 12 (fun _ => .int 0) = zP L xs 37 34 := zP_new (by decide) (by decide +kernel) (by decide +kernel) (fun i => rfl) trivial (by decide +kernel)
  have f1 : zput (zP L xs 37 34) 32 3 (.ref 36) = zP L xs 37 35 := zP_put (by decide) (by decide) (by decide +kernel) (by decide +kernel)
  simp (disch := omega) only [zentry, zs0, zs1, zs2, zs3, zg_lo, zg_st, zg_st2, zg_ald, zg_ast, zs_ia, zs_i0, zg_ii, zi_max, zi_min, zi_abi, zi_abf, zi_fb, zi_bf, lget, lst, lst2, lc2, Option.map_some, zso, if_true, if_false, zc1, and_true, true_and, and_self, List.length_nil, List.length_cons, Nat.zero_le, reduceIte, reduceCtorEq, false_and, and_false, Bool.false_eq_true, zca_some, zr0, zr100, Option.bind_some, zb_none, zb_some, zrc, or_true, true_or, eq_self, ne_eq, not_true_eq_false, not_false_eq_true, zrt_i, zrt_zb, zrt_b, zrt_c, zrt_l, zrt_f, zrt_r, zrt_n, zrt_v, zft_0, zft_1, zft_zb, zft_3, zft_4, zft_5, zft_7r, zft_7n, iI_t, zb_i, zb_0, zb_1, Nat.reduceAdd, Nat.reduceLeDiff, Nat.reduceEqDiff, Nat.reduceSub, Int.reduceNeg, iI_add, iI_sub, iI_mul, iI_neg, zbz, zchar_id, zin, if_pos, if_neg, Int.toNat_natCast, Int.natCast_zero, Int.reduceToNat, y102_3, f0, f1, zP_n, zP_k4, zP_k5, zP_k3, zP_k6, zP_k10, zP_k14, zP_k32, zg_mn, zt1]
set_option maxRecDepth 4000 in
theorem y102_4 :
  (∀ (ls : zL) (st : zS) (h : zH), zx 102 36 ls st h = zgo 102 (zpure (.aload_n 0) 37 0 [] ls st h)) ∧
  (∀ (ls : zL) (st : zS) (h : zH), zx 102 37 ls st h = zgo 102 (zpure (.bipush 12) 39 0 [] ls st h)) ∧
  (∀ (ls : zL) (st : zS) (h : zH), zx 102 39 ls st h = zgo 102 (zpure (.newarray .int) 41 0 [] ls st h)) ∧
  (∀ (ls : zL) (st : zS) (h : zH), zx 102 41 ls st h = zgo 102 (zpure (.putfield 22) 44 0 [6, 4, 7] ls st h)) :=
  ⟨zx_0 rfl, zx_0 rfl, zx_0 rfl, zx_0 rfl⟩
set_option maxRecDepth 20000 in
theorem s102_4 {L : Nat} {xs : Nat → Int32} : zx 102 36 [some (.ref 32)] [] (zP L xs 37 35) = zx 102 44 [some (.ref 32)] [] (zP L xs 38 36) := by
  have f0 : znew (zP L xs 37 35) 20 12 (fun _ => .int 0) = zP L xs 38 35 := zP_new (by decide) (by decide +kernel) (by decide +kernel) (fun i => rfl) trivial (by decide +kernel)
  have f1 : zput (zP L xs 38 35) 32 4 (.ref 37) = zP L xs 38 36 := zP_put (by decide) (by decide) (by decide +kernel) (by decide +kernel)
  simp (disch := omega) only [zentry, zs0, zs1, zs2, zs3, zg_lo, zg_st, zg_st2, zg_ald, zg_ast, zs_ia, zs_i0, zg_ii, zi_max, zi_min, zi_abi, zi_abf, zi_fb, zi_bf, lget, lst, lst2, lc2, Option.map_some, zso, if_true, if_false, zc1, and_true, true_and, and_self, List.length_nil, List.length_cons, Nat.zero_le, reduceIte, reduceCtorEq, false_and, and_false, Bool.false_eq_true, zca_some, zr0, zr100, Option.bind_some, zb_none, zb_some, zrc, or_true, true_or, eq_self, ne_eq, not_true_eq_false, not_false_eq_true, zrt_i, zrt_zb, zrt_b, zrt_c, zrt_l, zrt_f, zrt_r, zrt_n, zrt_v, zft_0, zft_1, zft_zb, zft_3, zft_4, zft_5, zft_7r, zft_7n, iI_t, zb_i, zb_0, zb_1, Nat.reduceAdd, Nat.reduceLeDiff, Nat.reduceEqDiff, Nat.reduceSub, Int.reduceNeg, iI_add, iI_sub, iI_mul, iI_neg, zbz, zchar_id, zin, if_pos, if_neg, Int.toNat_natCast, Int.natCast_zero, Int.reduceToNat, y102_4, f0, f1, zP_n, zP_k4, zP_k5, zP_k3, zP_k6, zP_k10, zP_k14, zP_k32, zg_mn, zt1]
set_option maxRecDepth 4000 in
theorem y102_5 :
  (∀ (ls : zL) (st : zS) (h : zH), zx 102 44 ls st h = zgo 102 (zpure (.aload_n 0) 45 0 [] ls st h)) ∧
  (∀ (ls : zL) (st : zS) (h : zH), zx 102 45 ls st h = zgo 102 (zpure (.bipush 12) 47 0 [] ls st h)) ∧
  (∀ (ls : zL) (st : zS) (h : zH), zx 102 47 ls st h = zgo 102 (zpure (.newarray .boolean) 49 0 [] ls st h)) ∧
  (∀ (ls : zL) (st : zS) (h : zH), zx 102 49 ls st h = zgo 102 (zpure (.putfield 25) 52 0 [6, 5, 7] ls st h)) :=
  ⟨zx_0 rfl, zx_0 rfl, zx_0 rfl, zx_0 rfl⟩
set_option maxRecDepth 20000 in
theorem s102_5 {L : Nat} {xs : Nat → Int32} : zx 102 44 [some (.ref 32)] [] (zP L xs 38 36) = zx 102 52 [some (.ref 32)] [] (zP L xs 39 37) := by
  have f0 : znew (zP L xs 38 36) 23 12 (fun _ => .int 0) = zP L xs 39 36 := zP_new (by decide) (by decide +kernel) (by decide +kernel) (fun i => rfl) trivial (by decide +kernel)
  have f1 : zput (zP L xs 39 36) 32 5 (.ref 38) = zP L xs 39 37 := zP_put (by decide) (by decide) (by decide +kernel) (by decide +kernel)
  simp (disch := omega) only [zentry, zs0, zs1, zs2, zs3, zg_lo, zg_st, zg_st2, zg_ald, zg_ast, zs_ia, zs_i0, zg_ii, zi_max, zi_min, zi_abi, zi_abf, zi_fb, zi_bf, lget, lst, lst2, lc2, Option.map_some, zso, if_true, if_false, zc1, and_true, true_and, and_self, List.length_nil, List.length_cons, Nat.zero_le, reduceIte, reduceCtorEq, false_and, and_false, Bool.false_eq_true, zca_some, zr0, zr100, Option.bind_some, zb_none, zb_some, zrc, or_true, true_or, eq_self, ne_eq, not_true_eq_false, not_false_eq_true, zrt_i, zrt_zb, zrt_b, zrt_c, zrt_l, zrt_f, zrt_r, zrt_n, zrt_v, zft_0, zft_1, zft_zb, zft_3, zft_4, zft_5, zft_7r, zft_7n, iI_t, zb_i, zb_0, zb_1, Nat.reduceAdd, Nat.reduceLeDiff, Nat.reduceEqDiff, Nat.reduceSub, Int.reduceNeg, iI_add, iI_sub, iI_mul, iI_neg, zbz, zchar_id, zin, if_pos, if_neg, Int.toNat_natCast, Int.natCast_zero, Int.reduceToNat, y102_5, f0, f1, zP_n, zP_k4, zP_k5, zP_k3, zP_k6, zP_k10, zP_k14, zP_k32, zg_mn, zt1]
set_option maxRecDepth 4000 in
theorem y102_6 :
  (∀ (ls : zL) (st : zS) (h : zH), zx 102 52 ls st h = zgo 102 (zpure (.aload_n 0) 53 0 [] ls st h)) ∧
  (∀ (ls : zL) (st : zS) (h : zH), zx 102 53 ls st h = zgo 102 (zpure (.bipush 12) 55 0 [] ls st h)) ∧
  (∀ (ls : zL) (st : zS) (h : zH), zx 102 55 ls st h = zgo 102 (zpure (.newarray .long) 57 0 [] ls st h)) ∧
  (∀ (ls : zL) (st : zS) (h : zH), zx 102 57 ls st h = zgo 102 (zpure (.putfield 29) 60 0 [6, 6, 7] ls st h)) :=
  ⟨zx_0 rfl, zx_0 rfl, zx_0 rfl, zx_0 rfl⟩
set_option maxRecDepth 20000 in
theorem s102_6 {L : Nat} {xs : Nat → Int32} : zx 102 52 [some (.ref 32)] [] (zP L xs 39 37) = zx 102 60 [some (.ref 32)] [] (zP L xs 40 38) := by
  have f0 : znew (zP L xs 39 37) 24 12 (fun _ => .long 0) = zP L xs 40 37 := zP_new (by decide) (by decide +kernel) (by decide +kernel) (fun i => rfl) trivial (by decide +kernel)
  have f1 : zput (zP L xs 40 37) 32 6 (.ref 39) = zP L xs 40 38 := zP_put (by decide) (by decide) (by decide +kernel) (by decide +kernel)
  simp (disch := omega) only [zentry, zs0, zs1, zs2, zs3, zg_lo, zg_st, zg_st2, zg_ald, zg_ast, zs_ia, zs_i0, zg_ii, zi_max, zi_min, zi_abi, zi_abf, zi_fb, zi_bf, lget, lst, lst2, lc2, Option.map_some, zso, if_true, if_false, zc1, and_true, true_and, and_self, List.length_nil, List.length_cons, Nat.zero_le, reduceIte, reduceCtorEq, false_and, and_false, Bool.false_eq_true, zca_some, zr0, zr100, Option.bind_some, zb_none, zb_some, zrc, or_true, true_or, eq_self, ne_eq, not_true_eq_false, not_false_eq_true, zrt_i, zrt_zb, zrt_b, zrt_c, zrt_l, zrt_f, zrt_r, zrt_n, zrt_v, zft_0, zft_1, zft_zb, zft_3, zft_4, zft_5, zft_7r, zft_7n, iI_t, zb_i, zb_0, zb_1, Nat.reduceAdd, Nat.reduceLeDiff, Nat.reduceEqDiff, Nat.reduceSub, Int.reduceNeg, iI_add, iI_sub, iI_mul, iI_neg, zbz, zchar_id, zin, if_pos, if_neg, Int.toNat_natCast, Int.natCast_zero, Int.reduceToNat, y102_6, f0, f1, zP_n, zP_k4, zP_k5, zP_k3, zP_k6, zP_k10, zP_k14, zP_k32, zg_mn, zt1]
set_option maxRecDepth 4000 in
theorem y102_7 :
  (∀ (ls : zL) (st : zS) (h : zH), zx 102 60 ls st h = zgo 102 (zpure (.aload_n 0) 61 0 [] ls st h)) ∧
  (∀ (ls : zL) (st : zS) (h : zH), zx 102 61 ls st h = zgo 102 (zpure (.bipush 12) 63 0 [] ls st h)) ∧
  (∀ (ls : zL) (st : zS) (h : zH), zx 102 63 ls st h = zgo 102 (zpure (.newarray .int) 65 0 [] ls st h)) ∧
  (∀ (ls : zL) (st : zS) (h : zH), zx 102 65 ls st h = zgo 102 (zpure (.putfield 33) 68 0 [6, 9, 7] ls st h)) :=
  ⟨zx_0 rfl, zx_0 rfl, zx_0 rfl, zx_0 rfl⟩
set_option maxRecDepth 20000 in
theorem s102_7 {L : Nat} {xs : Nat → Int32} : zx 102 60 [some (.ref 32)] [] (zP L xs 40 38) = zx 102 68 [some (.ref 32)] [] (zP L xs 41 39) := by
  have f0 : znew (zP L xs 40 38) 20 12 (fun _ => .int 0) = zP L xs 41 38 := zP_new (by decide) (by decide +kernel) (by decide +kernel) (fun i => rfl) trivial (by decide +kernel)
  have f1 : zput (zP L xs 41 38) 32 9 (.ref 40) = zP L xs 41 39 := zP_put (by decide) (by decide) (by decide +kernel) (by decide +kernel)
  simp (disch := omega) only [zentry, zs0, zs1, zs2, zs3, zg_lo, zg_st, zg_st2, zg_ald, zg_ast, zs_ia, zs_i0, zg_ii, zi_max, zi_min, zi_abi, zi_abf, zi_fb, zi_bf, lget, lst, lst2, lc2, Option.map_some, zso, if_true, if_false, zc1, and_true, true_and, and_self, List.length_nil, List.length_cons, Nat.zero_le, reduceIte, reduceCtorEq, false_and, and_false, Bool.false_eq_true, zca_some, zr0, zr100, Option.bind_some, zb_none, zb_some, zrc, or_true, true_or, eq_self, ne_eq, not_true_eq_false, not_false_eq_true, zrt_i, zrt_zb, zrt_b, zrt_c, zrt_l, zrt_f, zrt_r, zrt_n, zrt_v, zft_0, zft_1, zft_zb, zft_3, zft_4, zft_5, zft_7r, zft_7n, iI_t, zb_i, zb_0, zb_1, Nat.reduceAdd, Nat.reduceLeDiff, Nat.reduceEqDiff, Nat.reduceSub, Int.reduceNeg, iI_add, iI_sub, iI_mul, iI_neg, zbz, zchar_id, zin, if_pos, if_neg, Int.toNat_natCast, Int.natCast_zero, Int.reduceToNat, y102_7, f0, f1, zP_n, zP_k4, zP_k5, zP_k3, zP_k6, zP_k10, zP_k14, zP_k32, zg_mn, zt1]
set_option maxRecDepth 4000 in
theorem y102_8 :
  (∀ (ls : zL) (st : zS) (h : zH), zx 102 68 ls st h = zgo 102 (zpure (.aload_n 0) 69 0 [] ls st h)) ∧
  (∀ (ls : zL) (st : zS) (h : zH), zx 102 69 ls st h = zgo 102 (zpure (.bipush 12) 71 0 [] ls st h)) ∧
  (∀ (ls : zL) (st : zS) (h : zH), zx 102 71 ls st h = zgo 102 (zpure (.newarray .int) 73 0 [] ls st h)) ∧
  (∀ (ls : zL) (st : zS) (h : zH), zx 102 73 ls st h = zgo 102 (zpure (.putfield 36) 76 0 [6, 10, 7] ls st h)) :=
  ⟨zx_0 rfl, zx_0 rfl, zx_0 rfl, zx_0 rfl⟩
set_option maxRecDepth 20000 in
theorem s102_8 {L : Nat} {xs : Nat → Int32} : zx 102 68 [some (.ref 32)] [] (zP L xs 41 39) = zx 102 76 [some (.ref 32)] [] (zP L xs 42 40) := by
  have f0 : znew (zP L xs 41 39) 20 12 (fun _ => .int 0) = zP L xs 42 39 := zP_new (by decide) (by decide +kernel) (by decide +kernel) (fun i => rfl) trivial (by decide +kernel)
  have f1 : zput (zP L xs 42 39) 32 10 (.ref 41) = zP L xs 42 40 := zP_put (by decide) (by decide) (by decide +kernel) (by decide +kernel)
  simp (disch := omega) only [zentry, zs0, zs1, zs2, zs3, zg_lo, zg_st, zg_st2, zg_ald, zg_ast, zs_ia, zs_i0, zg_ii, zi_max, zi_min, zi_abi, zi_abf, zi_fb, zi_bf, lget, lst, lst2, lc2, Option.map_some, zso, if_true, if_false, zc1, and_true, true_and, and_self, List.length_nil, List.length_cons, Nat.zero_le, reduceIte, reduceCtorEq, false_and, and_false, Bool.false_eq_true, zca_some, zr0, zr100, Option.bind_some, zb_none, zb_some, zrc, or_true, true_or, eq_self, ne_eq, not_true_eq_false, not_false_eq_true, zrt_i, zrt_zb, zrt_b, zrt_c, zrt_l, zrt_f, zrt_r, zrt_n, zrt_v, zft_0, zft_1, zft_zb, zft_3, zft_4, zft_5, zft_7r, zft_7n, iI_t, zb_i, zb_0, zb_1, Nat.reduceAdd, Nat.reduceLeDiff, Nat.reduceEqDiff, Nat.reduceSub, Int.reduceNeg, iI_add, iI_sub, iI_mul, iI_neg, zbz, zchar_id, zin, if_pos, if_neg, Int.toNat_natCast, Int.natCast_zero, Int.reduceToNat, y102_8, f0, f1, zP_n, zP_k4, zP_k5, zP_k3, zP_k6, zP_k10, zP_k14, zP_k32, zg_mn, zt1]
set_option maxRecDepth 4000 in
theorem y102_9 :
  (∀ (ls : zL) (st : zS) (h : zH), zx 102 76 ls st h = zgo 102 (zpure (.aload_n 0) 77 0 [] ls st h)) ∧
  (∀ (ls : zL) (st : zS) (h : zH), zx 102 77 ls st h = zgo 102 (zpure (.bipush 12) 79 0 [] ls st h)) ∧
  (∀ (ls : zL) (st : zS) (h : zH), zx 102 79 ls st h = zgo 102 (zpure (.newarray .int) 81 0 [] ls st h)) ∧
  (∀ (ls : zL) (st : zS) (h : zH), zx 102 81 ls st h = zgo 102 (zpure (.putfield 39) 84 0 [6, 11, 7] ls st h)) :=
  ⟨zx_0 rfl, zx_0 rfl, zx_0 rfl, zx_0 rfl⟩
set_option maxRecDepth 20000 in
theorem s102_9 {L : Nat} {xs : Nat → Int32} : zx 102 76 [some (.ref 32)] [] (zP L xs 42 40) = zx 102 84 [some (.ref 32)] [] (zP L xs 43 41) := by
  have f0 : znew (zP L xs 42 40) 20 12 (fun _ => .int 0) = zP L xs 43 40 := zP_new (by decide) (by decide +kernel) (by decide +kernel) (fun i => rfl) trivial (by decide +kernel)
  have f1 : zput (zP L xs 43 40) 32 11 (.ref 42) = zP L xs 43 41 := zP_put (by decide) (by decide) (by decide +kernel) (by decide +kernel)
  simp (disch := omega) only [zentry, zs0, zs1, zs2, zs3, zg_lo, zg_st, zg_st2, zg_ald, zg_ast, zs_ia, zs_i0, zg_ii, zi_max, zi_min, zi_abi, zi_abf, zi_fb, zi_bf, lget, lst, lst2, lc2, Option.map_some, zso, if_true, if_false, zc1, and_true, true_and, and_self, List.length_nil, List.length_cons, Nat.zero_le, reduceIte, reduceCtorEq, false_and, and_false, Bool.false_eq_true, zca_some, zr0, zr100, Option.bind_some, zb_none, zb_some, zrc, or_true, true_or, eq_self, ne_eq, not_true_eq_false, not_false_eq_true, zrt_i, zrt_zb, zrt_b, zrt_c, zrt_l, zrt_f, zrt_r, zrt_n, zrt_v, zft_0, zft_1, zft_zb, zft_3, zft_4, zft_5, zft_7r, zft_7n, iI_t, zb_i, zb_0, zb_1, Nat.reduceAdd, Nat.reduceLeDiff, Nat.reduceEqDiff, Nat.reduceSub, Int.reduceNeg, iI_add, iI_sub, iI_mul, iI_neg, zbz, zchar_id, zin, if_pos, if_neg, Int.toNat_natCast, Int.natCast_zero, Int.reduceToNat, y102_9, f0, f1, zP_n, zP_k4, zP_k5, zP_k3, zP_k6, zP_k10, zP_k14, zP_k32, zg_mn, zt1]
set_option maxRecDepth 4000 in
theorem y102_10 :
  (∀ (ls : zL) (st : zS) (h : zH), zx 102 84 ls st h = zgo 102 (zpure (.aload_n 0) 85 0 [] ls st h)) ∧
  (∀ (ls : zL) (st : zS) (h : zH), zx 102 85 ls st h = zgo 102 (zpure (.bipush 12) 87 0 [] ls st h)) ∧
  (∀ (ls : zL) (st : zS) (h : zH), zx 102 87 ls st h = zgo 102 (zpure (.newarray .char) 89 0 [] ls st h)) ∧
  (∀ (ls : zL) (st : zS) (h : zH), zx 102 89 ls st h = zgo 102 (zpure (.putfield 42) 92 0 [6, 12, 7] ls st h)) :=
  ⟨zx_0 rfl, zx_0 rfl, zx_0 rfl, zx_0 rfl⟩
set_option maxRecDepth 20000 in
theorem s102_10 {L : Nat} {xs : Nat → Int32} : zx 102 84 [some (.ref 32)] [] (zP L xs 43 41) = zx 102 92 [some (.ref 32)] [] (zP L xs 44 42) := by
  have f0 : znew (zP L xs 43 41) 22 12 (fun _ => .int 0) = zP L xs 44 41 := zP_new (by decide) (by decide +kernel) (by decide +kernel) (fun i => rfl) trivial (by decide +kernel)
  have f1 : zput (zP L xs 44 41) 32 12 (.ref 43) = zP L xs 44 42 := zP_put (by decide) (by decide) (by decide +kernel) (by decide +kernel)
  simp (disch := omega) only [zentry, zs0, zs1, zs2, zs3, zg_lo, zg_st, zg_st2, zg_ald, zg_ast, zs_ia, zs_i0, zg_ii, zi_max, zi_min, zi_abi, zi_abf, zi_fb, zi_bf, lget, lst, lst2, lc2, Option.map_some, zso, if_true, if_false, zc1, and_true, true_and, and_self, List.length_nil, List.length_cons, Nat.zero_le, reduceIte, reduceCtorEq, false_and, and_false, Bool.false_eq_true, zca_some, zr0, zr100, Option.bind_some, zb_none, zb_some, zrc, or_true, true_or, eq_self, ne_eq, not_true_eq_false, not_false_eq_true, zrt_i, zrt_zb, zrt_b, zrt_c, zrt_l, zrt_f, zrt_r, zrt_n, zrt_v, zft_0, zft_1, zft_zb, zft_3, zft_4, zft_5, zft_7r, zft_7n, iI_t, zb_i, zb_0, zb_1, Nat.reduceAdd, Nat.reduceLeDiff, Nat.reduceEqDiff, Nat.reduceSub, Int.reduceNeg, iI_add, iI_sub, iI_mul, iI_neg, zbz, zchar_id, zin, if_pos, if_neg, Int.toNat_natCast, Int.natCast_zero, Int.reduceToNat, y102_10, f0, f1, zP_n, zP_k4, zP_k5, zP_k3, zP_k6, zP_k10, zP_k14, zP_k32, zg_mn, zt1]
set_option maxRecDepth 4000 in
theorem y102_11 :
  (∀ (ls : zL) (st : zS) (h : zH), zx 102 92 ls st h = zgo 102 (zpure (.aload_n 0) 93 0 [] ls st h)) ∧
  (∀ (ls : zL) (st : zS) (h : zH), zx 102 93 ls st h = zgo 102 (zpure (.bipush 12) 95 0 [] ls st h)) ∧
  (∀ (ls : zL) (st : zS) (h : zH), zx 102 95 ls st h = zgo 102 (zpure (.bipush 9) 97 0 [] ls st h)) ∧
  (∀ (ls : zL) (st : zS) (h : zH), zx 102 97 ls st h = zgo 102 (zpure (.multianewarray 46 2) 101 0 [28, 20] ls st h)) ∧
  (∀ (ls : zL) (st : zS) (h : zH), zx 102 101 ls st h = zgo 102 (zpure (.putfield 48) 104 0 [6, 13, 7] ls st h)) :=
  ⟨zx_0 rfl, zx_0 rfl, zx_0 rfl, zx_0 rfl, zx_0 rfl⟩
set_option maxRecDepth 20000 in
theorem s102_11 {L : Nat} {xs : Nat → Int32} : zx 102 92 [some (.ref 32)] [] (zP L xs 44 42) = zx 102 104 [some (.ref 32)] [] (zP L xs 57 43) := by
  have f0 : znews (znew (zP L xs 44 42) 28 12 (fun i => if i < 12 then .ref ((45 + i : Nat)) else .null)) 20 9 (.int 0) 12 = zP L xs 57 42 := zP_ns44 (by decide +kernel)
  have f1 : zput (zP L xs 57 42) 32 13 (.ref 44) = zP L xs 57 43 := zP_put (by decide) (by decide) (by decide +kernel) (by decide +kernel)
  simp (disch := omega) only [zentry, zs0, zs1, zs2, zs3, zg_lo, zg_st, zg_st2, zg_ald, zg_ast, zs_ia, zs_i0, zg_ii, zi_max, zi_min, zi_abi, zi_abf, zi_fb, zi_bf, lget, lst, lst2, lc2, Option.map_some, zso, if_true, if_false, zc1, and_true, true_and, and_self, List.length_nil, List.length_cons, Nat.zero_le, reduceIte, reduceCtorEq, false_and, and_false, Bool.false_eq_true, zca_some, zr0, zr100, Option.bind_some, zb_none, zb_some, zrc, or_true, true_or, eq_self, ne_eq, not_true_eq_false, not_false_eq_true, zrt_i, zrt_zb, zrt_b, zrt_c, zrt_l, zrt_f, zrt_r, zrt_n, zrt_v, zft_0, zft_1, zft_zb, zft_3, zft_4, zft_5, zft_7r, zft_7n, iI_t, zb_i, zb_0, zb_1, Nat.reduceAdd, Nat.reduceLeDiff, Nat.reduceEqDiff, Nat.reduceSub, Int.reduceNeg, iI_add, iI_sub, iI_mul, iI_neg, zbz, zchar_id, zin, if_pos, if_neg, Int.toNat_natCast, Int.natCast_zero, Int.reduceToNat, y102_11, f0, f1, zP_n, zP_k4, zP_k5, zP_k3, zP_k6, zP_k10, zP_k14, zP_k32, zg_mn, zt1]
set_option maxRecDepth 4000 in
theorem y102_12 :
  (∀ (ls : zL) (st : zS) (h : zH), zx 102 104 ls st h = zgo 102 (zpure (.aload_n 0) 105 0 [] ls st h)) ∧
  (∀ (ls : zL) (st : zS) (h : zH), zx 102 105 ls st h = zgo 102 (zpure (.bipush 12) 107 0 [] ls st h)) ∧
  (∀ (ls : zL) (st : zS) (h : zH), zx 102 107 ls st h = zgo 102 (zpure (.newarray .int) 109 0 [] ls st h)) ∧
  (∀ (ls : zL) (st : zS) (h : zH), zx 102 109 ls st h = zgo 102 (zpure (.putfield 51) 112 0 [6, 14, 7] ls st h)) :=
  ⟨zx_0 rfl, zx_0 rfl, zx_0 rfl, zx_0 rfl⟩
set_option maxRecDepth 20000 in
theorem s102_12 {L : Nat} {xs : Nat → Int32} : zx 102 104 [some (.ref 32)] [] (zP L xs 57 43) = zx 102 112 [some (.ref 32)] [] (zP L xs 58 44) := by
  have f0 : znew (zP L xs 57 43) 20 12 (fun _ => .int 0) = zP L xs 58 43 := zP_new (by decide) (by decide +kernel) (by decide +kernel) (fun i => rfl) trivial (by decide +kernel)
  have f1 : zput (zP L xs 58 43) 32 14 (.ref 57) = zP L xs 58 44 := zP_put (by decide) (by decide) (by decide +kernel) (by decide +kernel)
  simp (disch := omega) only [zentry, zs0, zs1, zs2, zs3, zg_lo, zg_st, zg_st2, zg_ald, zg_ast, zs_ia, zs_i0, zg_ii, zi_max, zi_min, zi_abi, zi_abf, zi_fb, zi_bf, lget, lst, lst2, lc2, Option.map_some, zso, if_true, if_false, zc1, and_true, true_and, and_self, List.length_nil, List.length_cons, Nat.zero_le, reduceIte, reduceCtorEq, false_and, and_false, Bool.false_eq_true, zca_some, zr0, zr100, Option.bind_some, zb_none, zb_some, zrc, or_true, true_or, eq_self, ne_eq, not_true_eq_false, not_false_eq_true, zrt_i, zrt_zb, zrt_b, zrt_c, zrt_l, zrt_f, zrt_r, zrt_n, zrt_v, zft_0, zft_1, zft_zb, zft_3, zft_4, zft_5, zft_7r, zft_7n, iI_t, zb_i, zb_0, zb_1, Nat.reduceAdd, Nat.reduceLeDiff, Nat.reduceEqDiff, Nat.reduceSub, Int.reduceNeg, iI_add, iI_sub, iI_mul, iI_neg, zbz, zchar_id, zin, if_pos, if_neg, Int.toNat_natCast, Int.natCast_zero, Int.reduceToNat, y102_12, f0, f1, zP_n, zP_k4, zP_k5, zP_k3, zP_k6, zP_k10, zP_k14, zP_k32, zg_mn, zt1]
set_option maxRecDepth 4000 in
theorem y102_13 :
  (∀ (ls : zL) (st : zS) (h : zH), zx 102 112 ls st h = zgo 102 (zpure (.aload_n 0) 113 0 [] ls st h)) ∧
  (∀ (ls : zL) (st : zS) (h : zH), zx 102 113 ls st h = zgo 102 (zpure (.sipush 128) 116 0 [] ls st h)) ∧
  (∀ (ls : zL) (st : zS) (h : zH), zx 102 116 ls st h = zgo 102 (zpure (.newarray .int) 118 0 [] ls st h)) ∧
  (∀ (ls : zL) (st : zS) (h : zH), zx 102 118 ls st h = zgo 102 (zpure (.putfield 54) 121 0 [6, 17, 7] ls st h)) :=
  ⟨zx_0 rfl, zx_0 rfl, zx_0 rfl, zx_0 rfl⟩
set_option maxRecDepth 20000 in
theorem s102_13 {L : Nat} {xs : Nat → Int32} : zx 102 112 [some (.ref 32)] [] (zP L xs 58 44) = zx 102 121 [some (.ref 32)] [] (zP L xs 59 45) := by
  have f0 : znew (zP L xs 58 44) 20 128 (fun _ => .int 0) = zP L xs 59 44 := zP_new (by decide) (by decide +kernel) (by decide +kernel) (fun i => rfl) trivial (by decide +kernel)
  have f1 : zput (zP L xs 59 44) 32 17 (.ref 58) = zP L xs 59 45 := zP_put (by decide) (by decide) (by decide +kernel) (by decide +kernel)
  simp (disch := omega) only [zentry, zs0, zs1, zs2, zs3, zg_lo, zg_st, zg_st2, zg_ald, zg_ast, zs_ia, zs_i0, zg_ii, zi_max, zi_min, zi_abi, zi_abf, zi_fb, zi_bf, lget, lst, lst2, lc2, Option.map_some, zso, if_true, if_false, zc1, and_true, true_and, and_self, List.length_nil, List.length_cons, Nat.zero_le, reduceIte, reduceCtorEq, false_and, and_false, Bool.false_eq_true, zca_some, zr0, zr100, Option.bind_some, zb_none, zb_some, zrc, or_true, true_or, eq_self, ne_eq, not_true_eq_false, not_false_eq_true, zrt_i, zrt_zb, zrt_b, zrt_c, zrt_l, zrt_f, zrt_r, zrt_n, zrt_v, zft_0, zft_1, zft_zb, zft_3, zft_4, zft_5, zft_7r, zft_7n, iI_t, zb_i, zb_0, zb_1, Nat.reduceAdd, Nat.reduceLeDiff, Nat.reduceEqDiff, Nat.reduceSub, Int.reduceNeg, iI_add, iI_sub, iI_mul, iI_neg, zbz, zchar_id, zin, if_pos, if_neg, Int.toNat_natCast, Int.natCast_zero, Int.reduceToNat, y102_13, f0, f1, zP_n, zP_k4, zP_k5, zP_k3, zP_k6, zP_k10, zP_k14, zP_k32, zg_mn, zt1]
set_option maxRecDepth 4000 in
theorem y102_14 :
  (∀ (ls : zL) (st : zS) (h : zH), zx 102 121 ls st h = zgo 102 (zpure (.aload_n 0) 122 0 [] ls st h)) ∧
  (∀ (ls : zL) (st : zS) (h : zH), zx 102 122 ls st h = zgo 102 (zpure (.sipush 128) 125 0 [] ls st h)) ∧
  (∀ (ls : zL) (st : zS) (h : zH), zx 102 125 ls st h = zgo 102 (zpure (.newarray .int) 127 0 [] ls st h)) ∧
  (∀ (ls : zL) (st : zS) (h : zH), zx 102 127 ls st h = zgo 102 (zpure (.putfield 57) 130 0 [6, 18, 7] ls st h)) :=
  ⟨zx_0 rfl, zx_0 rfl, zx_0 rfl, zx_0 rfl⟩
set_option maxRecDepth 20000 in
theorem s102_14 {L : Nat} {xs : Nat → Int32} : zx 102 121 [some (.ref 32)] [] (zP L xs 59 45) = zx 102 130 [some (.ref 32)] [] (zP L xs 60 46) := by
  have f0 : znew (zP L xs 59 45) 20 128 (fun _ => .int 0) = zP L xs 60 45 := zP_new (by decide) (by decide +kernel) (by decide +kernel) (fun i => rfl) trivial (by decide +kernel)
  have f1 : zput (zP L xs 60 45) 32 18 (.ref 59) = zP L xs 60 46 := zP_put (by decide) (by decide) (by decide +kernel) (by decide +kernel)
  simp (disch := omega) only [zentry, zs0, zs1, zs2, zs3, zg_lo, zg_st, zg_st2, zg_ald, zg_ast, zs_ia, zs_i0, zg_ii, zi_max, zi_min, zi_abi, zi_abf, zi_fb, zi_bf, lget, lst, lst2, lc2, Option.map_some, zso, if_true, if_false, zc1, and_true, true_and, and_self, List.length_nil, List.length_cons, Nat.zero_le, reduceIte, reduceCtorEq, false_and, and_false, Bool.false_eq_true, zca_some, zr0, zr100, Option.bind_some, zb_none, zb_some, zrc, or_true, true_or, eq_self, ne_eq, not_true_eq_false, not_false_eq_true, zrt_i, zrt_zb, zrt_b, zrt_c, zrt_l, zrt_f, zrt_r, zrt_n, zrt_v, zft_0, zft_1, zft_zb, zft_3, zft_4, zft_5, zft_7r, zft_7n, iI_t, zb_i, zb_0, zb_1, Nat.reduceAdd, Nat.reduceLeDiff, Nat.reduceEqDiff, Nat.reduceSub, Int.reduceNeg, iI_add, iI_sub, iI_mul, iI_neg, zbz, zchar_id, zin, if_pos, if_neg, Int.toNat_natCast, Int.natCast_zero, Int.reduceToNat, y102_14, f0, f1, zP_n, zP_k4, zP_k5, zP_k3, zP_k6, zP_k10, zP_k14, zP_k32, zg_mn, zt1]
set_option maxRecDepth 4000 in
theorem y102_15 :
  (∀ (ls : zL) (st : zS) (h : zH), zx 102 130 ls st h = zgo 102 (zpure (.aload_n 0) 131 0 [] ls st h)) ∧
  (∀ (ls : zL) (st : zS) (h : zH), zx 102 131 ls st h = zgo 102 (zpure (.sipush 128) 134 0 [] ls st h)) ∧
  (∀ (ls : zL) (st : zS) (h : zH), zx 102 134 ls st h = zgo 102 (zpure (.newarray .int) 136 0 [] ls st h)) ∧
  (∀ (ls : zL) (st : zS) (h : zH), zx 102 136 ls st h = zgo 102 (zpure (.putfield 60) 139 0 [6, 19, 7] ls st h)) :=
  ⟨zx_0 rfl, zx_0 rfl, zx_0 rfl, zx_0 rfl⟩
set_option maxRecDepth 20000 in
theorem s102_15 {L : Nat} {xs : Nat → Int32} : zx 102 130 [some (.ref 32)] [] (zP L xs 60 46) = zx 102 139 [some (.ref 32)] [] (zP L xs 61 47) := by
  have f0 : znew (zP L xs 60 46) 20 128 (fun _ => .int 0) = zP L xs 61 46 := zP_new (by decide) (by decide +kernel) (by decide +kernel) (fun i => rfl) trivial (by decide +kernel)
  have f1 : zput (zP L xs 61 46) 32 19 (.ref 60) = zP L xs 61 47 := zP_put (by decide) (by decide) (by decide +kernel) (by decide +kernel)
  simp (disch := omega) only [zentry, zs0, zs1, zs2, zs3, zg_lo, zg_st, zg_st2, zg_ald, zg_ast, zs_ia, zs_i0, zg_ii, zi_max, zi_min, zi_abi, zi_abf, zi_fb, zi_bf, lget, lst, lst2, lc2, Option.map_some, zso, if_true, if_false, zc1, and_true, true_and, and_self, List.length_nil, List.length_cons, Nat.zero_le, reduceIte, reduceCtorEq, false_and, and_false, Bool.false_eq_true, zca_some, zr0, zr100, Option.bind_some, zb_none, zb_some, zrc, or_true, true_or, eq_self, ne_eq, not_true_eq_false, not_false_eq_true, zrt_i, zrt_zb, zrt_b, zrt_c, zrt_l, zrt_f, zrt_r, zrt_n, zrt_v, zft_0, zft_1, zft_zb, zft_3, zft_4, zft_5, zft_7r, zft_7n, iI_t, zb_i, zb_0, zb_1, Nat.reduceAdd, Nat.reduceLeDiff, Nat.reduceEqDiff, Nat.reduceSub, Int.reduceNeg, iI_add, iI_sub, iI_mul, iI_neg, zbz, zchar_id, zin, if_pos, if_neg, Int.toNat_natCast, Int.natCast_zero, Int.reduceToNat, y102_15, f0, f1, zP_n, zP_k4, zP_k5, zP_k3, zP_k6, zP_k10, zP_k14, zP_k32, zg_mn, zt1]
set_option maxRecDepth 4000 in
theorem y102_16 :
  (∀ (ls : zL) (st : zS) (h : zH), zx 102 139 ls st h = zgo 102 (zpure (.aload_n 0) 140 0 [] ls st h)) ∧
  (∀ (ls : zL) (st : zS) (h : zH), zx 102 140 ls st h = zgo 102 (zpure (.sipush 128) 143 0 [] ls st h)) ∧
  (∀ (ls : zL) (st : zS) (h : zH), zx 102 143 ls st h = zgo 102 (zpure (.newarray .int) 145 0 [] ls st h)) ∧
  (∀ (ls : zL) (st : zS) (h : zH), zx 102 145 ls st h = zgo 102 (zpure (.putfield 63) 148 0 [6, 20, 7] ls st h)) :=
  ⟨zx_0 rfl, zx_0 rfl, zx_0 rfl, zx_0 rfl⟩
set_option maxRecDepth 20000 in
theorem s102_16 {L : Nat} {xs : Nat → Int32} : zx 102 139 [some (.ref 32)] [] (zP L xs 61 47) = zx 102 148 [some (.ref 32)] [] (zP L xs 62 48) := by
  have f0 : znew (zP L xs 61 47) 20 128 (fun _ => .int 0) = zP L xs 62 47 := zP_new (by decide) (by decide +kernel) (by decide +kernel) (fun i => rfl) trivial (by decide +kernel)
  have f1 : zput (zP L xs 62 47) 32 20 (.ref 61) = zP L xs 62 48 := zP_put (by decide) (by decide) (by decide +kernel) (by decide +kernel)
  simp (disch := omega) only [zentry, zs0, zs1, zs2, zs3, zg_lo, zg_st, zg_st2, zg_ald, zg_ast, zs_ia, zs_i0, zg_ii, zi_max, zi_min, zi_abi, zi_abf, zi_fb, zi_bf, lget, lst, lst2, lc2, Option.map_some, zso, if_true, if_false, zc1, and_true, true_and, and_self, List.length_nil, List.length_cons, Nat.zero_le, reduceIte, reduceCtorEq, false_and, and_false, Bool.false_eq_true, zca_some, zr0, zr100, Option.bind_some, zb_none, zb_some, zrc, or_true, true_or, eq_self, ne_eq, not_true_eq_false, not_false_eq_true, zrt_i, zrt_zb, zrt_b, zrt_c, zrt_l, zrt_f, zrt_r, zrt_n, zrt_v, zft_0, zft_1, zft_zb, zft_3, zft_4, zft_5, zft_7r, zft_7n, iI_t, zb_i, zb_0, zb_1, Nat.reduceAdd, Nat.reduceLeDiff, Nat.reduceEqDiff, Nat.reduceSub, Int.reduceNeg, iI_add, iI_sub, iI_mul, iI_neg, zbz, zchar_id, zin, if_pos, if_neg, Int.toNat_natCast, Int.natCast_zero, Int.reduceToNat, y102_16, f0, f1, zP_n, zP_k4, zP_k5, zP_k3, zP_k6, zP_k10, zP_k14, zP_k32, zg_mn, zt1]
set_option maxRecDepth 4000 in
theorem y102_17 :
  (∀ (ls : zL) (st : zS) (h : zH), zx 102 148 ls st h = zgo 102 (zpure (.aload_n 0) 149 0 [] ls st h)) ∧
  (∀ (ls : zL) (st : zS) (h : zH), zx 102 149 ls st h = zgo 102 (zpure (.bipush 12) 151 0 [] ls st h)) ∧
  (∀ (ls : zL) (st : zS) (h : zH), zx 102 151 ls st h = zgo 102 (zpure (.newarray .boolean) 153 0 [] ls st h)) ∧
  (∀ (ls : zL) (st : zS) (h : zH), zx 102 153 ls st h = zgo 102 (zpure (.putfield 66) 156 0 [6, 22, 7] ls st h)) :=
  ⟨zx_0 rfl, zx_0 rfl, zx_0 rfl, zx_0 rfl⟩
set_option maxRecDepth 20000 in
theorem s102_17 {L : Nat} {xs : Nat → Int32} : zx 102 148 [some (.ref 32)] [] (zP L xs 62 48) = zx 102 156 [some (.ref 32)] [] (zP L xs 63 49) := by
  have f0 : znew (zP L xs 62 48) 23 12 (fun _ => .int 0) = zP L xs 63 48 := zP_new (by decide) (by decide +kernel) (by decide +kernel) (fun i => rfl) trivial (by decide +kernel)
  have f1 : zput (zP L xs 63 48) 32 22 (.ref 62) = zP L xs 63 49 := zP_put (by decide) (by decide) (by decide +kernel) (by decide +kernel)
  simp (disch := omega) only [zentry, zs0, zs1, zs2, zs3, zg_lo, zg_st, zg_st2, zg_ald, zg_ast, zs_ia, zs_i0, zg_ii, zi_max, zi_min, zi_abi, zi_abf, zi_fb, zi_bf, lget, lst, lst2, lc2, Option.map_some, zso, if_true, if_false, zc1, and_true, true_and, and_self, List.length_nil, List.length_cons, Nat.zero_le, reduceIte, reduceCtorEq, false_and, and_false, Bool.false_eq_true, zca_some, zr0, zr100, Option.bind_some, zb_none, zb_some, zrc, or_true, true_or, eq_self, ne_eq, not_true_eq_false, not_false_eq_true, zrt_i, zrt_zb, zrt_b, zrt_c, zrt_l, zrt_f, zrt_r, zrt_n, zrt_v, zft_0, zft_1, zft_zb, zft_3, zft_4, zft_5, zft_7r, zft_7n, iI_t, zb_i, zb_0, zb_1, Nat.reduceAdd, Nat.reduceLeDiff, Nat.reduceEqDiff, Nat.reduceSub, Int.reduceNeg, iI_add, iI_sub, iI_mul, iI_neg, zbz, zchar_id, zin, if_pos, if_neg, Int.toNat_natCast, Int.natCast_zero, Int.reduceToNat, y102_17, f0, f1, zP_n, zP_k4, zP_k5, zP_k3, zP_k6, zP_k10, zP_k14, zP_k32, zg_mn, zt1]
set_option maxRecDepth 4000 in
theorem y102_18 :
  (∀ (ls : zL) (st : zS) (h : zH), zx 102 156 ls st h = zgo 102 (zpure (.aload_n 0) 157 0 [] ls st h)) ∧
  (∀ (ls : zL) (st : zS) (h : zH), zx 102 157 ls st h = zgo 102 (zpure (.bipush 12) 159 0 [] ls st h)) ∧
  (∀ (ls : zL) (st : zS) (h : zH), zx 102 159 ls st h = zgo 102 (zpure (.newarray .boolean) 161 0 [] ls st h)) ∧
  (∀ (ls : zL) (st : zS) (h : zH), zx 102 161 ls st h = zgo 102 (zpure (.putfield 69) 164 0 [6, 23, 7] ls st h)) :=
  ⟨zx_0 rfl, zx_0 rfl, zx_0 rfl, zx_0 rfl⟩
set_option maxRecDepth 20000 in
theorem s102_18 {L : Nat} {xs : Nat → Int32} : zx 102 156 [some (.ref 32)] [] (zP L xs 63 49) = zx 102 164 [some (.ref 32)] [] (zP L xs 64 50) := by
  have f0 : znew (zP L xs 63 49) 23 12 (fun _ => .int 0) = zP L xs 64 49 := zP_new (by decide) (by decide +kernel) (by decide +kernel) (fun i => rfl) trivial (by decide +kernel)
  have f1 : zput (zP L xs 64 49) 32 23 (.ref 63) = zP L xs 64 50 := zP_put (by decide) (by decide) (by decide +kernel) (by decide +kernel)
  simp (disch := omega) only [zentry, zs0, zs1, zs2, zs3, zg_lo, zg_st, zg_st2, zg_ald, zg_ast, zs_ia, zs_i0, zg_ii, zi_max, zi_min, zi_abi, zi_abf, zi_fb, zi_bf, lget, lst, lst2, lc2, Option.map_some, zso, if_true, if_false, zc1, and_true, true_and, and_self, List.length_nil, List.length_cons, Nat.zero_le, reduceIte, reduceCtorEq, false_and, and_false, Bool.false_eq_true, zca_some, zr0, zr100, Option.bind_some, zb_none, zb_some, zrc, or_true, true_or, eq_self, ne_eq, not_true_eq_false, not_false_eq_true, zrt_i, zrt_zb, zrt_b, zrt_c, zrt_l, zrt_f, zrt_r, zrt_n, zrt_v, zft_0, zft_1, zft_zb, zft_3, zft_4, zft_5, zft_7r, zft_7n, iI_t, zb_i, zb_0, zb_1, Nat.reduceAdd, Nat.reduceLeDiff, Nat.reduceEqDiff, Nat.reduceSub, Int.reduceNeg, iI_add, iI_sub, iI_mul, iI_neg, zbz, zchar_id, zin, if_pos, if_neg, Int.toNat_natCast, Int.natCast_zero, Int.reduceToNat, y102_18, f0, f1, zP_n, zP_k4, zP_k5, zP_k3, zP_k6, zP_k10, zP_k14, zP_k32, zg_mn, zt1]
set_option maxRecDepth 4000 in
theorem y102_19 :
  (∀ (ls : zL) (st : zS) (h : zH), zx 102 164 ls st h = zgo 102 (zpure (.aload_n 0) 165 0 [] ls st h)) ∧
  (∀ (ls : zL) (st : zS) (h : zH), zx 102 165 ls st h = zgo 102 (zpure (.bipush 12) 167 0 [] ls st h)) ∧
  (∀ (ls : zL) (st : zS) (h : zH), zx 102 167 ls st h = zgo 102 (zpure (.newarray .boolean) 169 0 [] ls st h)) ∧
  (∀ (ls : zL) (st : zS) (h : zH), zx 102 169 ls st h = zgo 102 (zpure (.putfield 72) 172 0 [6, 24, 7] ls st h)) :=
  ⟨zx_0 rfl, zx_0 rfl, zx_0 rfl, zx_0 rfl⟩
set_option maxRecDepth 20000 in
theorem s102_19 {L : Nat} {xs : Nat → Int32} : zx 102 164 [some (.ref 32)] [] (zP L xs 64 50) = zx 102 172 [some (.ref 32)] [] (zP L xs 65 51) := by
  have f0 : znew (zP L xs 64 50) 23 12 (fun _ => .int 0) = zP L xs 65 50 := zP_new (by decide) (by decide +kernel) (by decide +kernel) (fun i => rfl) trivial (by decide +kernel)
  have f1 : zput (zP L xs 65 50) 32 24 (.ref 64) = zP L xs 65 51 := zP_put (by decide) (by decide) (by decide +kernel) (by decide +kernel)
  simp (disch := omega) only [zentry, zs0, zs1, zs2, zs3, zg_lo, zg_st, zg_st2, zg_ald, zg_ast, zs_ia, zs_i0, zg_ii, zi_max, zi_min, zi_abi, zi_abf, zi_fb, zi_bf, lget, lst, lst2, lc2, Option.map_some, zso, if_true, if_false, zc1, and_true, true_and, and_self, List.length_nil, List.length_cons, Nat.zero_le, reduceIte, reduceCtorEq, false_and, and_false, Bool.false_eq_true, zca_some, zr0, zr100, Option.bind_some, zb_none, zb_some, zrc, or_true, true_or, eq_self, ne_eq, not_true_eq_false, not_false_eq_true, zrt_i, zrt_zb, zrt_b, zrt_c, zrt_l, zrt_f, zrt_r, zrt_n, zrt_v, zft_0, zft_1, zft_zb, zft_3, zft_4, zft_5, zft_7r, zft_7n, iI_t, zb_i, zb_0, zb_1, Nat.reduceAdd, Nat.reduceLeDiff, Nat.reduceEqDiff, Nat.reduceSub, Int.reduceNeg, iI_add, iI_sub, iI_mul, iI_neg, zbz, zchar_id, zin, if_pos, if_neg, Int.toNat_natCast, Int.natCast_zero, Int.reduceToNat, y102_19, f0, f1, zP_n, zP_k4, zP_k5, zP_k3, zP_k6, zP_k10, zP_k14, zP_k32, zg_mn, zt1]
set_option maxRecDepth 4000 in
theorem y102_20 :
  (∀ (ls : zL) (st : zS) (h : zH), zx 102 172 ls st h = zgo 102 (zpure (.aload_n 0) 173 0 [] ls st h)) ∧
  (∀ (ls : zL) (st : zS) (h : zH), zx 102 173 ls st h = zgo 102 (zpure (.bipush 12) 175 0 [] ls st h)) ∧
  (∀ (ls : zL) (st : zS) (h : zH), zx 102 175 ls st h = zgo 102 (zpure (.newarray .int) 177 0 [] ls st h)) ∧
  (∀ (ls : zL) (st : zS) (h : zH), zx 102 177 ls st h = zgo 102 (zpure (.putfield 75) 180 0 [6, 25, 7] ls st h)) :=
  ⟨zx_0 rfl, zx_0 rfl, zx_0 rfl, zx_0 rfl⟩
set_option maxRecDepth 20000 in
theorem s102_20 {L : Nat} {xs : Nat → Int32} : zx 102 172 [some (.ref 32)] [] (zP L xs 65 51) = zx 102 180 [some (.ref 32)] [] (zP L xs 66 52) := by
  have f0 : znew (zP L xs 65 51) 20 12 (fun _ => .int 0) = zP L xs 66 51 := zP_new (by decide) (by decide +kernel) (by decide +kernel) (fun i => rfl) trivial (by decide +kernel)
  have f1 : zput (zP L xs 66 51) 32 25 (.ref 65) = zP L xs 66 52 := zP_put (by decide) (by decide) (by decide +kernel) (by decide +kernel)
  simp (disch := omega) only [zentry, zs0, zs1, zs2, zs3, zg_lo, zg_st, zg_st2, zg_ald, zg_ast, zs_ia, zs_i0, zg_ii, zi_max, zi_min, zi_abi, zi_abf, zi_fb, zi_bf, lget, lst, lst2, lc2, Option.map_some, zso, if_true, if_false, zc1, and_true, true_and, and_self, List.length_nil, List.length_cons, Nat.zero_le, reduceIte, reduceCtorEq, false_and, and_false, Bool.false_eq_true, zca_some, zr0, zr100, Option.bind_some, zb_none, zb_some, zrc, or_true, true_or, eq_self, ne_eq, not_true_eq_false, not_false_eq_true, zrt_i, zrt_zb, zrt_b, zrt_c, zrt_l, zrt_f, zrt_r, zrt_n, zrt_v, zft_0, zft_1, zft_zb, zft_3, zft_4, zft_5, zft_7r, zft_7n, iI_t, zb_i, zb_0, zb_1, Nat.reduceAdd, Nat.reduceLeDiff, Nat.reduceEqDiff, Nat.reduceSub, Int.reduceNeg, iI_add, iI_sub, iI_mul, iI_neg, zbz, zchar_id, zin, if_pos, if_neg, Int.toNat_natCast, Int.natCast_zero, Int.reduceToNat, y102_20, f0, f1, zP_n, zP_k4, zP_k5, zP_k3, zP_k6, zP_k10, zP_k14, zP_k32, zg_mn, zt1]
set_option maxRecDepth 4000 in
theorem y102_21 :
  (∀ (ls : zL) (st : zS) (h : zH), zx 102 180 ls st h = zgo 102 (zpure (.aload_n 0) 181 0 [] ls st h)) ∧
  (∀ (ls : zL) (st : zS) (h : zH), zx 102 181 ls st h = zgo 102 (zpure (.sipush 128) 184 0 [] ls st h)) ∧
  (∀ (ls : zL) (st : zS) (h : zH), zx 102 184 ls st h = zgo 102 (zpure (.newarray .int) 186 0 [] ls st h)) ∧
  (∀ (ls : zL) (st : zS) (h : zH), zx 102 186 ls st h = zgo 102 (zpure (.putfield 78) 189 0 [6, 28, 7] ls st h)) :=
  ⟨zx_0 rfl, zx_0 rfl, zx_0 rfl, zx_0 rfl⟩
set_option maxRecDepth 20000 in
theorem s102_21 {L : Nat} {xs : Nat → Int32} : zx 102 180 [some (.ref 32)] [] (zP L xs 66 52) = zx 102 189 [some (.ref 32)] [] (zP L xs 67 53) := by
  have f0 : znew (zP L xs 66 52) 20 128 (fun _ => .int 0) = zP L xs 67 52 := zP_new (by decide) (by decide +kernel) (by decide +kernel) (fun i => rfl) trivial (by decide +kernel)
  have f1 : zput (zP L xs 67 52) 32 28 (.ref 66) = zP L xs 67 53 := zP_put (by decide) (by decide) (by decide +kernel) (by decide +kernel)
  simp (disch := omega) only [zentry, zs0, zs1, zs2, zs3, zg_lo, zg_st, zg_st2, zg_ald, zg_ast, zs_ia, zs_i0, zg_ii, zi_max, zi_min, zi_abi, zi_abf, zi_fb, zi_bf, lget, lst, lst2, lc2, Option.map_some, zso, if_true, if_false, zc1, and_true, true_and, and_self, List.length_nil, List.length_cons, Nat.zero_le, reduceIte, reduceCtorEq, false_and, and_false, Bool.false_eq_true, zca_some, zr0, zr100, Option.bind_some, zb_none, zb_some, zrc, or_true, true_or, eq_self, ne_eq, not_true_eq_false, not_false_eq_true, zrt_i, zrt_zb, zrt_b, zrt_c, zrt_l, zrt_f, zrt_r, zrt_n, zrt_v, zft_0, zft_1, zft_zb, zft_3, zft_4, zft_5, zft_7r, zft_7n, iI_t, zb_i, zb_0, zb_1, Nat.reduceAdd, Nat.reduceLeDiff, Nat.reduceEqDiff, Nat.reduceSub, Int.reduceNeg, iI_add, iI_sub, iI_mul, iI_neg, zbz, zchar_id, zin, if_pos, if_neg, Int.toNat_natCast, Int.natCast_zero, Int.reduceToNat, y102_21, f0, f1, zP_n, zP_k4, zP_k5, zP_k3, zP_k6, zP_k10, zP_k14, zP_k32, zg_mn, zt1]
set_option maxRecDepth 4000 in
theorem y102_22 :
  (∀ (ls : zL) (st : zS) (h : zH), zx 102 189 ls st h = zgo 102 (zpure (.aload_n 0) 190 0 [] ls st h)) ∧
  (∀ (ls : zL) (st : zS) (h : zH), zx 102 190 ls st h = zgo 102 (zpure (.sipush 128) 193 0 [] ls st h)) ∧
  (∀ (ls : zL) (st : zS) (h : zH), zx 102 193 ls st h = zgo 102 (zpure (.newarray .int) 195 0 [] ls st h)) ∧
  (∀ (ls : zL) (st : zS) (h : zH), zx 102 195 ls st h = zgo 102 (zpure (.putfield 81) 198 0 [6, 29, 7] ls st h)) :=
  ⟨zx_0 rfl, zx_0 rfl, zx_0 rfl, zx_0 rfl⟩
set_option maxRecDepth 20000 in
theorem s102_22 {L : Nat} {xs : Nat → Int32} : zx 102 189 [some (.ref 32)] [] (zP L xs 67 53) = zx 102 198 [some (.ref 32)] [] (zP L xs 68 54) := by
  have f0 : znew (zP L xs 67 53) 20 128 (fun _ => .int 0) = zP L xs 68 53 := zP_new (by decide) (by decide +kernel) (by decide +kernel) (fun i => rfl) trivial (by decide +kernel)
  have f1 : zput (zP L xs 68 53) 32 29 (.ref 67) = zP L xs 68 54 := zP_put (by decide) (by decide) (by decide +kernel) (by decide +kernel)
  simp (disch := omega) only [zentry, zs0, zs1, zs2, zs3, zg_lo, zg_st, zg_st2, zg_ald, zg_ast, zs_ia, zs_i0, zg_ii, zi_max, zi_min, zi_abi, zi_abf, zi_fb, zi_bf, lget, lst, lst2, lc2, Option.map_some, zso, if_true, if_false, zc1, and_true, true_and, and_self, List.length_nil, List.length_cons, Nat.zero_le, reduceIte, reduceCtorEq, false_and, and_false, Bool.false_eq_true, zca_some, zr0, zr100, Option.bind_some, zb_none, zb_some, zrc, or_true, true_or, eq_self, ne_eq, not_true_eq_false, not_false_eq_true, zrt_i, zrt_zb, zrt_b, zrt_c, zrt_l, zrt_f, zrt_r, zrt_n, zrt_v, zft_0, zft_1, zft_zb, zft_3, zft_4, zft_5, zft_7r, zft_7n, iI_t, zb_i, zb_0, zb_1, Nat.reduceAdd, Nat.reduceLeDiff, Nat.reduceEqDiff, Nat.reduceSub, Int.reduceNeg, iI_add, iI_sub, iI_mul, iI_neg, zbz, zchar_id, zin, if_pos, if_neg, Int.toNat_natCast, Int.natCast_zero, Int.reduceToNat, y102_22, f0, f1, zP_n, zP_k4, zP_k5, zP_k3, zP_k6, zP_k10, zP_k14, zP_k32, zg_mn, zt1]
theorem y102_23 : ∀ (ls : zL) (st : zS) (h : zH), zx 102 198 ls st h = zret 8 st h := zx_1 rfl
theorem k102 {L : Nat} {xs : Nat → Int32} : zc 102 1 [.ref 32] (zP L xs 33 31) = some (.inl none, zP L xs 68 54) := by
  have e : zc 102 1 [.ref 32] (zP L xs 33 31) = zx 102 0 [some (.ref 32)] [] (zP L xs 33 31) := rfl
  rw [e, s102_0, s102_1, s102_2, s102_3, s102_4, s102_5, s102_6, s102_7, s102_8, s102_9, s102_10, s102_11, s102_12, s102_13, s102_14, s102_15, s102_16, s102_17, s102_18, s102_19, s102_20, s102_21, s102_22, y102_23]
  rfl

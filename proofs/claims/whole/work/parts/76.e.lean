/-! the law, case by case (a program has written them) -/
set_option maxRecDepth 4000 in
theorem y219_18a :
  (∀ (ls : zL) (st : zS) (h : zH), zx 219 1322 ls st h = zgo 219 (zpure (.aload_n 1) 1323 0 [] ls st h)) ∧
  (∀ (ls : zL) (st : zS) (h : zH), zx 219 1323 ls st h = zgo 219 (zpure (.aload_n 0) 1324 0 [] ls st h)) ∧
  (∀ (ls : zL) (st : zS) (h : zH), zx 219 1324 ls st h = zgo 219 (zpure (.iload 5) 1326 0 [] ls st h)) ∧
  (∀ (ls : zL) (st : zS) (h : zH), zx 219 1326 ls st h = zgo 219 (zpure (.iconst 1) 1327 0 [] ls st h)) ∧
  (∀ (ls : zL) (st : zS) (h : zH), zx 219 1327 ls st h = zgo 219 (zpure .iadd 1328 0 [] ls st h)) ∧
  (∀ (ls : zL) (st : zS) (h : zH), zx 219 1328 ls st h = zgo 219 (zpure .iaload 1329 0 [] ls st h)) ∧
  (∀ (ls : zL) (st : zS) (h : zH), zx 219 1329 ls st h = zgo 219 (zpure (.aload_n 3) 1330 0 [] ls st h)) ∧
  (∀ (ls : zL) (st : zS) (h : zH), zx 219 1330 ls st h = zca 219 1330 1333 ls 204 4 0 (ztake 3 st) h) ∧
  (∀ (ls : zL) (st : zS) (h : zH), zx 219 1333 ls st h = zgo 219 (zpure (.istore 6) 1335 0 [] ls st h)) :=
  ⟨zx_0 rfl, zx_0 rfl, zx_0 rfl, zx_0 rfl, zx_0 rfl, zx_0 rfl, zx_0 rfl, zx_2c rfl, zx_0 rfl⟩
set_option maxRecDepth 4000 in
theorem y219_18b :
  (∀ (ls : zL) (st : zS) (h : zH), zx 219 1335 ls st h = zgo 219 (zpure (.aload_n 2) 1336 0 [] ls st h)) ∧
  (∀ (ls : zL) (st : zS) (h : zH), zx 219 1336 ls st h = zgo 219 (zpure (.aload_n 0) 1337 0 [] ls st h)) ∧
  (∀ (ls : zL) (st : zS) (h : zH), zx 219 1337 ls st h = zgo 219 (zpure (.iload 5) 1339 0 [] ls st h)) ∧
  (∀ (ls : zL) (st : zS) (h : zH), zx 219 1339 ls st h = zgo 219 (zpure (.iconst 1) 1340 0 [] ls st h)) ∧
  (∀ (ls : zL) (st : zS) (h : zH), zx 219 1340 ls st h = zgo 219 (zpure .iadd 1341 0 [] ls st h)) ∧
  (∀ (ls : zL) (st : zS) (h : zH), zx 219 1341 ls st h = zgo 219 (zpure .iaload 1342 0 [] ls st h)) ∧
  (∀ (ls : zL) (st : zS) (h : zH), zx 219 1342 ls st h = zca 219 1342 1345 ls 149 2 7 (ztake 2 st) h) ∧
  (∀ (ls : zL) (st : zS) (h : zH), zx 219 1345 ls st h = zgo 219 (zpure (.istore 7) 1347 0 [] ls st h)) :=
  ⟨zx_0 rfl, zx_0 rfl, zx_0 rfl, zx_0 rfl, zx_0 rfl, zx_0 rfl, zx_2c rfl, zx_0 rfl⟩
set_option maxRecDepth 4000 in
theorem y219_18c :
  (∀ (ls : zL) (st : zS) (h : zH), zx 219 1347 ls st h = zgo 219 (zpure (.aload_n 2) 1348 0 [] ls st h)) ∧
  (∀ (ls : zL) (st : zS) (h : zH), zx 219 1348 ls st h = zca 219 1348 1351 ls 103 1 7 (ztake 1 st) h) ∧
  (∀ (ls : zL) (st : zS) (h : zH), zx 219 1351 ls st h = zgo 219 (zpure (.iload 6) 1353 0 [] ls st h)) ∧
  (∀ (ls : zL) (st : zS) (h : zH), zx 219 1353 ls st h = zgo 219 (zpure (.if_icmp .eq 5) 1356 1358 [] ls st h)) ∧
  (∀ (ls : zL) (st : zS) (h : zH), zx 219 1356 ls st h = zgo 219 (zpure (.iconst 0) 1357 0 [] ls st h)) ∧
  (∀ (ls : zL) (st : zS) (h : zH), zx 219 1357 ls st h = zret 1 st h) ∧
  (∀ (ls : zL) (st : zS) (h : zH), zx 219 1358 ls st h = zgo 219 (zpure (.iload 6) 1360 0 [] ls st h)) ∧
  (∀ (ls : zL) (st : zS) (h : zH), zx 219 1360 ls st h = zgo 219 (zpure (.ifCond .ne 15) 1363 1375 [] ls st h)) ∧
  (∀ (ls : zL) (st : zS) (h : zH), zx 219 1363 ls st h = zgo 219 (zpure (.aload_n 3) 1364 0 [] ls st h)) ∧
  (∀ (ls : zL) (st : zS) (h : zH), zx 219 1364 ls st h = zgo 219 (zpure (.iconst 0) 1365 0 [] ls st h)) ∧
  (∀ (ls : zL) (st : zS) (h : zH), zx 219 1365 ls st h = zgo 219 (zpure .laload 1366 0 [] ls st h)) ∧
  (∀ (ls : zL) (st : zS) (h : zH), zx 219 1366 ls st h = zgo 219 (zpure (.iload 7) 1368 0 [] ls st h)) ∧
  (∀ (ls : zL) (st : zS) (h : zH), zx 219 1368 ls st h = zgo 219 (zpure .i2l 1369 0 [] ls st h)) ∧
  (∀ (ls : zL) (st : zS) (h : zH), zx 219 1369 ls st h = zgo 219 (zpure .lcmp 1370 0 [] ls st h)) ∧
  (∀ (ls : zL) (st : zS) (h : zH), zx 219 1370 ls st h = zgo 219 (zpure (.ifCond .eq 5) 1373 1375 [] ls st h)) ∧
  (∀ (ls : zL) (st : zS) (h : zH), zx 219 1373 ls st h = zgo 219 (zpure (.iconst 0) 1374 0 [] ls st h)) ∧
  (∀ (ls : zL) (st : zS) (h : zH), zx 219 1374 ls st h = zret 1 st h) ∧
  (∀ (ls : zL) (st : zS) (h : zH), zx 219 1375 ls st h = zgo 219 (zpure (.goto 893) 1378 2268 [] ls st h)) :=
  ⟨zx_0 rfl, zx_2c rfl, zx_0 rfl, zx_0 rfl, zx_0 rfl, zx_1 rfl, zx_0 rfl, zx_0 rfl, zx_0 rfl, zx_0 rfl, zx_0 rfl, zx_0 rfl, zx_0 rfl, zx_0 rfl, zx_0 rfl, zx_0 rfl, zx_1 rfl, zx_0 rfl⟩
set_option maxRecDepth 20000 in
theorem lA_18 {L : Nat} {xs : Nat → Int32} {H H1 : zH} {k I : Int} {x6 x7 x8 : Option Value} (hl : zl H 0 = L) (hm : ∀ n, n < L → zm H 0 n = .int (Int32.ofInt (xs n).toInt)) (hI : 0 ≤ I ∧ I + 6 ≤ (L : Int) ∧ (L : Int) ≤ 3072) (e : zc 204 4 [.ref 3, .int (Int32.ofInt (xs (I + 1).toNat).toInt), .ref 68] H = some (.inl (some (.int (Int32.ofInt k))), H1)) : zx 219 1322 [some (.ref 0), some (.ref 3), some (.ref 32), some (.ref 68), some (.ref 69), some (.int (Int32.ofInt I)), x6, x7, x8] [] H = zx 219 1335 [some (.ref 0), some (.ref 3), some (.ref 32), some (.ref 68), some (.ref 69), some (.int (Int32.ofInt I)), some (.int (Int32.ofInt k)), x7, x8] [] H1 := by
  simp (disch := omega) only [zentry, zs0, zs1, zs2, zs3, zg_lo, zg_st, zg_st2, zg_ald, zg_ast, zs_ia, zs_i0, zg_ii, zi_max, zi_min, zi_abi, zi_abf, zi_fb, zi_bf, lget, lst, lst2, lc2, Option.map_some, zso, if_true, if_false, zc1, and_true, true_and, and_self, List.length_nil, List.length_cons, Nat.zero_le, reduceIte, reduceCtorEq, false_and, and_false, Bool.false_eq_true, zca_some, zr0, zr100, Option.bind_some, zb_none, zb_some, zrc, or_true, true_or, eq_self, ne_eq, not_true_eq_false, not_false_eq_true, zrt_i, zrt_zb, zrt_b, zrt_c, zrt_l, zrt_f, zrt_r, zrt_n, zrt_v, zft_0, zft_1, zft_zb, zft_3, zft_4, zft_5, zft_7r, zft_7n, iI_t, zb_i, zb_0, zb_1, Nat.reduceAdd, Nat.reduceLeDiff, Nat.reduceEqDiff, Nat.reduceSub, Int.reduceNeg, iI_add, iI_sub, iI_mul, iI_neg, zbz, zin, if_pos, if_neg, Int.toNat_natCast, Int.natCast_zero, Int.reduceToNat, zt1, zt2, zt3, zt4, zt5, zt6, zt7, zt8, y219_18a, hl, hm, e]
set_option maxRecDepth 20000 in
theorem lB_18 {L : Nat} {xs : Nat → Int32} {H1 H2 : zH} {k I : Int} {x7 x8 : Option Value} {b : Int} (hl : zl H1 0 = L) (hm : ∀ n, n < L → zm H1 0 n = .int (Int32.ofInt (xs n).toInt)) (h32 : zk H1 32 = 6) (hI : 0 ≤ I ∧ I + 6 ≤ (L : Int) ∧ (L : Int) ≤ 3072) (e : zc 149 2 [.ref 32, .int (Int32.ofInt (xs (I + 1).toNat).toInt)] H1 = some (.inl (some (.int (Int32.ofInt b))), H2)) : zx 219 1335 [some (.ref 0), some (.ref 3), some (.ref 32), some (.ref 68), some (.ref 69), some (.int (Int32.ofInt I)), some (.int (Int32.ofInt k)), x7, x8] [] H1 = zx 219 1347 [some (.ref 0), some (.ref 3), some (.ref 32), some (.ref 68), some (.ref 69), some (.int (Int32.ofInt I)), some (.int (Int32.ofInt k)), some (.int (Int32.ofInt b)), x8] [] H2 := by
  simp (disch := omega) only [zentry, zs0, zs1, zs2, zs3, zg_lo, zg_st, zg_st2, zg_ald, zg_ast, zs_ia, zs_i0, zg_ii, zi_max, zi_min, zi_abi, zi_abf, zi_fb, zi_bf, lget, lst, lst2, lc2, Option.map_some, zso, if_true, if_false, zc1, and_true, true_and, and_self, List.length_nil, List.length_cons, Nat.zero_le, reduceIte, reduceCtorEq, false_and, and_false, Bool.false_eq_true, zca_some, zr0, zr100, Option.bind_some, zb_none, zb_some, zrc, or_true, true_or, eq_self, ne_eq, not_true_eq_false, not_false_eq_true, zrt_i, zrt_zb, zrt_b, zrt_c, zrt_l, zrt_f, zrt_r, zrt_n, zrt_v, zft_0, zft_1, zft_zb, zft_3, zft_4, zft_5, zft_7r, zft_7n, iI_t, zb_i, zb_0, zb_1, Nat.reduceAdd, Nat.reduceLeDiff, Nat.reduceEqDiff, Nat.reduceSub, Int.reduceNeg, iI_add, iI_sub, iI_mul, iI_neg, zbz, zin, if_pos, if_neg, Int.toNat_natCast, Int.natCast_zero, Int.reduceToNat, zt1, zt2, zt3, zt4, zt5, zt6, zt7, zt8, y219_18b, hl, hm, h32, e]
set_option maxRecDepth 20000 in
theorem lC_18 {H2 : zH} {k I : Int} {x8 : Option Value} {b v : Int} (h32 : zk H2 32 = 6) (e : zc 103 1 [.ref 32] H2 = some (.inl (some (.int (Int32.ofInt k))), H2)) (rk : iR k) (rb : iR b) (k68 : zk H2 68 = 24) (l68 : zl H2 68 = 1) (m68 : zm H2 68 0 = .long (Int64.ofInt v)) (hv : k = 0 → v = b) : zx 219 1347 [some (.ref 0), some (.ref 3), some (.ref 32), some (.ref 68), some (.ref 69), some (.int (Int32.ofInt I)), some (.int (Int32.ofInt k)), some (.int (Int32.ofInt b)), x8] [] H2 = zx 219 2268 [some (.ref 0), some (.ref 3), some (.ref 32), some (.ref 68), some (.ref 69), some (.int (Int32.ofInt I)), some (.int (Int32.ofInt k)), some (.int (Int32.ofInt b)), x8] [] H2 := by
  by_cases g : k = 0
  · subst g
    have hb : v = b := hv rfl
    simp (disch := omega) only [zentry, zs0, zs1, zs2, zs3, zg_lo, zg_st, zg_st2, zg_ald, zg_ast, zs_ia, zs_i0, zg_ii, zi_max, zi_min, zi_abi, zi_abf, zi_fb, zi_bf, lget, lst, lst2, lc2, Option.map_some, zso, if_true, if_false, zc1, and_true, true_and, and_self, List.length_nil, List.length_cons, Nat.zero_le, reduceIte, reduceCtorEq, false_and, and_false, Bool.false_eq_true, zca_some, zr0, zr100, Option.bind_some, zb_none, zb_some, zrc, or_true, true_or, eq_self, ne_eq, not_true_eq_false, not_false_eq_true, zrt_i, zrt_zb, zrt_b, zrt_c, zrt_l, zrt_f, zrt_r, zrt_n, zrt_v, zft_0, zft_1, zft_zb, zft_3, zft_4, zft_5, zft_7r, zft_7n, iI_t, zb_i, zb_0, zb_1, Nat.reduceAdd, Nat.reduceLeDiff, Nat.reduceEqDiff, Nat.reduceSub, Int.reduceNeg, iI_add, iI_sub, iI_mul, iI_neg, zbz, zin, if_pos, if_neg, Int.toNat_natCast, Int.natCast_zero, Int.reduceToNat, zt1, zt2, zt3, zt4, zt5, zt6, zt7, zt8, y219_18c, h32, e, k68, l68, m68, hb, zl_ii, lw_l1]
  · simp (disch := omega) only [zentry, zs0, zs1, zs2, zs3, zg_lo, zg_st, zg_st2, zg_ald, zg_ast, zs_ia, zs_i0, zg_ii, zi_max, zi_min, zi_abi, zi_abf, zi_fb, zi_bf, lget, lst, lst2, lc2, Option.map_some, zso, if_true, if_false, zc1, and_true, true_and, and_self, List.length_nil, List.length_cons, Nat.zero_le, reduceIte, reduceCtorEq, false_and, and_false, Bool.false_eq_true, zca_some, zr0, zr100, Option.bind_some, zb_none, zb_some, zrc, or_true, true_or, eq_self, ne_eq, not_true_eq_false, not_false_eq_true, zrt_i, zrt_zb, zrt_b, zrt_c, zrt_l, zrt_f, zrt_r, zrt_n, zrt_v, zft_0, zft_1, zft_zb, zft_3, zft_4, zft_5, zft_7r, zft_7n, iI_t, zb_i, zb_0, zb_1, Nat.reduceAdd, Nat.reduceLeDiff, Nat.reduceEqDiff, Nat.reduceSub, Int.reduceNeg, iI_add, iI_sub, iI_mul, iI_neg, zbz, zin, if_pos, if_neg, Int.toNat_natCast, Int.natCast_zero, Int.reduceToNat, zt1, zt2, zt3, zt4, zt5, zt6, zt7, zt8, y219_18c, h32, e, g]
set_option maxRecDepth 4000 in
theorem y219_19a :
  (∀ (ls : zL) (st : zS) (h : zH), zx 219 1378 ls st h = zgo 219 (zpure (.aload_n 1) 1379 0 [] ls st h)) ∧
  (∀ (ls : zL) (st : zS) (h : zH), zx 219 1379 ls st h = zgo 219 (zpure (.aload_n 0) 1380 0 [] ls st h)) ∧
  (∀ (ls : zL) (st : zS) (h : zH), zx 219 1380 ls st h = zgo 219 (zpure (.iload 5) 1382 0 [] ls st h)) ∧
  (∀ (ls : zL) (st : zS) (h : zH), zx 219 1382 ls st h = zgo 219 (zpure (.iconst 1) 1383 0 [] ls st h)) ∧
  (∀ (ls : zL) (st : zS) (h : zH), zx 219 1383 ls st h = zgo 219 (zpure .iadd 1384 0 [] ls st h)) ∧
  (∀ (ls : zL) (st : zS) (h : zH), zx 219 1384 ls st h = zgo 219 (zpure .iaload 1385 0 [] ls st h)) ∧
  (∀ (ls : zL) (st : zS) (h : zH), zx 219 1385 ls st h = zgo 219 (zpure (.aload_n 3) 1386 0 [] ls st h)) ∧
  (∀ (ls : zL) (st : zS) (h : zH), zx 219 1386 ls st h = zca 219 1386 1389 ls 205 4 0 (ztake 3 st) h) ∧
  (∀ (ls : zL) (st : zS) (h : zH), zx 219 1389 ls st h = zgo 219 (zpure (.istore 6) 1391 0 [] ls st h)) :=
  ⟨zx_0 rfl, zx_0 rfl, zx_0 rfl, zx_0 rfl, zx_0 rfl, zx_0 rfl, zx_0 rfl, zx_2c rfl, zx_0 rfl⟩
set_option maxRecDepth 4000 in
theorem y219_19b :
  (∀ (ls : zL) (st : zS) (h : zH), zx 219 1391 ls st h = zgo 219 (zpure (.aload_n 2) 1392 0 [] ls st h)) ∧
  (∀ (ls : zL) (st : zS) (h : zH), zx 219 1392 ls st h = zgo 219 (zpure (.aload_n 0) 1393 0 [] ls st h)) ∧
  (∀ (ls : zL) (st : zS) (h : zH), zx 219 1393 ls st h = zgo 219 (zpure (.iload 5) 1395 0 [] ls st h)) ∧
  (∀ (ls : zL) (st : zS) (h : zH), zx 219 1395 ls st h = zgo 219 (zpure (.iconst 1) 1396 0 [] ls st h)) ∧
  (∀ (ls : zL) (st : zS) (h : zH), zx 219 1396 ls st h = zgo 219 (zpure .iadd 1397 0 [] ls st h)) ∧
  (∀ (ls : zL) (st : zS) (h : zH), zx 219 1397 ls st h = zgo 219 (zpure .iaload 1398 0 [] ls st h)) ∧
  (∀ (ls : zL) (st : zS) (h : zH), zx 219 1398 ls st h = zca 219 1398 1401 ls 150 2 7 (ztake 2 st) h) ∧
  (∀ (ls : zL) (st : zS) (h : zH), zx 219 1401 ls st h = zgo 219 (zpure (.istore 7) 1403 0 [] ls st h)) :=
  ⟨zx_0 rfl, zx_0 rfl, zx_0 rfl, zx_0 rfl, zx_0 rfl, zx_0 rfl, zx_2c rfl, zx_0 rfl⟩
set_option maxRecDepth 4000 in
theorem y219_19c :
  (∀ (ls : zL) (st : zS) (h : zH), zx 219 1403 ls st h = zgo 219 (zpure (.aload_n 2) 1404 0 [] ls st h)) ∧
  (∀ (ls : zL) (st : zS) (h : zH), zx 219 1404 ls st h = zca 219 1404 1407 ls 103 1 7 (ztake 1 st) h) ∧
  (∀ (ls : zL) (st : zS) (h : zH), zx 219 1407 ls st h = zgo 219 (zpure (.iload 6) 1409 0 [] ls st h)) ∧
  (∀ (ls : zL) (st : zS) (h : zH), zx 219 1409 ls st h = zgo 219 (zpure (.if_icmp .eq 5) 1412 1414 [] ls st h)) ∧
  (∀ (ls : zL) (st : zS) (h : zH), zx 219 1412 ls st h = zgo 219 (zpure (.iconst 0) 1413 0 [] ls st h)) ∧
  (∀ (ls : zL) (st : zS) (h : zH), zx 219 1413 ls st h = zret 1 st h) ∧
  (∀ (ls : zL) (st : zS) (h : zH), zx 219 1414 ls st h = zgo 219 (zpure (.iload 6) 1416 0 [] ls st h)) ∧
  (∀ (ls : zL) (st : zS) (h : zH), zx 219 1416 ls st h = zgo 219 (zpure (.ifCond .ne 15) 1419 1431 [] ls st h)) ∧
  (∀ (ls : zL) (st : zS) (h : zH), zx 219 1419 ls st h = zgo 219 (zpure (.aload_n 3) 1420 0 [] ls st h)) ∧
  (∀ (ls : zL) (st : zS) (h : zH), zx 219 1420 ls st h = zgo 219 (zpure (.iconst 0) 1421 0 [] ls st h)) ∧
  (∀ (ls : zL) (st : zS) (h : zH), zx 219 1421 ls st h = zgo 219 (zpure .laload 1422 0 [] ls st h)) ∧
  (∀ (ls : zL) (st : zS) (h : zH), zx 219 1422 ls st h = zgo 219 (zpure (.iload 7) 1424 0 [] ls st h)) ∧
  (∀ (ls : zL) (st : zS) (h : zH), zx 219 1424 ls st h = zgo 219 (zpure .i2l 1425 0 [] ls st h)) ∧
  (∀ (ls : zL) (st : zS) (h : zH), zx 219 1425 ls st h = zgo 219 (zpure .lcmp 1426 0 [] ls st h)) ∧
  (∀ (ls : zL) (st : zS) (h : zH), zx 219 1426 ls st h = zgo 219 (zpure (.ifCond .eq 5) 1429 1431 [] ls st h)) ∧
  (∀ (ls : zL) (st : zS) (h : zH), zx 219 1429 ls st h = zgo 219 (zpure (.iconst 0) 1430 0 [] ls st h)) ∧
  (∀ (ls : zL) (st : zS) (h : zH), zx 219 1430 ls st h = zret 1 st h) ∧
  (∀ (ls : zL) (st : zS) (h : zH), zx 219 1431 ls st h = zgo 219 (zpure (.goto 837) 1434 2268 [] ls st h)) :=
  ⟨zx_0 rfl, zx_2c rfl, zx_0 rfl, zx_0 rfl, zx_0 rfl, zx_1 rfl, zx_0 rfl, zx_0 rfl, zx_0 rfl, zx_0 rfl, zx_0 rfl, zx_0 rfl, zx_0 rfl, zx_0 rfl, zx_0 rfl, zx_0 rfl, zx_1 rfl, zx_0 rfl⟩
set_option maxRecDepth 20000 in
theorem lA_19 {L : Nat} {xs : Nat → Int32} {H H1 : zH} {k I : Int} {x6 x7 x8 : Option Value} (hl : zl H 0 = L) (hm : ∀ n, n < L → zm H 0 n = .int (Int32.ofInt (xs n).toInt)) (hI : 0 ≤ I ∧ I + 6 ≤ (L : Int) ∧ (L : Int) ≤ 3072) (e : zc 205 4 [.ref 3, .int (Int32.ofInt (xs (I + 1).toNat).toInt), .ref 68] H = some (.inl (some (.int (Int32.ofInt k))), H1)) : zx 219 1378 [some (.ref 0), some (.ref 3), some (.ref 32), some (.ref 68), some (.ref 69), some (.int (Int32.ofInt I)), x6, x7, x8] [] H = zx 219 1391 [some (.ref 0), some (.ref 3), some (.ref 32), some (.ref 68), some (.ref 69), some (.int (Int32.ofInt I)), some (.int (Int32.ofInt k)), x7, x8] [] H1 := by
  simp (disch := omega) only [zentry, zs0, zs1, zs2, zs3, zg_lo, zg_st, zg_st2, zg_ald, zg_ast, zs_ia, zs_i0, zg_ii, zi_max, zi_min, zi_abi, zi_abf, zi_fb, zi_bf, lget, lst, lst2, lc2, Option.map_some, zso, if_true, if_false, zc1, and_true, true_and, and_self, List.length_nil, List.length_cons, Nat.zero_le, reduceIte, reduceCtorEq, false_and, and_false, Bool.false_eq_true, zca_some, zr0, zr100, Option.bind_some, zb_none, zb_some, zrc, or_true, true_or, eq_self, ne_eq, not_true_eq_false, not_false_eq_true, zrt_i, zrt_zb, zrt_b, zrt_c, zrt_l, zrt_f, zrt_r, zrt_n, zrt_v, zft_0, zft_1, zft_zb, zft_3, zft_4, zft_5, zft_7r, zft_7n, iI_t, zb_i, zb_0, zb_1, Nat.reduceAdd, Nat.reduceLeDiff, Nat.reduceEqDiff, Nat.reduceSub, Int.reduceNeg, iI_add, iI_sub, iI_mul, iI_neg, zbz, zin, if_pos, if_neg, Int.toNat_natCast, Int.natCast_zero, Int.reduceToNat, zt1, zt2, zt3, zt4, zt5, zt6, zt7, zt8, y219_19a, hl, hm, e]
set_option maxRecDepth 20000 in
theorem lB_19 {L : Nat} {xs : Nat → Int32} {H1 H2 : zH} {k I : Int} {x7 x8 : Option Value} {b : Int} (hl : zl H1 0 = L) (hm : ∀ n, n < L → zm H1 0 n = .int (Int32.ofInt (xs n).toInt)) (h32 : zk H1 32 = 6) (hI : 0 ≤ I ∧ I + 6 ≤ (L : Int) ∧ (L : Int) ≤ 3072) (e : zc 150 2 [.ref 32, .int (Int32.ofInt (xs (I + 1).toNat).toInt)] H1 = some (.inl (some (.int (Int32.ofInt b))), H2)) : zx 219 1391 [some (.ref 0), some (.ref 3), some (.ref 32), some (.ref 68), some (.ref 69), some (.int (Int32.ofInt I)), some (.int (Int32.ofInt k)), x7, x8] [] H1 = zx 219 1403 [some (.ref 0), some (.ref 3), some (.ref 32), some (.ref 68), some (.ref 69), some (.int (Int32.ofInt I)), some (.int (Int32.ofInt k)), some (.int (Int32.ofInt b)), x8] [] H2 := by
  simp (disch := omega) only [zentry, zs0, zs1, zs2, zs3, zg_lo, zg_st, zg_st2, zg_ald, zg_ast, zs_ia, zs_i0, zg_ii, zi_max, zi_min, zi_abi, zi_abf, zi_fb, zi_bf, lget, lst, lst2, lc2, Option.map_some, zso, if_true, if_false, zc1, and_true, true_and, and_self, List.length_nil, List.length_cons, Nat.zero_le, reduceIte, reduceCtorEq, false_and, and_false, Bool.false_eq_true, zca_some, zr0, zr100, Option.bind_some, zb_none, zb_some, zrc, or_true, true_or, eq_self, ne_eq, not_true_eq_false, not_false_eq_true, zrt_i, zrt_zb, zrt_b, zrt_c, zrt_l, zrt_f, zrt_r, zrt_n, zrt_v, zft_0, zft_1, zft_zb, zft_3, zft_4, zft_5, zft_7r, zft_7n, iI_t, zb_i, zb_0, zb_1, Nat.reduceAdd, Nat.reduceLeDiff, Nat.reduceEqDiff, Nat.reduceSub, Int.reduceNeg, iI_add, iI_sub, iI_mul, iI_neg, zbz, zin, if_pos, if_neg, Int.toNat_natCast, Int.natCast_zero, Int.reduceToNat, zt1, zt2, zt3, zt4, zt5, zt6, zt7, zt8, y219_19b, hl, hm, h32, e]
set_option maxRecDepth 20000 in
theorem lC_19 {H2 : zH} {k I : Int} {x8 : Option Value} {b v : Int} (h32 : zk H2 32 = 6) (e : zc 103 1 [.ref 32] H2 = some (.inl (some (.int (Int32.ofInt k))), H2)) (rk : iR k) (rb : iR b) (k68 : zk H2 68 = 24) (l68 : zl H2 68 = 1) (m68 : zm H2 68 0 = .long (Int64.ofInt v)) (hv : k = 0 → v = b) : zx 219 1403 [some (.ref 0), some (.ref 3), some (.ref 32), some (.ref 68), some (.ref 69), some (.int (Int32.ofInt I)), some (.int (Int32.ofInt k)), some (.int (Int32.ofInt b)), x8] [] H2 = zx 219 2268 [some (.ref 0), some (.ref 3), some (.ref 32), some (.ref 68), some (.ref 69), some (.int (Int32.ofInt I)), some (.int (Int32.ofInt k)), some (.int (Int32.ofInt b)), x8] [] H2 := by
  by_cases g : k = 0
  · subst g
    have hb : v = b := hv rfl
    simp (disch := omega) only [zentry, zs0, zs1, zs2, zs3, zg_lo, zg_st, zg_st2, zg_ald, zg_ast, zs_ia, zs_i0, zg_ii, zi_max, zi_min, zi_abi, zi_abf, zi_fb, zi_bf, lget, lst, lst2, lc2, Option.map_some, zso, if_true, if_false, zc1, and_true, true_and, and_self, List.length_nil, List.length_cons, Nat.zero_le, reduceIte, reduceCtorEq, false_and, and_false, Bool.false_eq_true, zca_some, zr0, zr100, Option.bind_some, zb_none, zb_some, zrc, or_true, true_or, eq_self, ne_eq, not_true_eq_false, not_false_eq_true, zrt_i, zrt_zb, zrt_b, zrt_c, zrt_l, zrt_f, zrt_r, zrt_n, zrt_v, zft_0, zft_1, zft_zb, zft_3, zft_4, zft_5, zft_7r, zft_7n, iI_t, zb_i, zb_0, zb_1, Nat.reduceAdd, Nat.reduceLeDiff, Nat.reduceEqDiff, Nat.reduceSub, Int.reduceNeg, iI_add, iI_sub, iI_mul, iI_neg, zbz, zin, if_pos, if_neg, Int.toNat_natCast, Int.natCast_zero, Int.reduceToNat, zt1, zt2, zt3, zt4, zt5, zt6, zt7, zt8, y219_19c, h32, e, k68, l68, m68, hb, zl_ii, lw_l1]
  · simp (disch := omega) only [zentry, zs0, zs1, zs2, zs3, zg_lo, zg_st, zg_st2, zg_ald, zg_ast, zs_ia, zs_i0, zg_ii, zi_max, zi_min, zi_abi, zi_abf, zi_fb, zi_bf, lget, lst, lst2, lc2, Option.map_some, zso, if_true, if_false, zc1, and_true, true_and, and_self, List.length_nil, List.length_cons, Nat.zero_le, reduceIte, reduceCtorEq, false_and, and_false, Bool.false_eq_true, zca_some, zr0, zr100, Option.bind_some, zb_none, zb_some, zrc, or_true, true_or, eq_self, ne_eq, not_true_eq_false, not_false_eq_true, zrt_i, zrt_zb, zrt_b, zrt_c, zrt_l, zrt_f, zrt_r, zrt_n, zrt_v, zft_0, zft_1, zft_zb, zft_3, zft_4, zft_5, zft_7r, zft_7n, iI_t, zb_i, zb_0, zb_1, Nat.reduceAdd, Nat.reduceLeDiff, Nat.reduceEqDiff, Nat.reduceSub, Int.reduceNeg, iI_add, iI_sub, iI_mul, iI_neg, zbz, zin, if_pos, if_neg, Int.toNat_natCast, Int.natCast_zero, Int.reduceToNat, zt1, zt2, zt3, zt4, zt5, zt6, zt7, zt8, y219_19c, h32, e, g]
set_option maxRecDepth 4000 in
theorem y219_20 :
  (∀ (ls : zL) (st : zS) (h : zH), zx 219 1434 ls st h = zgo 219 (zpure (.aload_n 1) 1435 0 [] ls st h)) ∧
  (∀ (ls : zL) (st : zS) (h : zH), zx 219 1435 ls st h = zca 219 1435 1438 ls 62 3 6 (ztake 1 st) h) ∧
  (∀ (ls : zL) (st : zS) (h : zH), zx 219 1438 ls st h = zgo 219 (zpure (.aload_n 2) 1439 0 [] ls st h)) ∧
  (∀ (ls : zL) (st : zS) (h : zH), zx 219 1439 ls st h = zca 219 1439 1442 ls 151 3 7 (ztake 1 st) h) ∧
  (∀ (ls : zL) (st : zS) (h : zH), zx 219 1442 ls st h = zgo 219 (zpure (.if_icmp .eq 826) 1445 2268 [] ls st h)) ∧
  (∀ (ls : zL) (st : zS) (h : zH), zx 219 1445 ls st h = zgo 219 (zpure (.iconst 0) 1446 0 [] ls st h)) ∧
  (∀ (ls : zL) (st : zS) (h : zH), zx 219 1446 ls st h = zret 1 st h) :=
  ⟨zx_0 rfl, zx_2c rfl, zx_0 rfl, zx_2c rfl, zx_0 rfl, zx_0 rfl, zx_1 rfl⟩
set_option maxRecDepth 20000 in
theorem lN_20 {H H1 H2 : zH} {k I : Int} {x6 x7 x8 : Option Value} (h3 : zk H 3 = 5) (h32 : zk H1 32 = 6) (e : zc 62 3 [.ref 3] H = some (.inl (some (.int (Int32.ofInt k))), H1)) (e2 : zc 151 3 [.ref 32] H1 = some (.inl (some (.int (Int32.ofInt k))), H2)) : zx 219 1434 [some (.ref 0), some (.ref 3), some (.ref 32), some (.ref 68), some (.ref 69), some (.int (Int32.ofInt I)), x6, x7, x8] [] H = zx 219 2268 [some (.ref 0), some (.ref 3), some (.ref 32), some (.ref 68), some (.ref 69), some (.int (Int32.ofInt I)), x6, x7, x8] [] H2 := by
  simp (disch := omega) only [zentry, zs0, zs1, zs2, zs3, zg_lo, zg_st, zg_st2, zg_ald, zg_ast, zs_ia, zs_i0, zg_ii, zi_max, zi_min, zi_abi, zi_abf, zi_fb, zi_bf, lget, lst, lst2, lc2, Option.map_some, zso, if_true, if_false, zc1, and_true, true_and, and_self, List.length_nil, List.length_cons, Nat.zero_le, reduceIte, reduceCtorEq, false_and, and_false, Bool.false_eq_true, zca_some, zr0, zr100, Option.bind_some, zb_none, zb_some, zrc, or_true, true_or, eq_self, ne_eq, not_true_eq_false, not_false_eq_true, zrt_i, zrt_zb, zrt_b, zrt_c, zrt_l, zrt_f, zrt_r, zrt_n, zrt_v, zft_0, zft_1, zft_zb, zft_3, zft_4, zft_5, zft_7r, zft_7n, iI_t, zb_i, zb_0, zb_1, Nat.reduceAdd, Nat.reduceLeDiff, Nat.reduceEqDiff, Nat.reduceSub, Int.reduceNeg, iI_add, iI_sub, iI_mul, iI_neg, zbz, zin, if_pos, if_neg, Int.toNat_natCast, Int.natCast_zero, Int.reduceToNat, zt1, zt2, zt3, zt4, zt5, zt6, zt7, zt8, y219_20, h3, h32, e, e2]
set_option maxRecDepth 4000 in
theorem y219_21a :
  (∀ (ls : zL) (st : zS) (h : zH), zx 219 1447 ls st h = zgo 219 (zpure (.aload_n 1) 1448 0 [] ls st h)) ∧
  (∀ (ls : zL) (st : zS) (h : zH), zx 219 1448 ls st h = zgo 219 (zpure (.aload_n 0) 1449 0 [] ls st h)) ∧
  (∀ (ls : zL) (st : zS) (h : zH), zx 219 1449 ls st h = zgo 219 (zpure (.iload 5) 1451 0 [] ls st h)) ∧
  (∀ (ls : zL) (st : zS) (h : zH), zx 219 1451 ls st h = zgo 219 (zpure (.iconst 1) 1452 0 [] ls st h)) ∧
  (∀ (ls : zL) (st : zS) (h : zH), zx 219 1452 ls st h = zgo 219 (zpure .iadd 1453 0 [] ls st h)) ∧
  (∀ (ls : zL) (st : zS) (h : zH), zx 219 1453 ls st h = zgo 219 (zpure .iaload 1454 0 [] ls st h)) ∧
  (∀ (ls : zL) (st : zS) (h : zH), zx 219 1454 ls st h = zgo 219 (zpure (.aload_n 3) 1455 0 [] ls st h)) ∧
  (∀ (ls : zL) (st : zS) (h : zH), zx 219 1455 ls st h = zca 219 1455 1458 ls 206 4 0 (ztake 3 st) h) ∧
  (∀ (ls : zL) (st : zS) (h : zH), zx 219 1458 ls st h = zgo 219 (zpure (.istore 6) 1460 0 [] ls st h)) :=
  ⟨zx_0 rfl, zx_0 rfl, zx_0 rfl, zx_0 rfl, zx_0 rfl, zx_0 rfl, zx_0 rfl, zx_2c rfl, zx_0 rfl⟩
set_option maxRecDepth 4000 in
theorem y219_21b :
  (∀ (ls : zL) (st : zS) (h : zH), zx 219 1460 ls st h = zgo 219 (zpure (.aload_n 2) 1461 0 [] ls st h)) ∧
  (∀ (ls : zL) (st : zS) (h : zH), zx 219 1461 ls st h = zgo 219 (zpure (.aload_n 0) 1462 0 [] ls st h)) ∧
  (∀ (ls : zL) (st : zS) (h : zH), zx 219 1462 ls st h = zgo 219 (zpure (.iload 5) 1464 0 [] ls st h)) ∧
  (∀ (ls : zL) (st : zS) (h : zH), zx 219 1464 ls st h = zgo 219 (zpure (.iconst 1) 1465 0 [] ls st h)) ∧
  (∀ (ls : zL) (st : zS) (h : zH), zx 219 1465 ls st h = zgo 219 (zpure .iadd 1466 0 [] ls st h)) ∧
  (∀ (ls : zL) (st : zS) (h : zH), zx 219 1466 ls st h = zgo 219 (zpure .iaload 1467 0 [] ls st h)) ∧
  (∀ (ls : zL) (st : zS) (h : zH), zx 219 1467 ls st h = zca 219 1467 1470 ls 153 6 7 (ztake 2 st) h) ∧
  (∀ (ls : zL) (st : zS) (h : zH), zx 219 1470 ls st h = zgo 219 (zpure (.istore 7) 1472 0 [] ls st h)) :=
  ⟨zx_0 rfl, zx_0 rfl, zx_0 rfl, zx_0 rfl, zx_0 rfl, zx_0 rfl, zx_2c rfl, zx_0 rfl⟩
set_option maxRecDepth 4000 in
theorem y219_21c :
  (∀ (ls : zL) (st : zS) (h : zH), zx 219 1472 ls st h = zgo 219 (zpure (.aload_n 2) 1473 0 [] ls st h)) ∧
  (∀ (ls : zL) (st : zS) (h : zH), zx 219 1473 ls st h = zca 219 1473 1476 ls 103 1 7 (ztake 1 st) h) ∧
  (∀ (ls : zL) (st : zS) (h : zH), zx 219 1476 ls st h = zgo 219 (zpure (.iload 6) 1478 0 [] ls st h)) ∧
  (∀ (ls : zL) (st : zS) (h : zH), zx 219 1478 ls st h = zgo 219 (zpure (.if_icmp .eq 5) 1481 1483 [] ls st h)) ∧
  (∀ (ls : zL) (st : zS) (h : zH), zx 219 1481 ls st h = zgo 219 (zpure (.iconst 0) 1482 0 [] ls st h)) ∧
  (∀ (ls : zL) (st : zS) (h : zH), zx 219 1482 ls st h = zret 1 st h) ∧
  (∀ (ls : zL) (st : zS) (h : zH), zx 219 1483 ls st h = zgo 219 (zpure (.iload 6) 1485 0 [] ls st h)) ∧
  (∀ (ls : zL) (st : zS) (h : zH), zx 219 1485 ls st h = zgo 219 (zpure (.ifCond .ne 15) 1488 1500 [] ls st h)) ∧
  (∀ (ls : zL) (st : zS) (h : zH), zx 219 1488 ls st h = zgo 219 (zpure (.aload_n 3) 1489 0 [] ls st h)) ∧
  (∀ (ls : zL) (st : zS) (h : zH), zx 219 1489 ls st h = zgo 219 (zpure (.iconst 0) 1490 0 [] ls st h)) ∧
  (∀ (ls : zL) (st : zS) (h : zH), zx 219 1490 ls st h = zgo 219 (zpure .laload 1491 0 [] ls st h)) ∧
  (∀ (ls : zL) (st : zS) (h : zH), zx 219 1491 ls st h = zgo 219 (zpure (.iload 7) 1493 0 [] ls st h)) ∧
  (∀ (ls : zL) (st : zS) (h : zH), zx 219 1493 ls st h = zgo 219 (zpure .i2l 1494 0 [] ls st h)) ∧
  (∀ (ls : zL) (st : zS) (h : zH), zx 219 1494 ls st h = zgo 219 (zpure .lcmp 1495 0 [] ls st h)) ∧
  (∀ (ls : zL) (st : zS) (h : zH), zx 219 1495 ls st h = zgo 219 (zpure (.ifCond .eq 5) 1498 1500 [] ls st h)) ∧
  (∀ (ls : zL) (st : zS) (h : zH), zx 219 1498 ls st h = zgo 219 (zpure (.iconst 0) 1499 0 [] ls st h)) ∧
  (∀ (ls : zL) (st : zS) (h : zH), zx 219 1499 ls st h = zret 1 st h) ∧
  (∀ (ls : zL) (st : zS) (h : zH), zx 219 1500 ls st h = zgo 219 (zpure (.goto 768) 1503 2268 [] ls st h)) :=
  ⟨zx_0 rfl, zx_2c rfl, zx_0 rfl, zx_0 rfl, zx_0 rfl, zx_1 rfl, zx_0 rfl, zx_0 rfl, zx_0 rfl, zx_0 rfl, zx_0 rfl, zx_0 rfl, zx_0 rfl, zx_0 rfl, zx_0 rfl, zx_0 rfl, zx_1 rfl, zx_0 rfl⟩
set_option maxRecDepth 20000 in
theorem lA_21 {L : Nat} {xs : Nat → Int32} {H H1 : zH} {k I : Int} {x6 x7 x8 : Option Value} (hl : zl H 0 = L) (hm : ∀ n, n < L → zm H 0 n = .int (Int32.ofInt (xs n).toInt)) (hI : 0 ≤ I ∧ I + 6 ≤ (L : Int) ∧ (L : Int) ≤ 3072) (e : zc 206 4 [.ref 3, .int (Int32.ofInt (xs (I + 1).toNat).toInt), .ref 68] H = some (.inl (some (.int (Int32.ofInt k))), H1)) : zx 219 1447 [some (.ref 0), some (.ref 3), some (.ref 32), some (.ref 68), some (.ref 69), some (.int (Int32.ofInt I)), x6, x7, x8] [] H = zx 219 1460 [some (.ref 0), some (.ref 3), some (.ref 32), some (.ref 68), some (.ref 69), some (.int (Int32.ofInt I)), some (.int (Int32.ofInt k)), x7, x8] [] H1 := by
  simp (disch := omega) only [zentry, zs0, zs1, zs2, zs3, zg_lo, zg_st, zg_st2, zg_ald, zg_ast, zs_ia, zs_i0, zg_ii, zi_max, zi_min, zi_abi, zi_abf, zi_fb, zi_bf, lget, lst, lst2, lc2, Option.map_some, zso, if_true, if_false, zc1, and_true, true_and, and_self, List.length_nil, List.length_cons, Nat.zero_le, reduceIte, reduceCtorEq, false_and, and_false, Bool.false_eq_true, zca_some, zr0, zr100, Option.bind_some, zb_none, zb_some, zrc, or_true, true_or, eq_self, ne_eq, not_true_eq_false, not_false_eq_true, zrt_i, zrt_zb, zrt_b, zrt_c, zrt_l, zrt_f, zrt_r, zrt_n, zrt_v, zft_0, zft_1, zft_zb, zft_3, zft_4, zft_5, zft_7r, zft_7n, iI_t, zb_i, zb_0, zb_1, Nat.reduceAdd, Nat.reduceLeDiff, Nat.reduceEqDiff, Nat.reduceSub, Int.reduceNeg, iI_add, iI_sub, iI_mul, iI_neg, zbz, zin, if_pos, if_neg, Int.toNat_natCast, Int.natCast_zero, Int.reduceToNat, zt1, zt2, zt3, zt4, zt5, zt6, zt7, zt8, y219_21a, hl, hm, e]
set_option maxRecDepth 20000 in
theorem lB_21 {L : Nat} {xs : Nat → Int32} {H1 H2 : zH} {k I : Int} {x7 x8 : Option Value} {b : Int} (hl : zl H1 0 = L) (hm : ∀ n, n < L → zm H1 0 n = .int (Int32.ofInt (xs n).toInt)) (h32 : zk H1 32 = 6) (hI : 0 ≤ I ∧ I + 6 ≤ (L : Int) ∧ (L : Int) ≤ 3072) (e : zc 153 6 [.ref 32, .int (Int32.ofInt (xs (I + 1).toNat).toInt)] H1 = some (.inl (some (.int (Int32.ofInt b))), H2)) : zx 219 1460 [some (.ref 0), some (.ref 3), some (.ref 32), some (.ref 68), some (.ref 69), some (.int (Int32.ofInt I)), some (.int (Int32.ofInt k)), x7, x8] [] H1 = zx 219 1472 [some (.ref 0), some (.ref 3), some (.ref 32), some (.ref 68), some (.ref 69), some (.int (Int32.ofInt I)), some (.int (Int32.ofInt k)), some (.int (Int32.ofInt b)), x8] [] H2 := by
  simp (disch := omega) only [zentry, zs0, zs1, zs2, zs3, zg_lo, zg_st, zg_st2, zg_ald, zg_ast, zs_ia, zs_i0, zg_ii, zi_max, zi_min, zi_abi, zi_abf, zi_fb, zi_bf, lget, lst, lst2, lc2, Option.map_some, zso, if_true, if_false, zc1, and_true, true_and, and_self, List.length_nil, List.length_cons, Nat.zero_le, reduceIte, reduceCtorEq, false_and, and_false, Bool.false_eq_true, zca_some, zr0, zr100, Option.bind_some, zb_none, zb_some, zrc, or_true, true_or, eq_self, ne_eq, not_true_eq_false, not_false_eq_true, zrt_i, zrt_zb, zrt_b, zrt_c, zrt_l, zrt_f, zrt_r, zrt_n, zrt_v, zft_0, zft_1, zft_zb, zft_3, zft_4, zft_5, zft_7r, zft_7n, iI_t, zb_i, zb_0, zb_1, Nat.reduceAdd, Nat.reduceLeDiff, Nat.reduceEqDiff, Nat.reduceSub, Int.reduceNeg, iI_add, iI_sub, iI_mul, iI_neg, zbz, zin, if_pos, if_neg, Int.toNat_natCast, Int.natCast_zero, Int.reduceToNat, zt1, zt2, zt3, zt4, zt5, zt6, zt7, zt8, y219_21b, hl, hm, h32, e]
set_option maxRecDepth 20000 in
theorem lC_21 {H2 : zH} {k I : Int} {x8 : Option Value} {b v : Int} (h32 : zk H2 32 = 6) (e : zc 103 1 [.ref 32] H2 = some (.inl (some (.int (Int32.ofInt k))), H2)) (rk : iR k) (rb : iR b) (k68 : zk H2 68 = 24) (l68 : zl H2 68 = 1) (m68 : zm H2 68 0 = .long (Int64.ofInt v)) (hv : k = 0 → v = b) : zx 219 1472 [some (.ref 0), some (.ref 3), some (.ref 32), some (.ref 68), some (.ref 69), some (.int (Int32.ofInt I)), some (.int (Int32.ofInt k)), some (.int (Int32.ofInt b)), x8] [] H2 = zx 219 2268 [some (.ref 0), some (.ref 3), some (.ref 32), some (.ref 68), some (.ref 69), some (.int (Int32.ofInt I)), some (.int (Int32.ofInt k)), some (.int (Int32.ofInt b)), x8] [] H2 := by
  by_cases g : k = 0
  · subst g
    have hb : v = b := hv rfl
    simp (disch := omega) only [zentry, zs0, zs1, zs2, zs3, zg_lo, zg_st, zg_st2, zg_ald, zg_ast, zs_ia, zs_i0, zg_ii, zi_max, zi_min, zi_abi, zi_abf, zi_fb, zi_bf, lget, lst, lst2, lc2, Option.map_some, zso, if_true, if_false, zc1, and_true, true_and, and_self, List.length_nil, List.length_cons, Nat.zero_le, reduceIte, reduceCtorEq, false_and, and_false, Bool.false_eq_true, zca_some, zr0, zr100, Option.bind_some, zb_none, zb_some, zrc, or_true, true_or, eq_self, ne_eq, not_true_eq_false, not_false_eq_true, zrt_i, zrt_zb, zrt_b, zrt_c, zrt_l, zrt_f, zrt_r, zrt_n, zrt_v, zft_0, zft_1, zft_zb, zft_3, zft_4, zft_5, zft_7r, zft_7n, iI_t, zb_i, zb_0, zb_1, Nat.reduceAdd, Nat.reduceLeDiff, Nat.reduceEqDiff, Nat.reduceSub, Int.reduceNeg, iI_add, iI_sub, iI_mul, iI_neg, zbz, zin, if_pos, if_neg, Int.toNat_natCast, Int.natCast_zero, Int.reduceToNat, zt1, zt2, zt3, zt4, zt5, zt6, zt7, zt8, y219_21c, h32, e, k68, l68, m68, hb, zl_ii, lw_l1]
  · simp (disch := omega) only [zentry, zs0, zs1, zs2, zs3, zg_lo, zg_st, zg_st2, zg_ald, zg_ast, zs_ia, zs_i0, zg_ii, zi_max, zi_min, zi_abi, zi_abf, zi_fb, zi_bf, lget, lst, lst2, lc2, Option.map_some, zso, if_true, if_false, zc1, and_true, true_and, and_self, List.length_nil, List.length_cons, Nat.zero_le, reduceIte, reduceCtorEq, false_and, and_false, Bool.false_eq_true, zca_some, zr0, zr100, Option.bind_some, zb_none, zb_some, zrc, or_true, true_or, eq_self, ne_eq, not_true_eq_false, not_false_eq_true, zrt_i, zrt_zb, zrt_b, zrt_c, zrt_l, zrt_f, zrt_r, zrt_n, zrt_v, zft_0, zft_1, zft_zb, zft_3, zft_4, zft_5, zft_7r, zft_7n, iI_t, zb_i, zb_0, zb_1, Nat.reduceAdd, Nat.reduceLeDiff, Nat.reduceEqDiff, Nat.reduceSub, Int.reduceNeg, iI_add, iI_sub, iI_mul, iI_neg, zbz, zin, if_pos, if_neg, Int.toNat_natCast, Int.natCast_zero, Int.reduceToNat, zt1, zt2, zt3, zt4, zt5, zt6, zt7, zt8, y219_21c, h32, e, g]
set_option maxRecDepth 4000 in
theorem y219_22a :
  (∀ (ls : zL) (st : zS) (h : zH), zx 219 1503 ls st h = zgo 219 (zpure (.aload_n 1) 1504 0 [] ls st h)) ∧
  (∀ (ls : zL) (st : zS) (h : zH), zx 219 1504 ls st h = zgo 219 (zpure (.aload_n 0) 1505 0 [] ls st h)) ∧
  (∀ (ls : zL) (st : zS) (h : zH), zx 219 1505 ls st h = zgo 219 (zpure (.iload 5) 1507 0 [] ls st h)) ∧
  (∀ (ls : zL) (st : zS) (h : zH), zx 219 1507 ls st h = zgo 219 (zpure (.iconst 1) 1508 0 [] ls st h)) ∧
  (∀ (ls : zL) (st : zS) (h : zH), zx 219 1508 ls st h = zgo 219 (zpure .iadd 1509 0 [] ls st h)) ∧
  (∀ (ls : zL) (st : zS) (h : zH), zx 219 1509 ls st h = zgo 219 (zpure .iaload 1510 0 [] ls st h)) ∧
  (∀ (ls : zL) (st : zS) (h : zH), zx 219 1510 ls st h = zgo 219 (zpure (.aload_n 0) 1511 0 [] ls st h)) ∧
  (∀ (ls : zL) (st : zS) (h : zH), zx 219 1511 ls st h = zgo 219 (zpure (.iload 5) 1513 0 [] ls st h)) ∧
  (∀ (ls : zL) (st : zS) (h : zH), zx 219 1513 ls st h = zgo 219 (zpure (.iconst 2) 1514 0 [] ls st h)) ∧
  (∀ (ls : zL) (st : zS) (h : zH), zx 219 1514 ls st h = zgo 219 (zpure .iadd 1515 0 [] ls st h)) ∧
  (∀ (ls : zL) (st : zS) (h : zH), zx 219 1515 ls st h = zgo 219 (zpure .iaload 1516 0 [] ls st h)) ∧
  (∀ (ls : zL) (st : zS) (h : zH), zx 219 1516 ls st h = zgo 219 (zpure (.aload_n 3) 1517 0 [] ls st h)) ∧
  (∀ (ls : zL) (st : zS) (h : zH), zx 219 1517 ls st h = zca 219 1517 1520 ls 207 5 0 (ztake 4 st) h) ∧
  (∀ (ls : zL) (st : zS) (h : zH), zx 219 1520 ls st h = zgo 219 (zpure (.istore 6) 1522 0 [] ls st h)) :=
  ⟨zx_0 rfl, zx_0 rfl, zx_0 rfl, zx_0 rfl, zx_0 rfl, zx_0 rfl, zx_0 rfl, zx_0 rfl, zx_0 rfl, zx_0 rfl, zx_0 rfl, zx_0 rfl, zx_2c rfl, zx_0 rfl⟩
set_option maxRecDepth 4000 in
theorem y219_22b :
  (∀ (ls : zL) (st : zS) (h : zH), zx 219 1522 ls st h = zgo 219 (zpure (.aload_n 2) 1523 0 [] ls st h)) ∧
  (∀ (ls : zL) (st : zS) (h : zH), zx 219 1523 ls st h = zgo 219 (zpure (.aload_n 0) 1524 0 [] ls st h)) ∧
  (∀ (ls : zL) (st : zS) (h : zH), zx 219 1524 ls st h = zgo 219 (zpure (.iload 5) 1526 0 [] ls st h)) ∧
  (∀ (ls : zL) (st : zS) (h : zH), zx 219 1526 ls st h = zgo 219 (zpure (.iconst 1) 1527 0 [] ls st h)) ∧
  (∀ (ls : zL) (st : zS) (h : zH), zx 219 1527 ls st h = zgo 219 (zpure .iadd 1528 0 [] ls st h)) ∧
  (∀ (ls : zL) (st : zS) (h : zH), zx 219 1528 ls st h = zgo 219 (zpure .iaload 1529 0 [] ls st h)) ∧
  (∀ (ls : zL) (st : zS) (h : zH), zx 219 1529 ls st h = zgo 219 (zpure (.aload_n 0) 1530 0 [] ls st h)) ∧
  (∀ (ls : zL) (st : zS) (h : zH), zx 219 1530 ls st h = zgo 219 (zpure (.iload 5) 1532 0 [] ls st h)) ∧
  (∀ (ls : zL) (st : zS) (h : zH), zx 219 1532 ls st h = zgo 219 (zpure (.iconst 2) 1533 0 [] ls st h)) ∧
  (∀ (ls : zL) (st : zS) (h : zH), zx 219 1533 ls st h = zgo 219 (zpure .iadd 1534 0 [] ls st h)) ∧
  (∀ (ls : zL) (st : zS) (h : zH), zx 219 1534 ls st h = zgo 219 (zpure .iaload 1535 0 [] ls st h)) ∧
  (∀ (ls : zL) (st : zS) (h : zH), zx 219 1535 ls st h = zca 219 1535 1538 ls 154 4 7 (ztake 3 st) h) ∧
  (∀ (ls : zL) (st : zS) (h : zH), zx 219 1538 ls st h = zgo 219 (zpure (.istore 7) 1540 0 [] ls st h)) :=
  ⟨zx_0 rfl, zx_0 rfl, zx_0 rfl, zx_0 rfl, zx_0 rfl, zx_0 rfl, zx_0 rfl, zx_0 rfl, zx_0 rfl, zx_0 rfl, zx_0 rfl, zx_2c rfl, zx_0 rfl⟩
set_option maxRecDepth 4000 in
theorem y219_22c :
  (∀ (ls : zL) (st : zS) (h : zH), zx 219 1540 ls st h = zgo 219 (zpure (.aload_n 2) 1541 0 [] ls st h)) ∧
  (∀ (ls : zL) (st : zS) (h : zH), zx 219 1541 ls st h = zca 219 1541 1544 ls 103 1 7 (ztake 1 st) h) ∧
  (∀ (ls : zL) (st : zS) (h : zH), zx 219 1544 ls st h = zgo 219 (zpure (.iload 6) 1546 0 [] ls st h)) ∧
  (∀ (ls : zL) (st : zS) (h : zH), zx 219 1546 ls st h = zgo 219 (zpure (.if_icmp .eq 5) 1549 1551 [] ls st h)) ∧
  (∀ (ls : zL) (st : zS) (h : zH), zx 219 1549 ls st h = zgo 219 (zpure (.iconst 0) 1550 0 [] ls st h)) ∧
  (∀ (ls : zL) (st : zS) (h : zH), zx 219 1550 ls st h = zret 1 st h) ∧
  (∀ (ls : zL) (st : zS) (h : zH), zx 219 1551 ls st h = zgo 219 (zpure (.iload 6) 1553 0 [] ls st h)) ∧
  (∀ (ls : zL) (st : zS) (h : zH), zx 219 1553 ls st h = zgo 219 (zpure (.ifCond .ne 15) 1556 1568 [] ls st h)) ∧
  (∀ (ls : zL) (st : zS) (h : zH), zx 219 1556 ls st h = zgo 219 (zpure (.aload_n 3) 1557 0 [] ls st h)) ∧
  (∀ (ls : zL) (st : zS) (h : zH), zx 219 1557 ls st h = zgo 219 (zpure (.iconst 0) 1558 0 [] ls st h)) ∧
  (∀ (ls : zL) (st : zS) (h : zH), zx 219 1558 ls st h = zgo 219 (zpure .laload 1559 0 [] ls st h)) ∧
  (∀ (ls : zL) (st : zS) (h : zH), zx 219 1559 ls st h = zgo 219 (zpure (.iload 7) 1561 0 [] ls st h)) ∧
  (∀ (ls : zL) (st : zS) (h : zH), zx 219 1561 ls st h = zgo 219 (zpure .i2l 1562 0 [] ls st h)) ∧
  (∀ (ls : zL) (st : zS) (h : zH), zx 219 1562 ls st h = zgo 219 (zpure .lcmp 1563 0 [] ls st h)) ∧
  (∀ (ls : zL) (st : zS) (h : zH), zx 219 1563 ls st h = zgo 219 (zpure (.ifCond .eq 5) 1566 1568 [] ls st h)) ∧
  (∀ (ls : zL) (st : zS) (h : zH), zx 219 1566 ls st h = zgo 219 (zpure (.iconst 0) 1567 0 [] ls st h)) ∧
  (∀ (ls : zL) (st : zS) (h : zH), zx 219 1567 ls st h = zret 1 st h) ∧
  (∀ (ls : zL) (st : zS) (h : zH), zx 219 1568 ls st h = zgo 219 (zpure (.goto 700) 1571 2268 [] ls st h)) :=
  ⟨zx_0 rfl, zx_2c rfl, zx_0 rfl, zx_0 rfl, zx_0 rfl, zx_1 rfl, zx_0 rfl, zx_0 rfl, zx_0 rfl, zx_0 rfl, zx_0 rfl, zx_0 rfl, zx_0 rfl, zx_0 rfl, zx_0 rfl, zx_0 rfl, zx_1 rfl, zx_0 rfl⟩
set_option maxRecDepth 20000 in
theorem lA_22 {L : Nat} {xs : Nat → Int32} {H H1 : zH} {k I : Int} {x6 x7 x8 : Option Value} (hl : zl H 0 = L) (hm : ∀ n, n < L → zm H 0 n = .int (Int32.ofInt (xs n).toInt)) (hI : 0 ≤ I ∧ I + 6 ≤ (L : Int) ∧ (L : Int) ≤ 3072) (e : zc 207 5 [.ref 3, .int (Int32.ofInt (xs (I + 1).toNat).toInt), .int (Int32.ofInt (xs (I + 2).toNat).toInt), .ref 68] H = some (.inl (some (.int (Int32.ofInt k))), H1)) : zx 219 1503 [some (.ref 0), some (.ref 3), some (.ref 32), some (.ref 68), some (.ref 69), some (.int (Int32.ofInt I)), x6, x7, x8] [] H = zx 219 1522 [some (.ref 0), some (.ref 3), some (.ref 32), some (.ref 68), some (.ref 69), some (.int (Int32.ofInt I)), some (.int (Int32.ofInt k)), x7, x8] [] H1 := by
  simp (disch := omega) only [zentry, zs0, zs1, zs2, zs3, zg_lo, zg_st, zg_st2, zg_ald, zg_ast, zs_ia, zs_i0, zg_ii, zi_max, zi_min, zi_abi, zi_abf, zi_fb, zi_bf, lget, lst, lst2, lc2, Option.map_some, zso, if_true, if_false, zc1, and_true, true_and, and_self, List.length_nil, List.length_cons, Nat.zero_le, reduceIte, reduceCtorEq, false_and, and_false, Bool.false_eq_true, zca_some, zr0, zr100, Option.bind_some, zb_none, zb_some, zrc, or_true, true_or, eq_self, ne_eq, not_true_eq_false, not_false_eq_true, zrt_i, zrt_zb, zrt_b, zrt_c, zrt_l, zrt_f, zrt_r, zrt_n, zrt_v, zft_0, zft_1, zft_zb, zft_3, zft_4, zft_5, zft_7r, zft_7n, iI_t, zb_i, zb_0, zb_1, Nat.reduceAdd, Nat.reduceLeDiff, Nat.reduceEqDiff, Nat.reduceSub, Int.reduceNeg, iI_add, iI_sub, iI_mul, iI_neg, zbz, zin, if_pos, if_neg, Int.toNat_natCast, Int.natCast_zero, Int.reduceToNat, zt1, zt2, zt3, zt4, zt5, zt6, zt7, zt8, y219_22a, hl, hm, e]
set_option maxRecDepth 20000 in
theorem lB_22 {L : Nat} {xs : Nat → Int32} {H1 H2 : zH} {k I : Int} {x7 x8 : Option Value} {b : Int} (hl : zl H1 0 = L) (hm : ∀ n, n < L → zm H1 0 n = .int (Int32.ofInt (xs n).toInt)) (h32 : zk H1 32 = 6) (hI : 0 ≤ I ∧ I + 6 ≤ (L : Int) ∧ (L : Int) ≤ 3072) (e : zc 154 4 [.ref 32, .int (Int32.ofInt (xs (I + 1).toNat).toInt), .int (Int32.ofInt (xs (I + 2).toNat).toInt)] H1 = some (.inl (some (.int (Int32.ofInt b))), H2)) : zx 219 1522 [some (.ref 0), some (.ref 3), some (.ref 32), some (.ref 68), some (.ref 69), some (.int (Int32.ofInt I)), some (.int (Int32.ofInt k)), x7, x8] [] H1 = zx 219 1540 [some (.ref 0), some (.ref 3), some (.ref 32), some (.ref 68), some (.ref 69), some (.int (Int32.ofInt I)), some (.int (Int32.ofInt k)), some (.int (Int32.ofInt b)), x8] [] H2 := by
  simp (disch := omega) only [zentry, zs0, zs1, zs2, zs3, zg_lo, zg_st, zg_st2, zg_ald, zg_ast, zs_ia, zs_i0, zg_ii, zi_max, zi_min, zi_abi, zi_abf, zi_fb, zi_bf, lget, lst, lst2, lc2, Option.map_some, zso, if_true, if_false, zc1, and_true, true_and, and_self, List.length_nil, List.length_cons, Nat.zero_le, reduceIte, reduceCtorEq, false_and, and_false, Bool.false_eq_true, zca_some, zr0, zr100, Option.bind_some, zb_none, zb_some, zrc, or_true, true_or, eq_self, ne_eq, not_true_eq_false, not_false_eq_true, zrt_i, zrt_zb, zrt_b, zrt_c, zrt_l, zrt_f, zrt_r, zrt_n, zrt_v, zft_0, zft_1, zft_zb, zft_3, zft_4, zft_5, zft_7r, zft_7n, iI_t, zb_i, zb_0, zb_1, Nat.reduceAdd, Nat.reduceLeDiff, Nat.reduceEqDiff, Nat.reduceSub, Int.reduceNeg, iI_add, iI_sub, iI_mul, iI_neg, zbz, zin, if_pos, if_neg, Int.toNat_natCast, Int.natCast_zero, Int.reduceToNat, zt1, zt2, zt3, zt4, zt5, zt6, zt7, zt8, y219_22b, hl, hm, h32, e]
set_option maxRecDepth 20000 in
theorem lC_22 {H2 : zH} {k I : Int} {x8 : Option Value} {b v : Int} (h32 : zk H2 32 = 6) (e : zc 103 1 [.ref 32] H2 = some (.inl (some (.int (Int32.ofInt k))), H2)) (rk : iR k) (rb : iR b) (k68 : zk H2 68 = 24) (l68 : zl H2 68 = 1) (m68 : zm H2 68 0 = .long (Int64.ofInt v)) (hv : k = 0 → v = b) : zx 219 1540 [some (.ref 0), some (.ref 3), some (.ref 32), some (.ref 68), some (.ref 69), some (.int (Int32.ofInt I)), some (.int (Int32.ofInt k)), some (.int (Int32.ofInt b)), x8] [] H2 = zx 219 2268 [some (.ref 0), some (.ref 3), some (.ref 32), some (.ref 68), some (.ref 69), some (.int (Int32.ofInt I)), some (.int (Int32.ofInt k)), some (.int (Int32.ofInt b)), x8] [] H2 := by
  by_cases g : k = 0
  · subst g
    have hb : v = b := hv rfl
    simp (disch := omega) only [zentry, zs0, zs1, zs2, zs3, zg_lo, zg_st, zg_st2, zg_ald, zg_ast, zs_ia, zs_i0, zg_ii, zi_max, zi_min, zi_abi, zi_abf, zi_fb, zi_bf, lget, lst, lst2, lc2, Option.map_some, zso, if_true, if_false, zc1, and_true, true_and, and_self, List.length_nil, List.length_cons, Nat.zero_le, reduceIte, reduceCtorEq, false_and, and_false, Bool.false_eq_true, zca_some, zr0, zr100, Option.bind_some, zb_none, zb_some, zrc, or_true, true_or, eq_self, ne_eq, not_true_eq_false, not_false_eq_true, zrt_i, zrt_zb, zrt_b, zrt_c, zrt_l, zrt_f, zrt_r, zrt_n, zrt_v, zft_0, zft_1, zft_zb, zft_3, zft_4, zft_5, zft_7r, zft_7n, iI_t, zb_i, zb_0, zb_1, Nat.reduceAdd, Nat.reduceLeDiff, Nat.reduceEqDiff, Nat.reduceSub, Int.reduceNeg, iI_add, iI_sub, iI_mul, iI_neg, zbz, zin, if_pos, if_neg, Int.toNat_natCast, Int.natCast_zero, Int.reduceToNat, zt1, zt2, zt3, zt4, zt5, zt6, zt7, zt8, y219_22c, h32, e, k68, l68, m68, hb, zl_ii, lw_l1]
  · simp (disch := omega) only [zentry, zs0, zs1, zs2, zs3, zg_lo, zg_st, zg_st2, zg_ald, zg_ast, zs_ia, zs_i0, zg_ii, zi_max, zi_min, zi_abi, zi_abf, zi_fb, zi_bf, lget, lst, lst2, lc2, Option.map_some, zso, if_true, if_false, zc1, and_true, true_and, and_self, List.length_nil, List.length_cons, Nat.zero_le, reduceIte, reduceCtorEq, false_and, and_false, Bool.false_eq_true, zca_some, zr0, zr100, Option.bind_some, zb_none, zb_some, zrc, or_true, true_or, eq_self, ne_eq, not_true_eq_false, not_false_eq_true, zrt_i, zrt_zb, zrt_b, zrt_c, zrt_l, zrt_f, zrt_r, zrt_n, zrt_v, zft_0, zft_1, zft_zb, zft_3, zft_4, zft_5, zft_7r, zft_7n, iI_t, zb_i, zb_0, zb_1, Nat.reduceAdd, Nat.reduceLeDiff, Nat.reduceEqDiff, Nat.reduceSub, Int.reduceNeg, iI_add, iI_sub, iI_mul, iI_neg, zbz, zin, if_pos, if_neg, Int.toNat_natCast, Int.natCast_zero, Int.reduceToNat, zt1, zt2, zt3, zt4, zt5, zt6, zt7, zt8, y219_22c, h32, e, g]
set_option maxRecDepth 4000 in
theorem y219_23a :
  (∀ (ls : zL) (st : zS) (h : zH), zx 219 1571 ls st h = zgo 219 (zpure (.aload_n 1) 1572 0 [] ls st h)) ∧
  (∀ (ls : zL) (st : zS) (h : zH), zx 219 1572 ls st h = zgo 219 (zpure (.aload 4) 1574 0 [] ls st h)) ∧
  (∀ (ls : zL) (st : zS) (h : zH), zx 219 1574 ls st h = zca 219 1574 1577 ls 208 3 0 (ztake 2 st) h) ∧
  (∀ (ls : zL) (st : zS) (h : zH), zx 219 1577 ls st h = zgo 219 (zpure (.istore 6) 1579 0 [] ls st h)) :=
  ⟨zx_0 rfl, zx_0 rfl, zx_2c rfl, zx_0 rfl⟩
set_option maxRecDepth 4000 in
theorem y219_23b :
  (∀ (ls : zL) (st : zS) (h : zH), zx 219 1579 ls st h = zgo 219 (zpure (.aload_n 2) 1580 0 [] ls st h)) ∧
  (∀ (ls : zL) (st : zS) (h : zH), zx 219 1580 ls st h = zca 219 1580 1583 ls 155 5 7 (ztake 1 st) h) ∧
  (∀ (ls : zL) (st : zS) (h : zH), zx 219 1583 ls st h = zgo 219 (zpure (.fstore 7) 1585 0 [] ls st h)) :=
  ⟨zx_0 rfl, zx_2c rfl, zx_0 rfl⟩
set_option maxRecDepth 4000 in
theorem y219_23c :
  (∀ (ls : zL) (st : zS) (h : zH), zx 219 1585 ls st h = zgo 219 (zpure (.aload_n 2) 1586 0 [] ls st h)) ∧
  (∀ (ls : zL) (st : zS) (h : zH), zx 219 1586 ls st h = zca 219 1586 1589 ls 103 1 7 (ztake 1 st) h) ∧
  (∀ (ls : zL) (st : zS) (h : zH), zx 219 1589 ls st h = zgo 219 (zpure (.iload 6) 1591 0 [] ls st h)) ∧
  (∀ (ls : zL) (st : zS) (h : zH), zx 219 1591 ls st h = zgo 219 (zpure (.if_icmp .eq 5) 1594 1596 [] ls st h)) ∧
  (∀ (ls : zL) (st : zS) (h : zH), zx 219 1594 ls st h = zgo 219 (zpure (.iconst 0) 1595 0 [] ls st h)) ∧
  (∀ (ls : zL) (st : zS) (h : zH), zx 219 1595 ls st h = zret 1 st h) ∧
  (∀ (ls : zL) (st : zS) (h : zH), zx 219 1596 ls st h = zgo 219 (zpure (.iload 6) 1598 0 [] ls st h)) ∧
  (∀ (ls : zL) (st : zS) (h : zH), zx 219 1598 ls st h = zgo 219 (zpure (.ifCond .ne 36) 1601 1634 [] ls st h)) ∧
  (∀ (ls : zL) (st : zS) (h : zH), zx 219 1601 ls st h = zgo 219 (zpure (.aload 4) 1603 0 [] ls st h)) ∧
  (∀ (ls : zL) (st : zS) (h : zH), zx 219 1603 ls st h = zgo 219 (zpure (.iconst 0) 1604 0 [] ls st h)) ∧
  (∀ (ls : zL) (st : zS) (h : zH), zx 219 1604 ls st h = zgo 219 (zpure .daload 1605 0 [] ls st h)) ∧
  (∀ (ls : zL) (st : zS) (h : zH), zx 219 1605 ls st h = zgo 219 (zpure (.fload 7) 1607 0 [] ls st h)) ∧
  (∀ (ls : zL) (st : zS) (h : zH), zx 219 1607 ls st h = zgo 219 (zpure .f2d 1608 0 [] ls st h)) ∧
  (∀ (ls : zL) (st : zS) (h : zH), zx 219 1608 ls st h = zgo 219 (zpure (.dcmp .l) 1609 0 [] ls st h)) ∧
  (∀ (ls : zL) (st : zS) (h : zH), zx 219 1609 ls st h = zgo 219 (zpure (.ifCond .eq 25) 1612 1634 [] ls st h)) ∧
  (∀ (ls : zL) (st : zS) (h : zH), zx 219 1612 ls st h = zgo 219 (zpure (.aload 4) 1614 0 [] ls st h)) ∧
  (∀ (ls : zL) (st : zS) (h : zH), zx 219 1614 ls st h = zgo 219 (zpure (.iconst 0) 1615 0 [] ls st h)) ∧
  (∀ (ls : zL) (st : zS) (h : zH), zx 219 1615 ls st h = zgo 219 (zpure .daload 1616 0 [] ls st h)) ∧
  (∀ (ls : zL) (st : zS) (h : zH), zx 219 1616 ls st h = zgo 219 (zpure (.aload 4) 1618 0 [] ls st h)) ∧
  (∀ (ls : zL) (st : zS) (h : zH), zx 219 1618 ls st h = zgo 219 (zpure (.iconst 0) 1619 0 [] ls st h)) ∧
  (∀ (ls : zL) (st : zS) (h : zH), zx 219 1619 ls st h = zgo 219 (zpure .daload 1620 0 [] ls st h)) ∧
  (∀ (ls : zL) (st : zS) (h : zH), zx 219 1620 ls st h = zgo 219 (zpure (.dcmp .l) 1621 0 [] ls st h)) ∧
  (∀ (ls : zL) (st : zS) (h : zH), zx 219 1621 ls st h = zgo 219 (zpure (.ifCond .eq 11) 1624 1632 [] ls st h)) ∧
  (∀ (ls : zL) (st : zS) (h : zH), zx 219 1624 ls st h = zgo 219 (zpure (.fload 7) 1626 0 [] ls st h)) ∧
  (∀ (ls : zL) (st : zS) (h : zH), zx 219 1626 ls st h = zgo 219 (zpure (.fload 7) 1628 0 [] ls st h)) ∧
  (∀ (ls : zL) (st : zS) (h : zH), zx 219 1628 ls st h = zgo 219 (zpure (.fcmp .l) 1629 0 [] ls st h)) ∧
  (∀ (ls : zL) (st : zS) (h : zH), zx 219 1629 ls st h = zgo 219 (zpure (.ifCond .ne 5) 1632 1634 [] ls st h)) ∧
  (∀ (ls : zL) (st : zS) (h : zH), zx 219 1632 ls st h = zgo 219 (zpure (.iconst 0) 1633 0 [] ls st h)) ∧
  (∀ (ls : zL) (st : zS) (h : zH), zx 219 1633 ls st h = zret 1 st h) ∧
  (∀ (ls : zL) (st : zS) (h : zH), zx 219 1634 ls st h = zgo 219 (zpure (.goto 634) 1637 2268 [] ls st h)) :=
  ⟨zx_0 rfl, zx_2c rfl, zx_0 rfl, zx_0 rfl, zx_0 rfl, zx_1 rfl, zx_0 rfl, zx_0 rfl, zx_0 rfl, zx_0 rfl, zx_0 rfl, zx_0 rfl, zx_0 rfl, zx_0 rfl, zx_0 rfl, zx_0 rfl, zx_0 rfl, zx_0 rfl, zx_0 rfl, zx_0 rfl, zx_0 rfl, zx_0 rfl, zx_0 rfl, zx_0 rfl, zx_0 rfl, zx_0 rfl, zx_0 rfl, zx_0 rfl, zx_1 rfl, zx_0 rfl⟩
set_option maxRecDepth 20000 in
theorem lA_23 {L : Nat} {xs : Nat → Int32} {H H1 : zH} {k I : Int} {x6 x7 x8 : Option Value} (hl : zl H 0 = L) (hm : ∀ n, n < L → zm H 0 n = .int (Int32.ofInt (xs n).toInt)) (hI : 0 ≤ I ∧ I + 6 ≤ (L : Int) ∧ (L : Int) ≤ 3072) (e : zc 208 3 [.ref 3, .ref 69] H = some (.inl (some (.int (Int32.ofInt k))), H1)) : zx 219 1571 [some (.ref 0), some (.ref 3), some (.ref 32), some (.ref 68), some (.ref 69), some (.int (Int32.ofInt I)), x6, x7, x8] [] H = zx 219 1579 [some (.ref 0), some (.ref 3), some (.ref 32), some (.ref 68), some (.ref 69), some (.int (Int32.ofInt I)), some (.int (Int32.ofInt k)), x7, x8] [] H1 := by
  simp (disch := omega) only [zentry, zs0, zs1, zs2, zs3, zg_lo, zg_st, zg_st2, zg_ald, zg_ast, zs_ia, zs_i0, zg_ii, zi_max, zi_min, zi_abi, zi_abf, zi_fb, zi_bf, lget, lst, lst2, lc2, Option.map_some, zso, if_true, if_false, zc1, and_true, true_and, and_self, List.length_nil, List.length_cons, Nat.zero_le, reduceIte, reduceCtorEq, false_and, and_false, Bool.false_eq_true, zca_some, zr0, zr100, Option.bind_some, zb_none, zb_some, zrc, or_true, true_or, eq_self, ne_eq, not_true_eq_false, not_false_eq_true, zrt_i, zrt_zb, zrt_b, zrt_c, zrt_l, zrt_f, zrt_r, zrt_n, zrt_v, zft_0, zft_1, zft_zb, zft_3, zft_4, zft_5, zft_7r, zft_7n, iI_t, zb_i, zb_0, zb_1, Nat.reduceAdd, Nat.reduceLeDiff, Nat.reduceEqDiff, Nat.reduceSub, Int.reduceNeg, iI_add, iI_sub, iI_mul, iI_neg, zbz, zin, if_pos, if_neg, Int.toNat_natCast, Int.natCast_zero, Int.reduceToNat, zt1, zt2, zt3, zt4, zt5, zt6, zt7, zt8, y219_23a, hl, hm, e]
set_option maxRecDepth 20000 in
theorem lB_23 {L : Nat} {xs : Nat → Int32} {H1 H2 : zH} {k I : Int} {x7 x8 : Option Value} {f : UInt32} (hl : zl H1 0 = L) (hm : ∀ n, n < L → zm H1 0 n = .int (Int32.ofInt (xs n).toInt)) (h32 : zk H1 32 = 6) (hI : 0 ≤ I ∧ I + 6 ≤ (L : Int) ∧ (L : Int) ≤ 3072) (e : zc 155 5 [.ref 32] H1 = some (.inl (some (.float f)), H2)) : zx 219 1579 [some (.ref 0), some (.ref 3), some (.ref 32), some (.ref 68), some (.ref 69), some (.int (Int32.ofInt I)), some (.int (Int32.ofInt k)), x7, x8] [] H1 = zx 219 1585 [some (.ref 0), some (.ref 3), some (.ref 32), some (.ref 68), some (.ref 69), some (.int (Int32.ofInt I)), some (.int (Int32.ofInt k)), some (.float f), x8] [] H2 := by
  simp (disch := omega) only [zentry, zs0, zs1, zs2, zs3, zg_lo, zg_st, zg_st2, zg_ald, zg_ast, zs_ia, zs_i0, zg_ii, zi_max, zi_min, zi_abi, zi_abf, zi_fb, zi_bf, lget, lst, lst2, lc2, Option.map_some, zso, if_true, if_false, zc1, and_true, true_and, and_self, List.length_nil, List.length_cons, Nat.zero_le, reduceIte, reduceCtorEq, false_and, and_false, Bool.false_eq_true, zca_some, zr0, zr100, Option.bind_some, zb_none, zb_some, zrc, or_true, true_or, eq_self, ne_eq, not_true_eq_false, not_false_eq_true, zrt_i, zrt_zb, zrt_b, zrt_c, zrt_l, zrt_f, zrt_r, zrt_n, zrt_v, zft_0, zft_1, zft_zb, zft_3, zft_4, zft_5, zft_7r, zft_7n, iI_t, zb_i, zb_0, zb_1, Nat.reduceAdd, Nat.reduceLeDiff, Nat.reduceEqDiff, Nat.reduceSub, Int.reduceNeg, iI_add, iI_sub, iI_mul, iI_neg, zbz, zin, if_pos, if_neg, Int.toNat_natCast, Int.natCast_zero, Int.reduceToNat, zt1, zt2, zt3, zt4, zt5, zt6, zt7, zt8, y219_23b, hl, hm, h32, e]
set_option maxRecDepth 20000 in
theorem lC_23 {H2 : zH} {k I : Int} {x8 : Option Value} {f : UInt32} {d : UInt64} (h32 : zk H2 32 = 6) (e : zc 103 1 [.ref 32] H2 = some (.inl (some (.int (Int32.ofInt k))), H2)) (rk : iR k) (k68 : zk H2 69 = 25) (l68 : zl H2 69 = 1) (m68 : zm H2 69 0 = .double d) (hv : k = 0 → FP.Core.fIsNaN f = false ∧ FP.dcmp d (FP.f2d f) = some .eq) : zx 219 1585 [some (.ref 0), some (.ref 3), some (.ref 32), some (.ref 68), some (.ref 69), some (.int (Int32.ofInt I)), some (.int (Int32.ofInt k)), some (.float f), x8] [] H2 = zx 219 2268 [some (.ref 0), some (.ref 3), some (.ref 32), some (.ref 68), some (.ref 69), some (.int (Int32.ofInt I)), some (.int (Int32.ofInt k)), some (.float f), x8] [] H2 := by
  by_cases g : k = 0
  · subst g
    have n64 := (fl_d2 (hv rfl).1).1
    have dc := (hv rfl).2
    simp (disch := omega) only [zentry, zs0, zs1, zs2, zs3, zg_lo, zg_st, zg_st2, zg_ald, zg_ast, zs_ia, zs_i0, zg_ii, zi_max, zi_min, zi_abi, zi_abf, zi_fb, zi_bf, lget, lst, lst2, lc2, Option.map_some, zso, if_true, if_false, zc1, and_true, true_and, and_self, List.length_nil, List.length_cons, Nat.zero_le, reduceIte, reduceCtorEq, false_and, and_false, Bool.false_eq_true, zca_some, zr0, zr100, Option.bind_some, zb_none, zb_some, zrc, or_true, true_or, eq_self, ne_eq, not_true_eq_false, not_false_eq_true, zrt_i, zrt_zb, zrt_b, zrt_c, zrt_l, zrt_f, zrt_r, zrt_n, zrt_v, zft_0, zft_1, zft_zb, zft_3, zft_4, zft_5, zft_7r, zft_7n, iI_t, zb_i, zb_0, zb_1, Nat.reduceAdd, Nat.reduceLeDiff, Nat.reduceEqDiff, Nat.reduceSub, Int.reduceNeg, iI_add, iI_sub, iI_mul, iI_neg, zbz, zin, if_pos, if_neg, Int.toNat_natCast, Int.natCast_zero, Int.reduceToNat, zt1, zt2, zt3, zt4, zt5, zt6, zt7, zt8, y219_23c, h32, e, k68, l68, m68, n64, dc, lw_c0]
  · simp (disch := omega) only [zentry, zs0, zs1, zs2, zs3, zg_lo, zg_st, zg_st2, zg_ald, zg_ast, zs_ia, zs_i0, zg_ii, zi_max, zi_min, zi_abi, zi_abf, zi_fb, zi_bf, lget, lst, lst2, lc2, Option.map_some, zso, if_true, if_false, zc1, and_true, true_and, and_self, List.length_nil, List.length_cons, Nat.zero_le, reduceIte, reduceCtorEq, false_and, and_false, Bool.false_eq_true, zca_some, zr0, zr100, Option.bind_some, zb_none, zb_some, zrc, or_true, true_or, eq_self, ne_eq, not_true_eq_false, not_false_eq_true, zrt_i, zrt_zb, zrt_b, zrt_c, zrt_l, zrt_f, zrt_r, zrt_n, zrt_v, zft_0, zft_1, zft_zb, zft_3, zft_4, zft_5, zft_7r, zft_7n, iI_t, zb_i, zb_0, zb_1, Nat.reduceAdd, Nat.reduceLeDiff, Nat.reduceEqDiff, Nat.reduceSub, Int.reduceNeg, iI_add, iI_sub, iI_mul, iI_neg, zbz, zin, if_pos, if_neg, Int.toNat_natCast, Int.natCast_zero, Int.reduceToNat, zt1, zt2, zt3, zt4, zt5, zt6, zt7, zt8, y219_23c, h32, e, g]

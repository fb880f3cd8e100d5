/-! the law, case by case (a program has written them) -/
set_option maxRecDepth 4000 in
theorem y219_30 :
  (∀ (ls : zL) (st : zS) (h : zH), zx 219 2031 ls st h = zgo 219 (zpure (.aload_n 1) 2032 0 [] ls st h)) ∧
  (∀ (ls : zL) (st : zS) (h : zH), zx 219 2032 ls st h = zca 219 2032 2035 ls 72 1 6 (ztake 1 st) h) ∧
  (∀ (ls : zL) (st : zS) (h : zH), zx 219 2035 ls st h = zgo 219 (zpure (.aload_n 2) 2036 0 [] ls st h)) ∧
  (∀ (ls : zL) (st : zS) (h : zH), zx 219 2036 ls st h = zca 219 2036 2039 ls 158 1 7 (ztake 1 st) h) ∧
  (∀ (ls : zL) (st : zS) (h : zH), zx 219 2039 ls st h = zgo 219 (zpure (.if_icmp .eq 229) 2042 2268 [] ls st h)) ∧
  (∀ (ls : zL) (st : zS) (h : zH), zx 219 2042 ls st h = zgo 219 (zpure (.iconst 0) 2043 0 [] ls st h)) ∧
  (∀ (ls : zL) (st : zS) (h : zH), zx 219 2043 ls st h = zret 1 st h) :=
  ⟨zx_0 rfl, zx_2c rfl, zx_0 rfl, zx_2c rfl, zx_0 rfl, zx_0 rfl, zx_1 rfl⟩
set_option maxRecDepth 20000 in
theorem lN_30 {H H1 H2 : zH} {k I : Int} {x6 x7 x8 : Option Value} (h3 : zk H 3 = 5) (h32 : zk H1 32 = 6) (e : zc 72 1 [.ref 3] H = some (.inl (some (.int (Int32.ofInt k))), H1)) (e2 : zc 158 1 [.ref 32] H1 = some (.inl (some (.int (Int32.ofInt k))), H2)) : zx 219 2031 [some (.ref 0), some (.ref 3), some (.ref 32), some (.ref 68), some (.ref 69), some (.int (Int32.ofInt I)), x6, x7, x8] [] H = zx 219 2268 [some (.ref 0), some (.ref 3), some (.ref 32), some (.ref 68), some (.ref 69), some (.int (Int32.ofInt I)), x6, x7, x8] [] H2 := by
  simp (disch := omega) only [zentry, zs0, zs1, zs2, zs3, zg_lo, zg_st, zg_st2, zg_ald, zg_ast, zs_ia, zs_i0, zg_ii, zi_max, zi_min, zi_abi, zi_abf, zi_fb, zi_bf, lget, lst, lst2, lc2, Option.map_some, zso, if_true, if_false, zc1, and_true, true_and, and_self, List.length_nil, List.length_cons, Nat.zero_le, reduceIte, reduceCtorEq, false_and, and_false, Bool.false_eq_true, zca_some, zr0, zr100, Option.bind_some, zb_none, zb_some, zrc, or_true, true_or, eq_self, ne_eq, not_true_eq_false, not_false_eq_true, zrt_i, zrt_zb, zrt_b, zrt_c, zrt_l, zrt_f, zrt_r, zrt_n, zrt_v, zft_0, zft_1, zft_zb, zft_3, zft_4, zft_5, zft_7r, zft_7n, iI_t, zb_i, zb_0, zb_1, Nat.reduceAdd, Nat.reduceLeDiff, Nat.reduceEqDiff, Nat.reduceSub, Int.reduceNeg, iI_add, iI_sub, iI_mul, iI_neg, zbz, zin, if_pos, if_neg, Int.toNat_natCast, Int.natCast_zero, Int.reduceToNat, zt1, zt2, zt3, zt4, zt5, zt6, zt7, zt8, y219_30, h3, h32, e, e2]
set_option maxRecDepth 4000 in
theorem y219_31 :
  (∀ (ls : zL) (st : zS) (h : zH), zx 219 2044 ls st h = zgo 219 (zpure (.aload_n 1) 2045 0 [] ls st h)) ∧
  (∀ (ls : zL) (st : zS) (h : zH), zx 219 2045 ls st h = zca 219 2045 2048 ls 73 1 6 (ztake 1 st) h) ∧
  (∀ (ls : zL) (st : zS) (h : zH), zx 219 2048 ls st h = zgo 219 (zpure (.aload_n 2) 2049 0 [] ls st h)) ∧
  (∀ (ls : zL) (st : zS) (h : zH), zx 219 2049 ls st h = zca 219 2049 2052 ls 159 1 7 (ztake 1 st) h) ∧
  (∀ (ls : zL) (st : zS) (h : zH), zx 219 2052 ls st h = zgo 219 (zpure (.if_icmp .eq 216) 2055 2268 [] ls st h)) ∧
  (∀ (ls : zL) (st : zS) (h : zH), zx 219 2055 ls st h = zgo 219 (zpure (.iconst 0) 2056 0 [] ls st h)) ∧
  (∀ (ls : zL) (st : zS) (h : zH), zx 219 2056 ls st h = zret 1 st h) :=
  ⟨zx_0 rfl, zx_2c rfl, zx_0 rfl, zx_2c rfl, zx_0 rfl, zx_0 rfl, zx_1 rfl⟩
set_option maxRecDepth 20000 in
theorem lN_31 {H H1 H2 : zH} {k I : Int} {x6 x7 x8 : Option Value} (h3 : zk H 3 = 5) (h32 : zk H1 32 = 6) (e : zc 73 1 [.ref 3] H = some (.inl (some (.int (Int32.ofInt k))), H1)) (e2 : zc 159 1 [.ref 32] H1 = some (.inl (some (.int (Int32.ofInt k))), H2)) : zx 219 2044 [some (.ref 0), some (.ref 3), some (.ref 32), some (.ref 68), some (.ref 69), some (.int (Int32.ofInt I)), x6, x7, x8] [] H = zx 219 2268 [some (.ref 0), some (.ref 3), some (.ref 32), some (.ref 68), some (.ref 69), some (.int (Int32.ofInt I)), x6, x7, x8] [] H2 := by
  simp (disch := omega) only [zentry, zs0, zs1, zs2, zs3, zg_lo, zg_st, zg_st2, zg_ald, zg_ast, zs_ia, zs_i0, zg_ii, zi_max, zi_min, zi_abi, zi_abf, zi_fb, zi_bf, lget, lst, lst2, lc2, Option.map_some, zso, if_true, if_false, zc1, and_true, true_and, and_self, List.length_nil, List.length_cons, Nat.zero_le, reduceIte, reduceCtorEq, false_and, and_false, Bool.false_eq_true, zca_some, zr0, zr100, Option.bind_some, zb_none, zb_some, zrc, or_true, true_or, eq_self, ne_eq, not_true_eq_false, not_false_eq_true, zrt_i, zrt_zb, zrt_b, zrt_c, zrt_l, zrt_f, zrt_r, zrt_n, zrt_v, zft_0, zft_1, zft_zb, zft_3, zft_4, zft_5, zft_7r, zft_7n, iI_t, zb_i, zb_0, zb_1, Nat.reduceAdd, Nat.reduceLeDiff, Nat.reduceEqDiff, Nat.reduceSub, Int.reduceNeg, iI_add, iI_sub, iI_mul, iI_neg, zbz, zin, if_pos, if_neg, Int.toNat_natCast, Int.natCast_zero, Int.reduceToNat, zt1, zt2, zt3, zt4, zt5, zt6, zt7, zt8, y219_31, h3, h32, e, e2]
set_option maxRecDepth 4000 in
theorem y219_32a :
  (∀ (ls : zL) (st : zS) (h : zH), zx 219 2057 ls st h = zgo 219 (zpure (.aload_n 1) 2058 0 [] ls st h)) ∧
  (∀ (ls : zL) (st : zS) (h : zH), zx 219 2058 ls st h = zgo 219 (zpure (.aload_n 0) 2059 0 [] ls st h)) ∧
  (∀ (ls : zL) (st : zS) (h : zH), zx 219 2059 ls st h = zgo 219 (zpure (.iload 5) 2061 0 [] ls st h)) ∧
  (∀ (ls : zL) (st : zS) (h : zH), zx 219 2061 ls st h = zgo 219 (zpure (.iconst 1) 2062 0 [] ls st h)) ∧
  (∀ (ls : zL) (st : zS) (h : zH), zx 219 2062 ls st h = zgo 219 (zpure .iadd 2063 0 [] ls st h)) ∧
  (∀ (ls : zL) (st : zS) (h : zH), zx 219 2063 ls st h = zgo 219 (zpure .iaload 2064 0 [] ls st h)) ∧
  (∀ (ls : zL) (st : zS) (h : zH), zx 219 2064 ls st h = zgo 219 (zpure (.aload_n 3) 2065 0 [] ls st h)) ∧
  (∀ (ls : zL) (st : zS) (h : zH), zx 219 2065 ls st h = zca 219 2065 2068 ls 215 4 0 (ztake 3 st) h) ∧
  (∀ (ls : zL) (st : zS) (h : zH), zx 219 2068 ls st h = zgo 219 (zpure (.istore 6) 2070 0 [] ls st h)) :=
  ⟨zx_0 rfl, zx_0 rfl, zx_0 rfl, zx_0 rfl, zx_0 rfl, zx_0 rfl, zx_0 rfl, zx_2c rfl, zx_0 rfl⟩
set_option maxRecDepth 4000 in
theorem y219_32b :
  (∀ (ls : zL) (st : zS) (h : zH), zx 219 2070 ls st h = zgo 219 (zpure (.aload_n 2) 2071 0 [] ls st h)) ∧
  (∀ (ls : zL) (st : zS) (h : zH), zx 219 2071 ls st h = zgo 219 (zpure (.aload_n 0) 2072 0 [] ls st h)) ∧
  (∀ (ls : zL) (st : zS) (h : zH), zx 219 2072 ls st h = zgo 219 (zpure (.iload 5) 2074 0 [] ls st h)) ∧
  (∀ (ls : zL) (st : zS) (h : zH), zx 219 2074 ls st h = zgo 219 (zpure (.iconst 1) 2075 0 [] ls st h)) ∧
  (∀ (ls : zL) (st : zS) (h : zH), zx 219 2075 ls st h = zgo 219 (zpure .iadd 2076 0 [] ls st h)) ∧
  (∀ (ls : zL) (st : zS) (h : zH), zx 219 2076 ls st h = zgo 219 (zpure .iaload 2077 0 [] ls st h)) ∧
  (∀ (ls : zL) (st : zS) (h : zH), zx 219 2077 ls st h = zca 219 2077 2080 ls 160 2 7 (ztake 2 st) h) ∧
  (∀ (ls : zL) (st : zS) (h : zH), zx 219 2080 ls st h = zgo 219 (zpure (.istore 7) 2082 0 [] ls st h)) :=
  ⟨zx_0 rfl, zx_0 rfl, zx_0 rfl, zx_0 rfl, zx_0 rfl, zx_0 rfl, zx_2c rfl, zx_0 rfl⟩
set_option maxRecDepth 4000 in
theorem y219_32c :
  (∀ (ls : zL) (st : zS) (h : zH), zx 219 2082 ls st h = zgo 219 (zpure (.aload_n 2) 2083 0 [] ls st h)) ∧
  (∀ (ls : zL) (st : zS) (h : zH), zx 219 2083 ls st h = zca 219 2083 2086 ls 103 1 7 (ztake 1 st) h) ∧
  (∀ (ls : zL) (st : zS) (h : zH), zx 219 2086 ls st h = zgo 219 (zpure (.iload 6) 2088 0 [] ls st h)) ∧
  (∀ (ls : zL) (st : zS) (h : zH), zx 219 2088 ls st h = zgo 219 (zpure (.if_icmp .eq 5) 2091 2093 [] ls st h)) ∧
  (∀ (ls : zL) (st : zS) (h : zH), zx 219 2091 ls st h = zgo 219 (zpure (.iconst 0) 2092 0 [] ls st h)) ∧
  (∀ (ls : zL) (st : zS) (h : zH), zx 219 2092 ls st h = zret 1 st h) ∧
  (∀ (ls : zL) (st : zS) (h : zH), zx 219 2093 ls st h = zgo 219 (zpure (.iload 6) 2095 0 [] ls st h)) ∧
  (∀ (ls : zL) (st : zS) (h : zH), zx 219 2095 ls st h = zgo 219 (zpure (.ifCond .ne 15) 2098 2110 [] ls st h)) ∧
  (∀ (ls : zL) (st : zS) (h : zH), zx 219 2098 ls st h = zgo 219 (zpure (.aload_n 3) 2099 0 [] ls st h)) ∧
  (∀ (ls : zL) (st : zS) (h : zH), zx 219 2099 ls st h = zgo 219 (zpure (.iconst 0) 2100 0 [] ls st h)) ∧
  (∀ (ls : zL) (st : zS) (h : zH), zx 219 2100 ls st h = zgo 219 (zpure .laload 2101 0 [] ls st h)) ∧
  (∀ (ls : zL) (st : zS) (h : zH), zx 219 2101 ls st h = zgo 219 (zpure (.iload 7) 2103 0 [] ls st h)) ∧
  (∀ (ls : zL) (st : zS) (h : zH), zx 219 2103 ls st h = zgo 219 (zpure .i2l 2104 0 [] ls st h)) ∧
  (∀ (ls : zL) (st : zS) (h : zH), zx 219 2104 ls st h = zgo 219 (zpure .lcmp 2105 0 [] ls st h)) ∧
  (∀ (ls : zL) (st : zS) (h : zH), zx 219 2105 ls st h = zgo 219 (zpure (.ifCond .eq 5) 2108 2110 [] ls st h)) ∧
  (∀ (ls : zL) (st : zS) (h : zH), zx 219 2108 ls st h = zgo 219 (zpure (.iconst 0) 2109 0 [] ls st h)) ∧
  (∀ (ls : zL) (st : zS) (h : zH), zx 219 2109 ls st h = zret 1 st h) ∧
  (∀ (ls : zL) (st : zS) (h : zH), zx 219 2110 ls st h = zgo 219 (zpure (.goto 158) 2113 2268 [] ls st h)) :=
  ⟨zx_0 rfl, zx_2c rfl, zx_0 rfl, zx_0 rfl, zx_0 rfl, zx_1 rfl, zx_0 rfl, zx_0 rfl, zx_0 rfl, zx_0 rfl, zx_0 rfl, zx_0 rfl, zx_0 rfl, zx_0 rfl, zx_0 rfl, zx_0 rfl, zx_1 rfl, zx_0 rfl⟩
set_option maxRecDepth 20000 in
theorem lA_32 {L : Nat} {xs : Nat → Int32} {H H1 : zH} {k I : Int} {x6 x7 x8 : Option Value} (hl : zl H 0 = L) (hm : ∀ n, n < L → zm H 0 n = .int (Int32.ofInt (xs n).toInt)) (hI : 0 ≤ I ∧ I + 6 ≤ (L : Int) ∧ (L : Int) ≤ 3072) (e : zc 215 4 [.ref 3, .int (Int32.ofInt (xs (I + 1).toNat).toInt), .ref 68] H = some (.inl (some (.int (Int32.ofInt k))), H1)) : zx 219 2057 [some (.ref 0), some (.ref 3), some (.ref 32), some (.ref 68), some (.ref 69), some (.int (Int32.ofInt I)), x6, x7, x8] [] H = zx 219 2070 [some (.ref 0), some (.ref 3), some (.ref 32), some (.ref 68), some (.ref 69), some (.int (Int32.ofInt I)), some (.int (Int32.ofInt k)), x7, x8] [] H1 := by
  simp (disch := omega) only [zentry, zs0, zs1, zs2, zs3, zg_lo, zg_st, zg_st2, zg_ald, zg_ast, zs_ia, zs_i0, zg_ii, zi_max, zi_min, zi_abi, zi_abf, zi_fb, zi_bf, lget, lst, lst2, lc2, Option.map_some, zso, if_true, if_false, zc1, and_true, true_and, and_self, List.length_nil, List.length_cons, Nat.zero_le, reduceIte, reduceCtorEq, false_and, and_false, Bool.false_eq_true, zca_some, zr0, zr100, Option.bind_some, zb_none, zb_some, zrc, or_true, true_or, eq_self, ne_eq, not_true_eq_false, not_false_eq_true, zrt_i, zrt_zb, zrt_b, zrt_c, zrt_l, zrt_f, zrt_r, zrt_n, zrt_v, zft_0, zft_1, zft_zb, zft_3, zft_4, zft_5, zft_7r, zft_7n, iI_t, zb_i, zb_0, zb_1, Nat.reduceAdd, Nat.reduceLeDiff, Nat.reduceEqDiff, Nat.reduceSub, Int.reduceNeg, iI_add, iI_sub, iI_mul, iI_neg, zbz, zin, if_pos, if_neg, Int.toNat_natCast, Int.natCast_zero, Int.reduceToNat, zt1, zt2, zt3, zt4, zt5, zt6, zt7, zt8, y219_32a, hl, hm, e]
set_option maxRecDepth 20000 in
theorem lB_32 {L : Nat} {xs : Nat → Int32} {H1 H2 : zH} {k I : Int} {x7 x8 : Option Value} {b : Int} (hl : zl H1 0 = L) (hm : ∀ n, n < L → zm H1 0 n = .int (Int32.ofInt (xs n).toInt)) (h32 : zk H1 32 = 6) (hI : 0 ≤ I ∧ I + 6 ≤ (L : Int) ∧ (L : Int) ≤ 3072) (e : zc 160 2 [.ref 32, .int (Int32.ofInt (xs (I + 1).toNat).toInt)] H1 = some (.inl (some (.int (Int32.ofInt b))), H2)) : zx 219 2070 [some (.ref 0), some (.ref 3), some (.ref 32), some (.ref 68), some (.ref 69), some (.int (Int32.ofInt I)), some (.int (Int32.ofInt k)), x7, x8] [] H1 = zx 219 2082 [some (.ref 0), some (.ref 3), some (.ref 32), some (.ref 68), some (.ref 69), some (.int (Int32.ofInt I)), some (.int (Int32.ofInt k)), some (.int (Int32.ofInt b)), x8] [] H2 := by
  simp (disch := omega) only [zentry, zs0, zs1, zs2, zs3, zg_lo, zg_st, zg_st2, zg_ald, zg_ast, zs_ia, zs_i0, zg_ii, zi_max, zi_min, zi_abi, zi_abf, zi_fb, zi_bf, lget, lst, lst2, lc2, Option.map_some, zso, if_true, if_false, zc1, and_true, true_and, and_self, List.length_nil, List.length_cons, Nat.zero_le, reduceIte, reduceCtorEq, false_and, and_false, Bool.false_eq_true, zca_some, zr0, zr100, Option.bind_some, zb_none, zb_some, zrc, or_true, true_or, eq_self, ne_eq, not_true_eq_false, not_false_eq_true, zrt_i, zrt_zb, zrt_b, zrt_c, zrt_l, zrt_f, zrt_r, zrt_n, zrt_v, zft_0, zft_1, zft_zb, zft_3, zft_4, zft_5, zft_7r, zft_7n, iI_t, zb_i, zb_0, zb_1, Nat.reduceAdd, Nat.reduceLeDiff, Nat.reduceEqDiff, Nat.reduceSub, Int.reduceNeg, iI_add, iI_sub, iI_mul, iI_neg, zbz, zin, if_pos, if_neg, Int.toNat_natCast, Int.natCast_zero, Int.reduceToNat, zt1, zt2, zt3, zt4, zt5, zt6, zt7, zt8, y219_32b, hl, hm, h32, e]
set_option maxRecDepth 20000 in
theorem lC_32 {H2 : zH} {k I : Int} {x8 : Option Value} {b v : Int} (h32 : zk H2 32 = 6) (e : zc 103 1 [.ref 32] H2 = some (.inl (some (.int (Int32.ofInt k))), H2)) (rk : iR k) (rb : iR b) (k68 : zk H2 68 = 24) (l68 : zl H2 68 = 1) (m68 : zm H2 68 0 = .long (Int64.ofInt v)) (hv : k = 0 → v = b) : zx 219 2082 [some (.ref 0), some (.ref 3), some (.ref 32), some (.ref 68), some (.ref 69), some (.int (Int32.ofInt I)), some (.int (Int32.ofInt k)), some (.int (Int32.ofInt b)), x8] [] H2 = zx 219 2268 [some (.ref 0), some (.ref 3), some (.ref 32), some (.ref 68), some (.ref 69), some (.int (Int32.ofInt I)), some (.int (Int32.ofInt k)), some (.int (Int32.ofInt b)), x8] [] H2 := by
  by_cases g : k = 0
  · subst g
    have hb : v = b := hv rfl
    simp (disch := omega) only [zentry, zs0, zs1, zs2, zs3, zg_lo, zg_st, zg_st2, zg_ald, zg_ast, zs_ia, zs_i0, zg_ii, zi_max, zi_min, zi_abi, zi_abf, zi_fb, zi_bf, lget, lst, lst2, lc2, Option.map_some, zso, if_true, if_false, zc1, and_true, true_and, and_self, List.length_nil, List.length_cons, Nat.zero_le, reduceIte, reduceCtorEq, false_and, and_false, Bool.false_eq_true, zca_some, zr0, zr100, Option.bind_some, zb_none, zb_some, zrc, or_true, true_or, eq_self, ne_eq, not_true_eq_false, not_false_eq_true, zrt_i, zrt_zb, zrt_b, zrt_c, zrt_l, zrt_f, zrt_r, zrt_n, zrt_v, zft_0, zft_1, zft_zb, zft_3, zft_4, zft_5, zft_7r, zft_7n, iI_t, zb_i, zb_0, zb_1, Nat.reduceAdd, Nat.reduceLeDiff, Nat.reduceEqDiff, Nat.reduceSub, Int.reduceNeg, iI_add, iI_sub, iI_mul, iI_neg, zbz, zin, if_pos, if_neg, Int.toNat_natCast, Int.natCast_zero, Int.reduceToNat, zt1, zt2, zt3, zt4, zt5, zt6, zt7, zt8, y219_32c, h32, e, k68, l68, m68, hb, zl_ii, lw_l1]
  · simp (disch := omega) only [zentry, zs0, zs1, zs2, zs3, zg_lo, zg_st, zg_st2, zg_ald, zg_ast, zs_ia, zs_i0, zg_ii, zi_max, zi_min, zi_abi, zi_abf, zi_fb, zi_bf, lget, lst, lst2, lc2, Option.map_some, zso, if_true, if_false, zc1, and_true, true_and, and_self, List.length_nil, List.length_cons, Nat.zero_le, reduceIte, reduceCtorEq, false_and, and_false, Bool.false_eq_true, zca_some, zr0, zr100, Option.bind_some, zb_none, zb_some, zrc, or_true, true_or, eq_self, ne_eq, not_true_eq_false, not_false_eq_true, zrt_i, zrt_zb, zrt_b, zrt_c, zrt_l, zrt_f, zrt_r, zrt_n, zrt_v, zft_0, zft_1, zft_zb, zft_3, zft_4, zft_5, zft_7r, zft_7n, iI_t, zb_i, zb_0, zb_1, Nat.reduceAdd, Nat.reduceLeDiff, Nat.reduceEqDiff, Nat.reduceSub, Int.reduceNeg, iI_add, iI_sub, iI_mul, iI_neg, zbz, zin, if_pos, if_neg, Int.toNat_natCast, Int.natCast_zero, Int.reduceToNat, zt1, zt2, zt3, zt4, zt5, zt6, zt7, zt8, y219_32c, h32, e, g]
set_option maxRecDepth 4000 in
theorem y219_33a :
  (∀ (ls : zL) (st : zS) (h : zH), zx 219 2113 ls st h = zgo 219 (zpure (.aload_n 1) 2114 0 [] ls st h)) ∧
  (∀ (ls : zL) (st : zS) (h : zH), zx 219 2114 ls st h = zgo 219 (zpure (.aload_n 0) 2115 0 [] ls st h)) ∧
  (∀ (ls : zL) (st : zS) (h : zH), zx 219 2115 ls st h = zgo 219 (zpure (.iload 5) 2117 0 [] ls st h)) ∧
  (∀ (ls : zL) (st : zS) (h : zH), zx 219 2117 ls st h = zgo 219 (zpure (.iconst 1) 2118 0 [] ls st h)) ∧
  (∀ (ls : zL) (st : zS) (h : zH), zx 219 2118 ls st h = zgo 219 (zpure .iadd 2119 0 [] ls st h)) ∧
  (∀ (ls : zL) (st : zS) (h : zH), zx 219 2119 ls st h = zgo 219 (zpure .iaload 2120 0 [] ls st h)) ∧
  (∀ (ls : zL) (st : zS) (h : zH), zx 219 2120 ls st h = zgo 219 (zpure (.aload_n 3) 2121 0 [] ls st h)) ∧
  (∀ (ls : zL) (st : zS) (h : zH), zx 219 2121 ls st h = zca 219 2121 2124 ls 216 4 0 (ztake 3 st) h) ∧
  (∀ (ls : zL) (st : zS) (h : zH), zx 219 2124 ls st h = zgo 219 (zpure (.istore 6) 2126 0 [] ls st h)) :=
  ⟨zx_0 rfl, zx_0 rfl, zx_0 rfl, zx_0 rfl, zx_0 rfl, zx_0 rfl, zx_0 rfl, zx_2c rfl, zx_0 rfl⟩
set_option maxRecDepth 4000 in
theorem y219_33b :
  (∀ (ls : zL) (st : zS) (h : zH), zx 219 2126 ls st h = zgo 219 (zpure (.aload_n 2) 2127 0 [] ls st h)) ∧
  (∀ (ls : zL) (st : zS) (h : zH), zx 219 2127 ls st h = zgo 219 (zpure (.aload_n 0) 2128 0 [] ls st h)) ∧
  (∀ (ls : zL) (st : zS) (h : zH), zx 219 2128 ls st h = zgo 219 (zpure (.iload 5) 2130 0 [] ls st h)) ∧
  (∀ (ls : zL) (st : zS) (h : zH), zx 219 2130 ls st h = zgo 219 (zpure (.iconst 1) 2131 0 [] ls st h)) ∧
  (∀ (ls : zL) (st : zS) (h : zH), zx 219 2131 ls st h = zgo 219 (zpure .iadd 2132 0 [] ls st h)) ∧
  (∀ (ls : zL) (st : zS) (h : zH), zx 219 2132 ls st h = zgo 219 (zpure .iaload 2133 0 [] ls st h)) ∧
  (∀ (ls : zL) (st : zS) (h : zH), zx 219 2133 ls st h = zca 219 2133 2136 ls 161 2 7 (ztake 2 st) h) ∧
  (∀ (ls : zL) (st : zS) (h : zH), zx 219 2136 ls st h = zgo 219 (zpure (.istore 7) 2138 0 [] ls st h)) :=
  ⟨zx_0 rfl, zx_0 rfl, zx_0 rfl, zx_0 rfl, zx_0 rfl, zx_0 rfl, zx_2c rfl, zx_0 rfl⟩
set_option maxRecDepth 4000 in
theorem y219_33c :
  (∀ (ls : zL) (st : zS) (h : zH), zx 219 2138 ls st h = zgo 219 (zpure (.aload_n 2) 2139 0 [] ls st h)) ∧
  (∀ (ls : zL) (st : zS) (h : zH), zx 219 2139 ls st h = zca 219 2139 2142 ls 103 1 7 (ztake 1 st) h) ∧
  (∀ (ls : zL) (st : zS) (h : zH), zx 219 2142 ls st h = zgo 219 (zpure (.iload 6) 2144 0 [] ls st h)) ∧
  (∀ (ls : zL) (st : zS) (h : zH), zx 219 2144 ls st h = zgo 219 (zpure (.if_icmp .eq 5) 2147 2149 [] ls st h)) ∧
  (∀ (ls : zL) (st : zS) (h : zH), zx 219 2147 ls st h = zgo 219 (zpure (.iconst 0) 2148 0 [] ls st h)) ∧
  (∀ (ls : zL) (st : zS) (h : zH), zx 219 2148 ls st h = zret 1 st h) ∧
  (∀ (ls : zL) (st : zS) (h : zH), zx 219 2149 ls st h = zgo 219 (zpure (.iload 6) 2151 0 [] ls st h)) ∧
  (∀ (ls : zL) (st : zS) (h : zH), zx 219 2151 ls st h = zgo 219 (zpure (.ifCond .ne 15) 2154 2166 [] ls st h)) ∧
  (∀ (ls : zL) (st : zS) (h : zH), zx 219 2154 ls st h = zgo 219 (zpure (.aload_n 3) 2155 0 [] ls st h)) ∧
  (∀ (ls : zL) (st : zS) (h : zH), zx 219 2155 ls st h = zgo 219 (zpure (.iconst 0) 2156 0 [] ls st h)) ∧
  (∀ (ls : zL) (st : zS) (h : zH), zx 219 2156 ls st h = zgo 219 (zpure .laload 2157 0 [] ls st h)) ∧
  (∀ (ls : zL) (st : zS) (h : zH), zx 219 2157 ls st h = zgo 219 (zpure (.iload 7) 2159 0 [] ls st h)) ∧
  (∀ (ls : zL) (st : zS) (h : zH), zx 219 2159 ls st h = zgo 219 (zpure .i2l 2160 0 [] ls st h)) ∧
  (∀ (ls : zL) (st : zS) (h : zH), zx 219 2160 ls st h = zgo 219 (zpure .lcmp 2161 0 [] ls st h)) ∧
  (∀ (ls : zL) (st : zS) (h : zH), zx 219 2161 ls st h = zgo 219 (zpure (.ifCond .eq 5) 2164 2166 [] ls st h)) ∧
  (∀ (ls : zL) (st : zS) (h : zH), zx 219 2164 ls st h = zgo 219 (zpure (.iconst 0) 2165 0 [] ls st h)) ∧
  (∀ (ls : zL) (st : zS) (h : zH), zx 219 2165 ls st h = zret 1 st h) ∧
  (∀ (ls : zL) (st : zS) (h : zH), zx 219 2166 ls st h = zgo 219 (zpure (.goto 102) 2169 2268 [] ls st h)) :=
  ⟨zx_0 rfl, zx_2c rfl, zx_0 rfl, zx_0 rfl, zx_0 rfl, zx_1 rfl, zx_0 rfl, zx_0 rfl, zx_0 rfl, zx_0 rfl, zx_0 rfl, zx_0 rfl, zx_0 rfl, zx_0 rfl, zx_0 rfl, zx_0 rfl, zx_1 rfl, zx_0 rfl⟩
set_option maxRecDepth 20000 in
theorem lA_33 {L : Nat} {xs : Nat → Int32} {H H1 : zH} {k I : Int} {x6 x7 x8 : Option Value} (hl : zl H 0 = L) (hm : ∀ n, n < L → zm H 0 n = .int (Int32.ofInt (xs n).toInt)) (hI : 0 ≤ I ∧ I + 6 ≤ (L : Int) ∧ (L : Int) ≤ 3072) (e : zc 216 4 [.ref 3, .int (Int32.ofInt (xs (I + 1).toNat).toInt), .ref 68] H = some (.inl (some (.int (Int32.ofInt k))), H1)) : zx 219 2113 [some (.ref 0), some (.ref 3), some (.ref 32), some (.ref 68), some (.ref 69), some (.int (Int32.ofInt I)), x6, x7, x8] [] H = zx 219 2126 [some (.ref 0), some (.ref 3), some (.ref 32), some (.ref 68), some (.ref 69), some (.int (Int32.ofInt I)), some (.int (Int32.ofInt k)), x7, x8] [] H1 := by
  simp (disch := omega) only [zentry, zs0, zs1, zs2, zs3, zg_lo, zg_st, zg_st2, zg_ald, zg_ast, zs_ia, zs_i0, zg_ii, zi_max, zi_min, zi_abi, zi_abf, zi_fb, zi_bf, lget, lst, lst2, lc2, Option.map_some, zso, if_true, if_false, zc1, and_true, true_and, and_self, List.length_nil, List.length_cons, Nat.zero_le, reduceIte, reduceCtorEq, false_and, and_false, Bool.false_eq_true, zca_some, zr0, zr100, Option.bind_some, zb_none, zb_some, zrc, or_true, true_or, eq_self, ne_eq, not_true_eq_false, not_false_eq_true, zrt_i, zrt_zb, zrt_b, zrt_c, zrt_l, zrt_f, zrt_r, zrt_n, zrt_v, zft_0, zft_1, zft_zb, zft_3, zft_4, zft_5, zft_7r, zft_7n, iI_t, zb_i, zb_0, zb_1, Nat.reduceAdd, Nat.reduceLeDiff, Nat.reduceEqDiff, Nat.reduceSub, Int.reduceNeg, iI_add, iI_sub, iI_mul, iI_neg, zbz, zin, if_pos, if_neg, Int.toNat_natCast, Int.natCast_zero, Int.reduceToNat, zt1, zt2, zt3, zt4, zt5, zt6, zt7, zt8, y219_33a, hl, hm, e]
set_option maxRecDepth 20000 in
theorem lB_33 {L : Nat} {xs : Nat → Int32} {H1 H2 : zH} {k I : Int} {x7 x8 : Option Value} {b : Int} (hl : zl H1 0 = L) (hm : ∀ n, n < L → zm H1 0 n = .int (Int32.ofInt (xs n).toInt)) (h32 : zk H1 32 = 6) (hI : 0 ≤ I ∧ I + 6 ≤ (L : Int) ∧ (L : Int) ≤ 3072) (e : zc 161 2 [.ref 32, .int (Int32.ofInt (xs (I + 1).toNat).toInt)] H1 = some (.inl (some (.int (Int32.ofInt b))), H2)) : zx 219 2126 [some (.ref 0), some (.ref 3), some (.ref 32), some (.ref 68), some (.ref 69), some (.int (Int32.ofInt I)), some (.int (Int32.ofInt k)), x7, x8] [] H1 = zx 219 2138 [some (.ref 0), some (.ref 3), some (.ref 32), some (.ref 68), some (.ref 69), some (.int (Int32.ofInt I)), some (.int (Int32.ofInt k)), some (.int (Int32.ofInt b)), x8] [] H2 := by
  simp (disch := omega) only [zentry, zs0, zs1, zs2, zs3, zg_lo, zg_st, zg_st2, zg_ald, zg_ast, zs_ia, zs_i0, zg_ii, zi_max, zi_min, zi_abi, zi_abf, zi_fb, zi_bf, lget, lst, lst2, lc2, Option.map_some, zso, if_true, if_false, zc1, and_true, true_and, and_self, List.length_nil, List.length_cons, Nat.zero_le, reduceIte, reduceCtorEq, false_and, and_false, Bool.false_eq_true, zca_some, zr0, zr100, Option.bind_some, zb_none, zb_some, zrc, or_true, true_or, eq_self, ne_eq, not_true_eq_false, not_false_eq_true, zrt_i, zrt_zb, zrt_b, zrt_c, zrt_l, zrt_f, zrt_r, zrt_n, zrt_v, zft_0, zft_1, zft_zb, zft_3, zft_4, zft_5, zft_7r, zft_7n, iI_t, zb_i, zb_0, zb_1, Nat.reduceAdd, Nat.reduceLeDiff, Nat.reduceEqDiff, Nat.reduceSub, Int.reduceNeg, iI_add, iI_sub, iI_mul, iI_neg, zbz, zin, if_pos, if_neg, Int.toNat_natCast, Int.natCast_zero, Int.reduceToNat, zt1, zt2, zt3, zt4, zt5, zt6, zt7, zt8, y219_33b, hl, hm, h32, e]
set_option maxRecDepth 20000 in
theorem lC_33 {H2 : zH} {k I : Int} {x8 : Option Value} {b v : Int} (h32 : zk H2 32 = 6) (e : zc 103 1 [.ref 32] H2 = some (.inl (some (.int (Int32.ofInt k))), H2)) (rk : iR k) (rb : iR b) (k68 : zk H2 68 = 24) (l68 : zl H2 68 = 1) (m68 : zm H2 68 0 = .long (Int64.ofInt v)) (hv : k = 0 → v = b) : zx 219 2138 [some (.ref 0), some (.ref 3), some (.ref 32), some (.ref 68), some (.ref 69), some (.int (Int32.ofInt I)), some (.int (Int32.ofInt k)), some (.int (Int32.ofInt b)), x8] [] H2 = zx 219 2268 [some (.ref 0), some (.ref 3), some (.ref 32), some (.ref 68), some (.ref 69), some (.int (Int32.ofInt I)), some (.int (Int32.ofInt k)), some (.int (Int32.ofInt b)), x8] [] H2 := by
  by_cases g : k = 0
  · subst g
    have hb : v = b := hv rfl
    simp (disch := omega) only [zentry, zs0, zs1, zs2, zs3, zg_lo, zg_st, zg_st2, zg_ald, zg_ast, zs_ia, zs_i0, zg_ii, zi_max, zi_min, zi_abi, zi_abf, zi_fb, zi_bf, lget, lst, lst2, lc2, Option.map_some, zso, if_true, if_false, zc1, and_true, true_and, and_self, List.length_nil, List.length_cons, Nat.zero_le, reduceIte, reduceCtorEq, false_and, and_false, Bool.false_eq_true, zca_some, zr0, zr100, Option.bind_some, zb_none, zb_some, zrc, or_true, true_or, eq_self, ne_eq, not_true_eq_false, not_false_eq_true, zrt_i, zrt_zb, zrt_b, zrt_c, zrt_l, zrt_f, zrt_r, zrt_n, zrt_v, zft_0, zft_1, zft_zb, zft_3, zft_4, zft_5, zft_7r, zft_7n, iI_t, zb_i, zb_0, zb_1, Nat.reduceAdd, Nat.reduceLeDiff, Nat.reduceEqDiff, Nat.reduceSub, Int.reduceNeg, iI_add, iI_sub, iI_mul, iI_neg, zbz, zin, if_pos, if_neg, Int.toNat_natCast, Int.natCast_zero, Int.reduceToNat, zt1, zt2, zt3, zt4, zt5, zt6, zt7, zt8, y219_33c, h32, e, k68, l68, m68, hb, zl_ii, lw_l1]
  · simp (disch := omega) only [zentry, zs0, zs1, zs2, zs3, zg_lo, zg_st, zg_st2, zg_ald, zg_ast, zs_ia, zs_i0, zg_ii, zi_max, zi_min, zi_abi, zi_abf, zi_fb, zi_bf, lget, lst, lst2, lc2, Option.map_some, zso, if_true, if_false, zc1, and_true, true_and, and_self, List.length_nil, List.length_cons, Nat.zero_le, reduceIte, reduceCtorEq, false_and, and_false, Bool.false_eq_true, zca_some, zr0, zr100, Option.bind_some, zb_none, zb_some, zrc, or_true, true_or, eq_self, ne_eq, not_true_eq_false, not_false_eq_true, zrt_i, zrt_zb, zrt_b, zrt_c, zrt_l, zrt_f, zrt_r, zrt_n, zrt_v, zft_0, zft_1, zft_zb, zft_3, zft_4, zft_5, zft_7r, zft_7n, iI_t, zb_i, zb_0, zb_1, Nat.reduceAdd, Nat.reduceLeDiff, Nat.reduceEqDiff, Nat.reduceSub, Int.reduceNeg, iI_add, iI_sub, iI_mul, iI_neg, zbz, zin, if_pos, if_neg, Int.toNat_natCast, Int.natCast_zero, Int.reduceToNat, zt1, zt2, zt3, zt4, zt5, zt6, zt7, zt8, y219_33c, h32, e, g]
set_option maxRecDepth 4000 in
theorem y219_34a :
  (∀ (ls : zL) (st : zS) (h : zH), zx 219 2169 ls st h = zgo 219 (zpure (.aload_n 1) 2170 0 [] ls st h)) ∧
  (∀ (ls : zL) (st : zS) (h : zH), zx 219 2170 ls st h = zgo 219 (zpure (.aload_n 3) 2171 0 [] ls st h)) ∧
  (∀ (ls : zL) (st : zS) (h : zH), zx 219 2171 ls st h = zca 219 2171 2174 ls 217 3 0 (ztake 2 st) h) ∧
  (∀ (ls : zL) (st : zS) (h : zH), zx 219 2174 ls st h = zgo 219 (zpure (.istore 6) 2176 0 [] ls st h)) :=
  ⟨zx_0 rfl, zx_0 rfl, zx_2c rfl, zx_0 rfl⟩
set_option maxRecDepth 4000 in
theorem y219_34b :
  (∀ (ls : zL) (st : zS) (h : zH), zx 219 2176 ls st h = zgo 219 (zpure (.aload_n 2) 2177 0 [] ls st h)) ∧
  (∀ (ls : zL) (st : zS) (h : zH), zx 219 2177 ls st h = zca 219 2177 2180 ls 162 4 7 (ztake 1 st) h) ∧
  (∀ (ls : zL) (st : zS) (h : zH), zx 219 2180 ls st h = zgo 219 (zpure (.istore 7) 2182 0 [] ls st h)) :=
  ⟨zx_0 rfl, zx_2c rfl, zx_0 rfl⟩
set_option maxRecDepth 4000 in
theorem y219_34c :
  (∀ (ls : zL) (st : zS) (h : zH), zx 219 2182 ls st h = zgo 219 (zpure (.aload_n 2) 2183 0 [] ls st h)) ∧
  (∀ (ls : zL) (st : zS) (h : zH), zx 219 2183 ls st h = zca 219 2183 2186 ls 103 1 7 (ztake 1 st) h) ∧
  (∀ (ls : zL) (st : zS) (h : zH), zx 219 2186 ls st h = zgo 219 (zpure (.iload 6) 2188 0 [] ls st h)) ∧
  (∀ (ls : zL) (st : zS) (h : zH), zx 219 2188 ls st h = zgo 219 (zpure (.if_icmp .eq 5) 2191 2193 [] ls st h)) ∧
  (∀ (ls : zL) (st : zS) (h : zH), zx 219 2191 ls st h = zgo 219 (zpure (.iconst 0) 2192 0 [] ls st h)) ∧
  (∀ (ls : zL) (st : zS) (h : zH), zx 219 2192 ls st h = zret 1 st h) ∧
  (∀ (ls : zL) (st : zS) (h : zH), zx 219 2193 ls st h = zgo 219 (zpure (.iload 6) 2195 0 [] ls st h)) ∧
  (∀ (ls : zL) (st : zS) (h : zH), zx 219 2195 ls st h = zgo 219 (zpure (.ifCond .ne 15) 2198 2210 [] ls st h)) ∧
  (∀ (ls : zL) (st : zS) (h : zH), zx 219 2198 ls st h = zgo 219 (zpure (.aload_n 3) 2199 0 [] ls st h)) ∧
  (∀ (ls : zL) (st : zS) (h : zH), zx 219 2199 ls st h = zgo 219 (zpure (.iconst 0) 2200 0 [] ls st h)) ∧
  (∀ (ls : zL) (st : zS) (h : zH), zx 219 2200 ls st h = zgo 219 (zpure .laload 2201 0 [] ls st h)) ∧
  (∀ (ls : zL) (st : zS) (h : zH), zx 219 2201 ls st h = zgo 219 (zpure (.iload 7) 2203 0 [] ls st h)) ∧
  (∀ (ls : zL) (st : zS) (h : zH), zx 219 2203 ls st h = zgo 219 (zpure .i2l 2204 0 [] ls st h)) ∧
  (∀ (ls : zL) (st : zS) (h : zH), zx 219 2204 ls st h = zgo 219 (zpure .lcmp 2205 0 [] ls st h)) ∧
  (∀ (ls : zL) (st : zS) (h : zH), zx 219 2205 ls st h = zgo 219 (zpure (.ifCond .eq 5) 2208 2210 [] ls st h)) ∧
  (∀ (ls : zL) (st : zS) (h : zH), zx 219 2208 ls st h = zgo 219 (zpure (.iconst 0) 2209 0 [] ls st h)) ∧
  (∀ (ls : zL) (st : zS) (h : zH), zx 219 2209 ls st h = zret 1 st h) ∧
  (∀ (ls : zL) (st : zS) (h : zH), zx 219 2210 ls st h = zgo 219 (zpure (.goto 58) 2213 2268 [] ls st h)) :=
  ⟨zx_0 rfl, zx_2c rfl, zx_0 rfl, zx_0 rfl, zx_0 rfl, zx_1 rfl, zx_0 rfl, zx_0 rfl, zx_0 rfl, zx_0 rfl, zx_0 rfl, zx_0 rfl, zx_0 rfl, zx_0 rfl, zx_0 rfl, zx_0 rfl, zx_1 rfl, zx_0 rfl⟩
set_option maxRecDepth 20000 in
theorem lA_34 {L : Nat} {xs : Nat → Int32} {H H1 : zH} {k I : Int} {x6 x7 x8 : Option Value} (hl : zl H 0 = L) (hm : ∀ n, n < L → zm H 0 n = .int (Int32.ofInt (xs n).toInt)) (hI : 0 ≤ I ∧ I + 6 ≤ (L : Int) ∧ (L : Int) ≤ 3072) (e : zc 217 3 [.ref 3, .ref 68] H = some (.inl (some (.int (Int32.ofInt k))), H1)) : zx 219 2169 [some (.ref 0), some (.ref 3), some (.ref 32), some (.ref 68), some (.ref 69), some (.int (Int32.ofInt I)), x6, x7, x8] [] H = zx 219 2176 [some (.ref 0), some (.ref 3), some (.ref 32), some (.ref 68), some (.ref 69), some (.int (Int32.ofInt I)), some (.int (Int32.ofInt k)), x7, x8] [] H1 := by
  simp (disch := omega) only [zentry, zs0, zs1, zs2, zs3, zg_lo, zg_st, zg_st2, zg_ald, zg_ast, zs_ia, zs_i0, zg_ii, zi_max, zi_min, zi_abi, zi_abf, zi_fb, zi_bf, lget, lst, lst2, lc2, Option.map_some, zso, if_true, if_false, zc1, and_true, true_and, and_self, List.length_nil, List.length_cons, Nat.zero_le, reduceIte, reduceCtorEq, false_and, and_false, Bool.false_eq_true, zca_some, zr0, zr100, Option.bind_some, zb_none, zb_some, zrc, or_true, true_or, eq_self, ne_eq, not_true_eq_false, not_false_eq_true, zrt_i, zrt_zb, zrt_b, zrt_c, zrt_l, zrt_f, zrt_r, zrt_n, zrt_v, zft_0, zft_1, zft_zb, zft_3, zft_4, zft_5, zft_7r, zft_7n, iI_t, zb_i, zb_0, zb_1, Nat.reduceAdd, Nat.reduceLeDiff, Nat.reduceEqDiff, Nat.reduceSub, Int.reduceNeg, iI_add, iI_sub, iI_mul, iI_neg, zbz, zin, if_pos, if_neg, Int.toNat_natCast, Int.natCast_zero, Int.reduceToNat, zt1, zt2, zt3, zt4, zt5, zt6, zt7, zt8, y219_34a, hl, hm, e]
set_option maxRecDepth 20000 in
theorem lB_34 {L : Nat} {xs : Nat → Int32} {H1 H2 : zH} {k I : Int} {x7 x8 : Option Value} {b : Int} (hl : zl H1 0 = L) (hm : ∀ n, n < L → zm H1 0 n = .int (Int32.ofInt (xs n).toInt)) (h32 : zk H1 32 = 6) (hI : 0 ≤ I ∧ I + 6 ≤ (L : Int) ∧ (L : Int) ≤ 3072) (e : zc 162 4 [.ref 32] H1 = some (.inl (some (.int (Int32.ofInt b))), H2)) : zx 219 2176 [some (.ref 0), some (.ref 3), some (.ref 32), some (.ref 68), some (.ref 69), some (.int (Int32.ofInt I)), some (.int (Int32.ofInt k)), x7, x8] [] H1 = zx 219 2182 [some (.ref 0), some (.ref 3), some (.ref 32), some (.ref 68), some (.ref 69), some (.int (Int32.ofInt I)), some (.int (Int32.ofInt k)), some (.int (Int32.ofInt b)), x8] [] H2 := by
  simp (disch := omega) only [zentry, zs0, zs1, zs2, zs3, zg_lo, zg_st, zg_st2, zg_ald, zg_ast, zs_ia, zs_i0, zg_ii, zi_max, zi_min, zi_abi, zi_abf, zi_fb, zi_bf, lget, lst, lst2, lc2, Option.map_some, zso, if_true, if_false, zc1, and_true, true_and, and_self, List.length_nil, List.length_cons, Nat.zero_le, reduceIte, reduceCtorEq, false_and, and_false, Bool.false_eq_true, zca_some, zr0, zr100, Option.bind_some, zb_none, zb_some, zrc, or_true, true_or, eq_self, ne_eq, not_true_eq_false, not_false_eq_true, zrt_i, zrt_zb, zrt_b, zrt_c, zrt_l, zrt_f, zrt_r, zrt_n, zrt_v, zft_0, zft_1, zft_zb, zft_3, zft_4, zft_5, zft_7r, zft_7n, iI_t, zb_i, zb_0, zb_1, Nat.reduceAdd, Nat.reduceLeDiff, Nat.reduceEqDiff, Nat.reduceSub, Int.reduceNeg, iI_add, iI_sub, iI_mul, iI_neg, zbz, zin, if_pos, if_neg, Int.toNat_natCast, Int.natCast_zero, Int.reduceToNat, zt1, zt2, zt3, zt4, zt5, zt6, zt7, zt8, y219_34b, hl, hm, h32, e]
set_option maxRecDepth 20000 in
theorem lC_34 {H2 : zH} {k I : Int} {x8 : Option Value} {b v : Int} (h32 : zk H2 32 = 6) (e : zc 103 1 [.ref 32] H2 = some (.inl (some (.int (Int32.ofInt k))), H2)) (rk : iR k) (rb : iR b) (k68 : zk H2 68 = 24) (l68 : zl H2 68 = 1) (m68 : zm H2 68 0 = .long (Int64.ofInt v)) (hv : k = 0 → v = b) : zx 219 2182 [some (.ref 0), some (.ref 3), some (.ref 32), some (.ref 68), some (.ref 69), some (.int (Int32.ofInt I)), some (.int (Int32.ofInt k)), some (.int (Int32.ofInt b)), x8] [] H2 = zx 219 2268 [some (.ref 0), some (.ref 3), some (.ref 32), some (.ref 68), some (.ref 69), some (.int (Int32.ofInt I)), some (.int (Int32.ofInt k)), some (.int (Int32.ofInt b)), x8] [] H2 := by
  by_cases g : k = 0
  · subst g
    have hb : v = b := hv rfl
    simp (disch := omega) only [zentry, zs0, zs1, zs2, zs3, zg_lo, zg_st, zg_st2, zg_ald, zg_ast, zs_ia, zs_i0, zg_ii, zi_max, zi_min, zi_abi, zi_abf, zi_fb, zi_bf, lget, lst, lst2, lc2, Option.map_some, zso, if_true, if_false, zc1, and_true, true_and, and_self, List.length_nil, List.length_cons, Nat.zero_le, reduceIte, reduceCtorEq, false_and, and_false, Bool.false_eq_true, zca_some, zr0, zr100, Option.bind_some, zb_none, zb_some, zrc, or_true, true_or, eq_self, ne_eq, not_true_eq_false, not_false_eq_true, zrt_i, zrt_zb, zrt_b, zrt_c, zrt_l, zrt_f, zrt_r, zrt_n, zrt_v, zft_0, zft_1, zft_zb, zft_3, zft_4, zft_5, zft_7r, zft_7n, iI_t, zb_i, zb_0, zb_1, Nat.reduceAdd, Nat.reduceLeDiff, Nat.reduceEqDiff, Nat.reduceSub, Int.reduceNeg, iI_add, iI_sub, iI_mul, iI_neg, zbz, zin, if_pos, if_neg, Int.toNat_natCast, Int.natCast_zero, Int.reduceToNat, zt1, zt2, zt3, zt4, zt5, zt6, zt7, zt8, y219_34c, h32, e, k68, l68, m68, hb, zl_ii, lw_l1]
  · simp (disch := omega) only [zentry, zs0, zs1, zs2, zs3, zg_lo, zg_st, zg_st2, zg_ald, zg_ast, zs_ia, zs_i0, zg_ii, zi_max, zi_min, zi_abi, zi_abf, zi_fb, zi_bf, lget, lst, lst2, lc2, Option.map_some, zso, if_true, if_false, zc1, and_true, true_and, and_self, List.length_nil, List.length_cons, Nat.zero_le, reduceIte, reduceCtorEq, false_and, and_false, Bool.false_eq_true, zca_some, zr0, zr100, Option.bind_some, zb_none, zb_some, zrc, or_true, true_or, eq_self, ne_eq, not_true_eq_false, not_false_eq_true, zrt_i, zrt_zb, zrt_b, zrt_c, zrt_l, zrt_f, zrt_r, zrt_n, zrt_v, zft_0, zft_1, zft_zb, zft_3, zft_4, zft_5, zft_7r, zft_7n, iI_t, zb_i, zb_0, zb_1, Nat.reduceAdd, Nat.reduceLeDiff, Nat.reduceEqDiff, Nat.reduceSub, Int.reduceNeg, iI_add, iI_sub, iI_mul, iI_neg, zbz, zin, if_pos, if_neg, Int.toNat_natCast, Int.natCast_zero, Int.reduceToNat, zt1, zt2, zt3, zt4, zt5, zt6, zt7, zt8, y219_34c, h32, e, g]
set_option maxRecDepth 4000 in
theorem y219_35a :
  (∀ (ls : zL) (st : zS) (h : zH), zx 219 2213 ls st h = zgo 219 (zpure (.aload_n 1) 2214 0 [] ls st h)) ∧
  (∀ (ls : zL) (st : zS) (h : zH), zx 219 2214 ls st h = zgo 219 (zpure (.aload_n 0) 2215 0 [] ls st h)) ∧
  (∀ (ls : zL) (st : zS) (h : zH), zx 219 2215 ls st h = zgo 219 (zpure (.iload 5) 2217 0 [] ls st h)) ∧
  (∀ (ls : zL) (st : zS) (h : zH), zx 219 2217 ls st h = zgo 219 (zpure (.iconst 1) 2218 0 [] ls st h)) ∧
  (∀ (ls : zL) (st : zS) (h : zH), zx 219 2218 ls st h = zgo 219 (zpure .iadd 2219 0 [] ls st h)) ∧
  (∀ (ls : zL) (st : zS) (h : zH), zx 219 2219 ls st h = zgo 219 (zpure .iaload 2220 0 [] ls st h)) ∧
  (∀ (ls : zL) (st : zS) (h : zH), zx 219 2220 ls st h = zgo 219 (zpure (.aload_n 3) 2221 0 [] ls st h)) ∧
  (∀ (ls : zL) (st : zS) (h : zH), zx 219 2221 ls st h = zca 219 2221 2224 ls 218 4 0 (ztake 3 st) h) ∧
  (∀ (ls : zL) (st : zS) (h : zH), zx 219 2224 ls st h = zgo 219 (zpure (.istore 6) 2226 0 [] ls st h)) :=
  ⟨zx_0 rfl, zx_0 rfl, zx_0 rfl, zx_0 rfl, zx_0 rfl, zx_0 rfl, zx_0 rfl, zx_2c rfl, zx_0 rfl⟩
set_option maxRecDepth 4000 in
theorem y219_35b :
  (∀ (ls : zL) (st : zS) (h : zH), zx 219 2226 ls st h = zgo 219 (zpure (.aload_n 2) 2227 0 [] ls st h)) ∧
  (∀ (ls : zL) (st : zS) (h : zH), zx 219 2227 ls st h = zgo 219 (zpure (.aload_n 0) 2228 0 [] ls st h)) ∧
  (∀ (ls : zL) (st : zS) (h : zH), zx 219 2228 ls st h = zgo 219 (zpure (.iload 5) 2230 0 [] ls st h)) ∧
  (∀ (ls : zL) (st : zS) (h : zH), zx 219 2230 ls st h = zgo 219 (zpure (.iconst 1) 2231 0 [] ls st h)) ∧
  (∀ (ls : zL) (st : zS) (h : zH), zx 219 2231 ls st h = zgo 219 (zpure .iadd 2232 0 [] ls st h)) ∧
  (∀ (ls : zL) (st : zS) (h : zH), zx 219 2232 ls st h = zgo 219 (zpure .iaload 2233 0 [] ls st h)) ∧
  (∀ (ls : zL) (st : zS) (h : zH), zx 219 2233 ls st h = zca 219 2233 2236 ls 163 2 7 (ztake 2 st) h) ∧
  (∀ (ls : zL) (st : zS) (h : zH), zx 219 2236 ls st h = zgo 219 (zpure (.lstore 7) 2238 0 [] ls st h)) :=
  ⟨zx_0 rfl, zx_0 rfl, zx_0 rfl, zx_0 rfl, zx_0 rfl, zx_0 rfl, zx_2c rfl, zx_0 rfl⟩
set_option maxRecDepth 4000 in
theorem y219_35c :
  (∀ (ls : zL) (st : zS) (h : zH), zx 219 2238 ls st h = zgo 219 (zpure (.aload_n 2) 2239 0 [] ls st h)) ∧
  (∀ (ls : zL) (st : zS) (h : zH), zx 219 2239 ls st h = zca 219 2239 2242 ls 103 1 7 (ztake 1 st) h) ∧
  (∀ (ls : zL) (st : zS) (h : zH), zx 219 2242 ls st h = zgo 219 (zpure (.iload 6) 2244 0 [] ls st h)) ∧
  (∀ (ls : zL) (st : zS) (h : zH), zx 219 2244 ls st h = zgo 219 (zpure (.if_icmp .eq 5) 2247 2249 [] ls st h)) ∧
  (∀ (ls : zL) (st : zS) (h : zH), zx 219 2247 ls st h = zgo 219 (zpure (.iconst 0) 2248 0 [] ls st h)) ∧
  (∀ (ls : zL) (st : zS) (h : zH), zx 219 2248 ls st h = zret 1 st h) ∧
  (∀ (ls : zL) (st : zS) (h : zH), zx 219 2249 ls st h = zgo 219 (zpure (.iload 6) 2251 0 [] ls st h)) ∧
  (∀ (ls : zL) (st : zS) (h : zH), zx 219 2251 ls st h = zgo 219 (zpure (.ifCond .ne 14) 2254 2265 [] ls st h)) ∧
  (∀ (ls : zL) (st : zS) (h : zH), zx 219 2254 ls st h = zgo 219 (zpure (.aload_n 3) 2255 0 [] ls st h)) ∧
  (∀ (ls : zL) (st : zS) (h : zH), zx 219 2255 ls st h = zgo 219 (zpure (.iconst 0) 2256 0 [] ls st h)) ∧
  (∀ (ls : zL) (st : zS) (h : zH), zx 219 2256 ls st h = zgo 219 (zpure .laload 2257 0 [] ls st h)) ∧
  (∀ (ls : zL) (st : zS) (h : zH), zx 219 2257 ls st h = zgo 219 (zpure (.lload 7) 2259 0 [] ls st h)) ∧
  (∀ (ls : zL) (st : zS) (h : zH), zx 219 2259 ls st h = zgo 219 (zpure .lcmp 2260 0 [] ls st h)) ∧
  (∀ (ls : zL) (st : zS) (h : zH), zx 219 2260 ls st h = zgo 219 (zpure (.ifCond .eq 5) 2263 2265 [] ls st h)) ∧
  (∀ (ls : zL) (st : zS) (h : zH), zx 219 2263 ls st h = zgo 219 (zpure (.iconst 0) 2264 0 [] ls st h)) ∧
  (∀ (ls : zL) (st : zS) (h : zH), zx 219 2264 ls st h = zret 1 st h) ∧
  (∀ (ls : zL) (st : zS) (h : zH), zx 219 2265 ls st h = zgo 219 (zpure (.goto 3) 2268 2268 [] ls st h)) :=
  ⟨zx_0 rfl, zx_2c rfl, zx_0 rfl, zx_0 rfl, zx_0 rfl, zx_1 rfl, zx_0 rfl, zx_0 rfl, zx_0 rfl, zx_0 rfl, zx_0 rfl, zx_0 rfl, zx_0 rfl, zx_0 rfl, zx_0 rfl, zx_1 rfl, zx_0 rfl⟩
set_option maxRecDepth 20000 in
theorem lA_35 {L : Nat} {xs : Nat → Int32} {H H1 : zH} {k I : Int} {x6 x7 x8 : Option Value} (hl : zl H 0 = L) (hm : ∀ n, n < L → zm H 0 n = .int (Int32.ofInt (xs n).toInt)) (hI : 0 ≤ I ∧ I + 6 ≤ (L : Int) ∧ (L : Int) ≤ 3072) (e : zc 218 4 [.ref 3, .int (Int32.ofInt (xs (I + 1).toNat).toInt), .ref 68] H = some (.inl (some (.int (Int32.ofInt k))), H1)) : zx 219 2213 [some (.ref 0), some (.ref 3), some (.ref 32), some (.ref 68), some (.ref 69), some (.int (Int32.ofInt I)), x6, x7, x8] [] H = zx 219 2226 [some (.ref 0), some (.ref 3), some (.ref 32), some (.ref 68), some (.ref 69), some (.int (Int32.ofInt I)), some (.int (Int32.ofInt k)), x7, x8] [] H1 := by
  simp (disch := omega) only [zentry, zs0, zs1, zs2, zs3, zg_lo, zg_st, zg_st2, zg_ald, zg_ast, zs_ia, zs_i0, zg_ii, zi_max, zi_min, zi_abi, zi_abf, zi_fb, zi_bf, lget, lst, lst2, lc2, Option.map_some, zso, if_true, if_false, zc1, and_true, true_and, and_self, List.length_nil, List.length_cons, Nat.zero_le, reduceIte, reduceCtorEq, false_and, and_false, Bool.false_eq_true, zca_some, zr0, zr100, Option.bind_some, zb_none, zb_some, zrc, or_true, true_or, eq_self, ne_eq, not_true_eq_false, not_false_eq_true, zrt_i, zrt_zb, zrt_b, zrt_c, zrt_l, zrt_f, zrt_r, zrt_n, zrt_v, zft_0, zft_1, zft_zb, zft_3, zft_4, zft_5, zft_7r, zft_7n, iI_t, zb_i, zb_0, zb_1, Nat.reduceAdd, Nat.reduceLeDiff, Nat.reduceEqDiff, Nat.reduceSub, Int.reduceNeg, iI_add, iI_sub, iI_mul, iI_neg, zbz, zin, if_pos, if_neg, Int.toNat_natCast, Int.natCast_zero, Int.reduceToNat, zt1, zt2, zt3, zt4, zt5, zt6, zt7, zt8, y219_35a, hl, hm, e]
set_option maxRecDepth 20000 in
theorem lB_35 {L : Nat} {xs : Nat → Int32} {H1 H2 : zH} {k I : Int} {x7 x8 : Option Value} {b : Int} (hl : zl H1 0 = L) (hm : ∀ n, n < L → zm H1 0 n = .int (Int32.ofInt (xs n).toInt)) (h32 : zk H1 32 = 6) (hI : 0 ≤ I ∧ I + 6 ≤ (L : Int) ∧ (L : Int) ≤ 3072) (e : zc 163 2 [.ref 32, .int (Int32.ofInt (xs (I + 1).toNat).toInt)] H1 = some (.inl (some (.long (Int64.ofInt b))), H2)) : zx 219 2226 [some (.ref 0), some (.ref 3), some (.ref 32), some (.ref 68), some (.ref 69), some (.int (Int32.ofInt I)), some (.int (Int32.ofInt k)), x7, x8] [] H1 = zx 219 2238 [some (.ref 0), some (.ref 3), some (.ref 32), some (.ref 68), some (.ref 69), some (.int (Int32.ofInt I)), some (.int (Int32.ofInt k)), some (.long (Int64.ofInt b)), none] [] H2 := by
  simp (disch := omega) only [zentry, zs0, zs1, zs2, zs3, zg_lo, zg_st, zg_st2, zg_ald, zg_ast, zs_ia, zs_i0, zg_ii, zi_max, zi_min, zi_abi, zi_abf, zi_fb, zi_bf, lget, lst, lst2, lc2, Option.map_some, zso, if_true, if_false, zc1, and_true, true_and, and_self, List.length_nil, List.length_cons, Nat.zero_le, reduceIte, reduceCtorEq, false_and, and_false, Bool.false_eq_true, zca_some, zr0, zr100, Option.bind_some, zb_none, zb_some, zrc, or_true, true_or, eq_self, ne_eq, not_true_eq_false, not_false_eq_true, zrt_i, zrt_zb, zrt_b, zrt_c, zrt_l, zrt_f, zrt_r, zrt_n, zrt_v, zft_0, zft_1, zft_zb, zft_3, zft_4, zft_5, zft_7r, zft_7n, iI_t, zb_i, zb_0, zb_1, Nat.reduceAdd, Nat.reduceLeDiff, Nat.reduceEqDiff, Nat.reduceSub, Int.reduceNeg, iI_add, iI_sub, iI_mul, iI_neg, zbz, zin, if_pos, if_neg, Int.toNat_natCast, Int.natCast_zero, Int.reduceToNat, zt1, zt2, zt3, zt4, zt5, zt6, zt7, zt8, y219_35b, hl, hm, h32, e]
set_option maxRecDepth 20000 in
theorem lC_35 {H2 : zH} {k I : Int} {b v : Int} (h32 : zk H2 32 = 6) (e : zc 103 1 [.ref 32] H2 = some (.inl (some (.int (Int32.ofInt k))), H2)) (rk : iR k) (k68 : zk H2 68 = 24) (l68 : zl H2 68 = 1) (m68 : zm H2 68 0 = .long (Int64.ofInt v)) (hv : k = 0 → v = b) : zx 219 2238 [some (.ref 0), some (.ref 3), some (.ref 32), some (.ref 68), some (.ref 69), some (.int (Int32.ofInt I)), some (.int (Int32.ofInt k)), some (.long (Int64.ofInt b)), none] [] H2 = zx 219 2268 [some (.ref 0), some (.ref 3), some (.ref 32), some (.ref 68), some (.ref 69), some (.int (Int32.ofInt I)), some (.int (Int32.ofInt k)), some (.long (Int64.ofInt b)), none] [] H2 := by
  by_cases g : k = 0
  · subst g
    have hb : v = b := hv rfl
    simp (disch := omega) only [zentry, zs0, zs1, zs2, zs3, zg_lo, zg_st, zg_st2, zg_ald, zg_ast, zs_ia, zs_i0, zg_ii, zi_max, zi_min, zi_abi, zi_abf, zi_fb, zi_bf, lget, lst, lst2, lc2, Option.map_some, zso, if_true, if_false, zc1, and_true, true_and, and_self, List.length_nil, List.length_cons, Nat.zero_le, reduceIte, reduceCtorEq, false_and, and_false, Bool.false_eq_true, zca_some, zr0, zr100, Option.bind_some, zb_none, zb_some, zrc, or_true, true_or, eq_self, ne_eq, not_true_eq_false, not_false_eq_true, zrt_i, zrt_zb, zrt_b, zrt_c, zrt_l, zrt_f, zrt_r, zrt_n, zrt_v, zft_0, zft_1, zft_zb, zft_3, zft_4, zft_5, zft_7r, zft_7n, iI_t, zb_i, zb_0, zb_1, Nat.reduceAdd, Nat.reduceLeDiff, Nat.reduceEqDiff, Nat.reduceSub, Int.reduceNeg, iI_add, iI_sub, iI_mul, iI_neg, zbz, zin, if_pos, if_neg, Int.toNat_natCast, Int.natCast_zero, Int.reduceToNat, zt1, zt2, zt3, zt4, zt5, zt6, zt7, zt8, y219_35c, h32, e, k68, l68, m68, hb, zl_ii, lw_l1]
  · simp (disch := omega) only [zentry, zs0, zs1, zs2, zs3, zg_lo, zg_st, zg_st2, zg_ald, zg_ast, zs_ia, zs_i0, zg_ii, zi_max, zi_min, zi_abi, zi_abf, zi_fb, zi_bf, lget, lst, lst2, lc2, Option.map_some, zso, if_true, if_false, zc1, and_true, true_and, and_self, List.length_nil, List.length_cons, Nat.zero_le, reduceIte, reduceCtorEq, false_and, and_false, Bool.false_eq_true, zca_some, zr0, zr100, Option.bind_some, zb_none, zb_some, zrc, or_true, true_or, eq_self, ne_eq, not_true_eq_false, not_false_eq_true, zrt_i, zrt_zb, zrt_b, zrt_c, zrt_l, zrt_f, zrt_r, zrt_n, zrt_v, zft_0, zft_1, zft_zb, zft_3, zft_4, zft_5, zft_7r, zft_7n, iI_t, zb_i, zb_0, zb_1, Nat.reduceAdd, Nat.reduceLeDiff, Nat.reduceEqDiff, Nat.reduceSub, Int.reduceNeg, iI_add, iI_sub, iI_mul, iI_neg, zbz, zin, if_pos, if_neg, Int.toNat_natCast, Int.natCast_zero, Int.reduceToNat, zt1, zt2, zt3, zt4, zt5, zt6, zt7, zt8, y219_35c, h32, e, g]

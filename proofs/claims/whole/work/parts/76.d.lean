/-! the law, case by case (a program has written them) -/
set_option maxRecDepth 4000 in
theorem y219_12a :
  (∀ (ls : zL) (st : zS) (h : zH), zx 219 1029 ls st h = zgo 219 (zpure (.aload_n 1) 1030 0 [] ls st h)) ∧
  (∀ (ls : zL) (st : zS) (h : zH), zx 219 1030 ls st h = zgo 219 (zpure (.aload_n 0) 1031 0 [] ls st h)) ∧
  (∀ (ls : zL) (st : zS) (h : zH), zx 219 1031 ls st h = zgo 219 (zpure (.iload 5) 1033 0 [] ls st h)) ∧
  (∀ (ls : zL) (st : zS) (h : zH), zx 219 1033 ls st h = zgo 219 (zpure (.iconst 1) 1034 0 [] ls st h)) ∧
  (∀ (ls : zL) (st : zS) (h : zH), zx 219 1034 ls st h = zgo 219 (zpure .iadd 1035 0 [] ls st h)) ∧
  (∀ (ls : zL) (st : zS) (h : zH), zx 219 1035 ls st h = zgo 219 (zpure .iaload 1036 0 [] ls st h)) ∧
  (∀ (ls : zL) (st : zS) (h : zH), zx 219 1036 ls st h = zgo 219 (zpure (.aload_n 3) 1037 0 [] ls st h)) ∧
  (∀ (ls : zL) (st : zS) (h : zH), zx 219 1037 ls st h = zca 219 1037 1040 ls 199 4 0 (ztake 3 st) h) ∧
  (∀ (ls : zL) (st : zS) (h : zH), zx 219 1040 ls st h = zgo 219 (zpure (.istore 6) 1042 0 [] ls st h)) :=
  ⟨zx_0 rfl, zx_0 rfl, zx_0 rfl, zx_0 rfl, zx_0 rfl, zx_0 rfl, zx_0 rfl, zx_2c rfl, zx_0 rfl⟩
set_option maxRecDepth 4000 in
theorem y219_12b :
  (∀ (ls : zL) (st : zS) (h : zH), zx 219 1042 ls st h = zgo 219 (zpure (.aload_n 2) 1043 0 [] ls st h)) ∧
  (∀ (ls : zL) (st : zS) (h : zH), zx 219 1043 ls st h = zgo 219 (zpure (.aload_n 0) 1044 0 [] ls st h)) ∧
  (∀ (ls : zL) (st : zS) (h : zH), zx 219 1044 ls st h = zgo 219 (zpure (.iload 5) 1046 0 [] ls st h)) ∧
  (∀ (ls : zL) (st : zS) (h : zH), zx 219 1046 ls st h = zgo 219 (zpure (.iconst 1) 1047 0 [] ls st h)) ∧
  (∀ (ls : zL) (st : zS) (h : zH), zx 219 1047 ls st h = zgo 219 (zpure .iadd 1048 0 [] ls st h)) ∧
  (∀ (ls : zL) (st : zS) (h : zH), zx 219 1048 ls st h = zgo 219 (zpure .iaload 1049 0 [] ls st h)) ∧
  (∀ (ls : zL) (st : zS) (h : zH), zx 219 1049 ls st h = zca 219 1049 1052 ls 141 2 7 (ztake 2 st) h) ∧
  (∀ (ls : zL) (st : zS) (h : zH), zx 219 1052 ls st h = zgo 219 (zpure (.istore 7) 1054 0 [] ls st h)) :=
  ⟨zx_0 rfl, zx_0 rfl, zx_0 rfl, zx_0 rfl, zx_0 rfl, zx_0 rfl, zx_2c rfl, zx_0 rfl⟩
set_option maxRecDepth 4000 in
theorem y219_12c :
  (∀ (ls : zL) (st : zS) (h : zH), zx 219 1054 ls st h = zgo 219 (zpure (.aload_n 2) 1055 0 [] ls st h)) ∧
  (∀ (ls : zL) (st : zS) (h : zH), zx 219 1055 ls st h = zca 219 1055 1058 ls 103 1 7 (ztake 1 st) h) ∧
  (∀ (ls : zL) (st : zS) (h : zH), zx 219 1058 ls st h = zgo 219 (zpure (.iload 6) 1060 0 [] ls st h)) ∧
  (∀ (ls : zL) (st : zS) (h : zH), zx 219 1060 ls st h = zgo 219 (zpure (.if_icmp .eq 5) 1063 1065 [] ls st h)) ∧
  (∀ (ls : zL) (st : zS) (h : zH), zx 219 1063 ls st h = zgo 219 (zpure (.iconst 0) 1064 0 [] ls st h)) ∧
  (∀ (ls : zL) (st : zS) (h : zH), zx 219 1064 ls st h = zret 1 st h) ∧
  (∀ (ls : zL) (st : zS) (h : zH), zx 219 1065 ls st h = zgo 219 (zpure (.iload 6) 1067 0 [] ls st h)) ∧
  (∀ (ls : zL) (st : zS) (h : zH), zx 219 1067 ls st h = zgo 219 (zpure (.ifCond .ne 15) 1070 1082 [] ls st h)) ∧
  (∀ (ls : zL) (st : zS) (h : zH), zx 219 1070 ls st h = zgo 219 (zpure (.aload_n 3) 1071 0 [] ls st h)) ∧
  (∀ (ls : zL) (st : zS) (h : zH), zx 219 1071 ls st h = zgo 219 (zpure (.iconst 0) 1072 0 [] ls st h)) ∧
  (∀ (ls : zL) (st : zS) (h : zH), zx 219 1072 ls st h = zgo 219 (zpure .laload 1073 0 [] ls st h)) ∧
  (∀ (ls : zL) (st : zS) (h : zH), zx 219 1073 ls st h = zgo 219 (zpure (.iload 7) 1075 0 [] ls st h)) ∧
  (∀ (ls : zL) (st : zS) (h : zH), zx 219 1075 ls st h = zgo 219 (zpure .i2l 1076 0 [] ls st h)) ∧
  (∀ (ls : zL) (st : zS) (h : zH), zx 219 1076 ls st h = zgo 219 (zpure .lcmp 1077 0 [] ls st h)) ∧
  (∀ (ls : zL) (st : zS) (h : zH), zx 219 1077 ls st h = zgo 219 (zpure (.ifCond .eq 5) 1080 1082 [] ls st h)) ∧
  (∀ (ls : zL) (st : zS) (h : zH), zx 219 1080 ls st h = zgo 219 (zpure (.iconst 0) 1081 0 [] ls st h)) ∧
  (∀ (ls : zL) (st : zS) (h : zH), zx 219 1081 ls st h = zret 1 st h) ∧
  (∀ (ls : zL) (st : zS) (h : zH), zx 219 1082 ls st h = zgo 219 (zpure (.goto 1186) 1085 2268 [] ls st h)) :=
  ⟨zx_0 rfl, zx_2c rfl, zx_0 rfl, zx_0 rfl, zx_0 rfl, zx_1 rfl, zx_0 rfl, zx_0 rfl, zx_0 rfl, zx_0 rfl, zx_0 rfl, zx_0 rfl, zx_0 rfl, zx_0 rfl, zx_0 rfl, zx_0 rfl, zx_1 rfl, zx_0 rfl⟩
set_option maxRecDepth 20000 in
theorem lA_12 {L : Nat} {xs : Nat → Int32} {H H1 : zH} {k I : Int} {x6 x7 x8 : Option Value} (hl : zl H 0 = L) (hm : ∀ n, n < L → zm H 0 n = .int (Int32.ofInt (xs n).toInt)) (hI : 0 ≤ I ∧ I + 6 ≤ (L : Int) ∧ (L : Int) ≤ 3072) (e : zc 199 4 [.ref 3, .int (Int32.ofInt (xs (I + 1).toNat).toInt), .ref 68] H = some (.inl (some (.int (Int32.ofInt k))), H1)) : zx 219 1029 [some (.ref 0), some (.ref 3), some (.ref 32), some (.ref 68), some (.ref 69), some (.int (Int32.ofInt I)), x6, x7, x8] [] H = zx 219 1042 [some (.ref 0), some (.ref 3), some (.ref 32), some (.ref 68), some (.ref 69), some (.int (Int32.ofInt I)), some (.int (Int32.ofInt k)), x7, x8] [] H1 := by
  simp (disch := omega) only [zentry, zs0, zs1, zs2, zs3, zg_lo, zg_st, zg_st2, zg_ald, zg_ast, zs_ia, zs_i0, zg_ii, zi_max, zi_min, zi_abi, zi_abf, zi_fb, zi_bf, lget, lst, lst2, lc2, Option.map_some, zso, if_true, if_false, zc1, and_true, true_and, and_self, List.length_nil, List.length_cons, Nat.zero_le, reduceIte, reduceCtorEq, false_and, and_false, Bool.false_eq_true, zca_some, zr0, zr100, Option.bind_some, zb_none, zb_some, zrc, or_true, true_or, eq_self, ne_eq, not_true_eq_false, not_false_eq_true, zrt_i, zrt_zb, zrt_b, zrt_c, zrt_l, zrt_f, zrt_r, zrt_n, zrt_v, zft_0, zft_1, zft_zb, zft_3, zft_4, zft_5, zft_7r, zft_7n, iI_t, zb_i, zb_0, zb_1, Nat.reduceAdd, Nat.reduceLeDiff, Nat.reduceEqDiff, Nat.reduceSub, Int.reduceNeg, iI_add, iI_sub, iI_mul, iI_neg, zbz, zin, if_pos, if_neg, Int.toNat_natCast, Int.natCast_zero, Int.reduceToNat, zt1, zt2, zt3, zt4, zt5, zt6, zt7, zt8, y219_12a, hl, hm, e]
set_option maxRecDepth 20000 in
theorem lB_12 {L : Nat} {xs : Nat → Int32} {H1 H2 : zH} {k I : Int} {x7 x8 : Option Value} {b : Int} (hl : zl H1 0 = L) (hm : ∀ n, n < L → zm H1 0 n = .int (Int32.ofInt (xs n).toInt)) (h32 : zk H1 32 = 6) (hI : 0 ≤ I ∧ I + 6 ≤ (L : Int) ∧ (L : Int) ≤ 3072) (e : zc 141 2 [.ref 32, .int (Int32.ofInt (xs (I + 1).toNat).toInt)] H1 = some (.inl (some (.int (Int32.ofInt b))), H2)) : zx 219 1042 [some (.ref 0), some (.ref 3), some (.ref 32), some (.ref 68), some (.ref 69), some (.int (Int32.ofInt I)), some (.int (Int32.ofInt k)), x7, x8] [] H1 = zx 219 1054 [some (.ref 0), some (.ref 3), some (.ref 32), some (.ref 68), some (.ref 69), some (.int (Int32.ofInt I)), some (.int (Int32.ofInt k)), some (.int (Int32.ofInt b)), x8] [] H2 := by
  simp (disch := omega) only [zentry, zs0, zs1, zs2, zs3, zg_lo, zg_st, zg_st2, zg_ald, zg_ast, zs_ia, zs_i0, zg_ii, zi_max, zi_min, zi_abi, zi_abf, zi_fb, zi_bf, lget, lst, lst2, lc2, Option.map_some, zso, if_true, if_false, zc1, and_true, true_and, and_self, List.length_nil, List.length_cons, Nat.zero_le, reduceIte, reduceCtorEq, false_and, and_false, Bool.false_eq_true, zca_some, zr0, zr100, Option.bind_some, zb_none, zb_some, zrc, or_true, true_or, eq_self, ne_eq, not_true_eq_false, not_false_eq_true, zrt_i, zrt_zb, zrt_b, zrt_c, zrt_l, zrt_f, zrt_r, zrt_n, zrt_v, zft_0, zft_1, zft_zb, zft_3, zft_4, zft_5, zft_7r, zft_7n, iI_t, zb_i, zb_0, zb_1, Nat.reduceAdd, Nat.reduceLeDiff, Nat.reduceEqDiff, Nat.reduceSub, Int.reduceNeg, iI_add, iI_sub, iI_mul, iI_neg, zbz, zin, if_pos, if_neg, Int.toNat_natCast, Int.natCast_zero, Int.reduceToNat, zt1, zt2, zt3, zt4, zt5, zt6, zt7, zt8, y219_12b, hl, hm, h32, e]
set_option maxRecDepth 20000 in
theorem lC_12 {H2 : zH} {k I : Int} {x8 : Option Value} {b v : Int} (h32 : zk H2 32 = 6) (e : zc 103 1 [.ref 32] H2 = some (.inl (some (.int (Int32.ofInt k))), H2)) (rk : iR k) (rb : iR b) (k68 : zk H2 68 = 24) (l68 : zl H2 68 = 1) (m68 : zm H2 68 0 = .long (Int64.ofInt v)) (hv : k = 0 → v = b) : zx 219 1054 [some (.ref 0), some (.ref 3), some (.ref 32), some (.ref 68), some (.ref 69), some (.int (Int32.ofInt I)), some (.int (Int32.ofInt k)), some (.int (Int32.ofInt b)), x8] [] H2 = zx 219 2268 [some (.ref 0), some (.ref 3), some (.ref 32), some (.ref 68), some (.ref 69), some (.int (Int32.ofInt I)), some (.int (Int32.ofInt k)), some (.int (Int32.ofInt b)), x8] [] H2 := by
  by_cases g : k = 0
  · subst g
    have hb : v = b := hv rfl
    simp (disch := omega) only [zentry, zs0, zs1, zs2, zs3, zg_lo, zg_st, zg_st2, zg_ald, zg_ast, zs_ia, zs_i0, zg_ii, zi_max, zi_min, zi_abi, zi_abf, zi_fb, zi_bf, lget, lst, lst2, lc2, Option.map_some, zso, if_true, if_false, zc1, and_true, true_and, and_self, List.length_nil, List.length_cons, Nat.zero_le, reduceIte, reduceCtorEq, false_and, and_false, Bool.false_eq_true, zca_some, zr0, zr100, Option.bind_some, zb_none, zb_some, zrc, or_true, true_or, eq_self, ne_eq, not_true_eq_false, not_false_eq_true, zrt_i, zrt_zb, zrt_b, zrt_c, zrt_l, zrt_f, zrt_r, zrt_n, zrt_v, zft_0, zft_1, zft_zb, zft_3, zft_4, zft_5, zft_7r, zft_7n, iI_t, zb_i, zb_0, zb_1, Nat.reduceAdd, Nat.reduceLeDiff, Nat.reduceEqDiff, Nat.reduceSub, Int.reduceNeg, iI_add, iI_sub, iI_mul, iI_neg, zbz, zin, if_pos, if_neg, Int.toNat_natCast, Int.natCast_zero, Int.reduceToNat, zt1, zt2, zt3, zt4, zt5, zt6, zt7, zt8, y219_12c, h32, e, k68, l68, m68, hb, zl_ii, lw_l1]
  · simp (disch := omega) only [zentry, zs0, zs1, zs2, zs3, zg_lo, zg_st, zg_st2, zg_ald, zg_ast, zs_ia, zs_i0, zg_ii, zi_max, zi_min, zi_abi, zi_abf, zi_fb, zi_bf, lget, lst, lst2, lc2, Option.map_some, zso, if_true, if_false, zc1, and_true, true_and, and_self, List.length_nil, List.length_cons, Nat.zero_le, reduceIte, reduceCtorEq, false_and, and_false, Bool.false_eq_true, zca_some, zr0, zr100, Option.bind_some, zb_none, zb_some, zrc, or_true, true_or, eq_self, ne_eq, not_true_eq_false, not_false_eq_true, zrt_i, zrt_zb, zrt_b, zrt_c, zrt_l, zrt_f, zrt_r, zrt_n, zrt_v, zft_0, zft_1, zft_zb, zft_3, zft_4, zft_5, zft_7r, zft_7n, iI_t, zb_i, zb_0, zb_1, Nat.reduceAdd, Nat.reduceLeDiff, Nat.reduceEqDiff, Nat.reduceSub, Int.reduceNeg, iI_add, iI_sub, iI_mul, iI_neg, zbz, zin, if_pos, if_neg, Int.toNat_natCast, Int.natCast_zero, Int.reduceToNat, zt1, zt2, zt3, zt4, zt5, zt6, zt7, zt8, y219_12c, h32, e, g]
set_option maxRecDepth 4000 in
theorem y219_13a :
  (∀ (ls : zL) (st : zS) (h : zH), zx 219 1085 ls st h = zgo 219 (zpure (.aload_n 1) 1086 0 [] ls st h)) ∧
  (∀ (ls : zL) (st : zS) (h : zH), zx 219 1086 ls st h = zgo 219 (zpure (.aload_n 0) 1087 0 [] ls st h)) ∧
  (∀ (ls : zL) (st : zS) (h : zH), zx 219 1087 ls st h = zgo 219 (zpure (.iload 5) 1089 0 [] ls st h)) ∧
  (∀ (ls : zL) (st : zS) (h : zH), zx 219 1089 ls st h = zgo 219 (zpure (.iconst 1) 1090 0 [] ls st h)) ∧
  (∀ (ls : zL) (st : zS) (h : zH), zx 219 1090 ls st h = zgo 219 (zpure .iadd 1091 0 [] ls st h)) ∧
  (∀ (ls : zL) (st : zS) (h : zH), zx 219 1091 ls st h = zgo 219 (zpure .iaload 1092 0 [] ls st h)) ∧
  (∀ (ls : zL) (st : zS) (h : zH), zx 219 1092 ls st h = zgo 219 (zpure (.aload_n 3) 1093 0 [] ls st h)) ∧
  (∀ (ls : zL) (st : zS) (h : zH), zx 219 1093 ls st h = zca 219 1093 1096 ls 200 4 0 (ztake 3 st) h) ∧
  (∀ (ls : zL) (st : zS) (h : zH), zx 219 1096 ls st h = zgo 219 (zpure (.istore 6) 1098 0 [] ls st h)) :=
  ⟨zx_0 rfl, zx_0 rfl, zx_0 rfl, zx_0 rfl, zx_0 rfl, zx_0 rfl, zx_0 rfl, zx_2c rfl, zx_0 rfl⟩
set_option maxRecDepth 4000 in
theorem y219_13b :
  (∀ (ls : zL) (st : zS) (h : zH), zx 219 1098 ls st h = zgo 219 (zpure (.aload_n 2) 1099 0 [] ls st h)) ∧
  (∀ (ls : zL) (st : zS) (h : zH), zx 219 1099 ls st h = zgo 219 (zpure (.aload_n 0) 1100 0 [] ls st h)) ∧
  (∀ (ls : zL) (st : zS) (h : zH), zx 219 1100 ls st h = zgo 219 (zpure (.iload 5) 1102 0 [] ls st h)) ∧
  (∀ (ls : zL) (st : zS) (h : zH), zx 219 1102 ls st h = zgo 219 (zpure (.iconst 1) 1103 0 [] ls st h)) ∧
  (∀ (ls : zL) (st : zS) (h : zH), zx 219 1103 ls st h = zgo 219 (zpure .iadd 1104 0 [] ls st h)) ∧
  (∀ (ls : zL) (st : zS) (h : zH), zx 219 1104 ls st h = zgo 219 (zpure .iaload 1105 0 [] ls st h)) ∧
  (∀ (ls : zL) (st : zS) (h : zH), zx 219 1105 ls st h = zca 219 1105 1108 ls 142 2 7 (ztake 2 st) h) ∧
  (∀ (ls : zL) (st : zS) (h : zH), zx 219 1108 ls st h = zgo 219 (zpure (.istore 7) 1110 0 [] ls st h)) :=
  ⟨zx_0 rfl, zx_0 rfl, zx_0 rfl, zx_0 rfl, zx_0 rfl, zx_0 rfl, zx_2c rfl, zx_0 rfl⟩
set_option maxRecDepth 4000 in
theorem y219_13c :
  (∀ (ls : zL) (st : zS) (h : zH), zx 219 1110 ls st h = zgo 219 (zpure (.aload_n 2) 1111 0 [] ls st h)) ∧
  (∀ (ls : zL) (st : zS) (h : zH), zx 219 1111 ls st h = zca 219 1111 1114 ls 103 1 7 (ztake 1 st) h) ∧
  (∀ (ls : zL) (st : zS) (h : zH), zx 219 1114 ls st h = zgo 219 (zpure (.iload 6) 1116 0 [] ls st h)) ∧
  (∀ (ls : zL) (st : zS) (h : zH), zx 219 1116 ls st h = zgo 219 (zpure (.if_icmp .eq 5) 1119 1121 [] ls st h)) ∧
  (∀ (ls : zL) (st : zS) (h : zH), zx 219 1119 ls st h = zgo 219 (zpure (.iconst 0) 1120 0 [] ls st h)) ∧
  (∀ (ls : zL) (st : zS) (h : zH), zx 219 1120 ls st h = zret 1 st h) ∧
  (∀ (ls : zL) (st : zS) (h : zH), zx 219 1121 ls st h = zgo 219 (zpure (.iload 6) 1123 0 [] ls st h)) ∧
  (∀ (ls : zL) (st : zS) (h : zH), zx 219 1123 ls st h = zgo 219 (zpure (.ifCond .ne 15) 1126 1138 [] ls st h)) ∧
  (∀ (ls : zL) (st : zS) (h : zH), zx 219 1126 ls st h = zgo 219 (zpure (.aload_n 3) 1127 0 [] ls st h)) ∧
  (∀ (ls : zL) (st : zS) (h : zH), zx 219 1127 ls st h = zgo 219 (zpure (.iconst 0) 1128 0 [] ls st h)) ∧
  (∀ (ls : zL) (st : zS) (h : zH), zx 219 1128 ls st h = zgo 219 (zpure .laload 1129 0 [] ls st h)) ∧
  (∀ (ls : zL) (st : zS) (h : zH), zx 219 1129 ls st h = zgo 219 (zpure (.iload 7) 1131 0 [] ls st h)) ∧
  (∀ (ls : zL) (st : zS) (h : zH), zx 219 1131 ls st h = zgo 219 (zpure .i2l 1132 0 [] ls st h)) ∧
  (∀ (ls : zL) (st : zS) (h : zH), zx 219 1132 ls st h = zgo 219 (zpure .lcmp 1133 0 [] ls st h)) ∧
  (∀ (ls : zL) (st : zS) (h : zH), zx 219 1133 ls st h = zgo 219 (zpure (.ifCond .eq 5) 1136 1138 [] ls st h)) ∧
  (∀ (ls : zL) (st : zS) (h : zH), zx 219 1136 ls st h = zgo 219 (zpure (.iconst 0) 1137 0 [] ls st h)) ∧
  (∀ (ls : zL) (st : zS) (h : zH), zx 219 1137 ls st h = zret 1 st h) ∧
  (∀ (ls : zL) (st : zS) (h : zH), zx 219 1138 ls st h = zgo 219 (zpure (.goto 1130) 1141 2268 [] ls st h)) :=
  ⟨zx_0 rfl, zx_2c rfl, zx_0 rfl, zx_0 rfl, zx_0 rfl, zx_1 rfl, zx_0 rfl, zx_0 rfl, zx_0 rfl, zx_0 rfl, zx_0 rfl, zx_0 rfl, zx_0 rfl, zx_0 rfl, zx_0 rfl, zx_0 rfl, zx_1 rfl, zx_0 rfl⟩
set_option maxRecDepth 20000 in
theorem lA_13 {L : Nat} {xs : Nat → Int32} {H H1 : zH} {k I : Int} {x6 x7 x8 : Option Value} (hl : zl H 0 = L) (hm : ∀ n, n < L → zm H 0 n = .int (Int32.ofInt (xs n).toInt)) (hI : 0 ≤ I ∧ I + 6 ≤ (L : Int) ∧ (L : Int) ≤ 3072) (e : zc 200 4 [.ref 3, .int (Int32.ofInt (xs (I + 1).toNat).toInt), .ref 68] H = some (.inl (some (.int (Int32.ofInt k))), H1)) : zx 219 1085 [some (.ref 0), some (.ref 3), some (.ref 32), some (.ref 68), some (.ref 69), some (.int (Int32.ofInt I)), x6, x7, x8] [] H = zx 219 1098 [some (.ref 0), some (.ref 3), some (.ref 32), some (.ref 68), some (.ref 69), some (.int (Int32.ofInt I)), some (.int (Int32.ofInt k)), x7, x8] [] H1 := by
  simp (disch := omega) only [zentry, zs0, zs1, zs2, zs3, zg_lo, zg_st, zg_st2, zg_ald, zg_ast, zs_ia, zs_i0, zg_ii, zi_max, zi_min, zi_abi, zi_abf, zi_fb, zi_bf, lget, lst, lst2, lc2, Option.map_some, zso, if_true, if_false, zc1, and_true, true_and, and_self, List.length_nil, List.length_cons, Nat.zero_le, reduceIte, reduceCtorEq, false_and, and_false, Bool.false_eq_true, zca_some, zr0, zr100, Option.bind_some, zb_none, zb_some, zrc, or_true, true_or, eq_self, ne_eq, not_true_eq_false, not_false_eq_true, zrt_i, zrt_zb, zrt_b, zrt_c, zrt_l, zrt_f, zrt_r, zrt_n, zrt_v, zft_0, zft_1, zft_zb, zft_3, zft_4, zft_5, zft_7r, zft_7n, iI_t, zb_i, zb_0, zb_1, Nat.reduceAdd, Nat.reduceLeDiff, Nat.reduceEqDiff, Nat.reduceSub, Int.reduceNeg, iI_add, iI_sub, iI_mul, iI_neg, zbz, zin, if_pos, if_neg, Int.toNat_natCast, Int.natCast_zero, Int.reduceToNat, zt1, zt2, zt3, zt4, zt5, zt6, zt7, zt8, y219_13a, hl, hm, e]
set_option maxRecDepth 20000 in
theorem lB_13 {L : Nat} {xs : Nat → Int32} {H1 H2 : zH} {k I : Int} {x7 x8 : Option Value} {b : Int} (hl : zl H1 0 = L) (hm : ∀ n, n < L → zm H1 0 n = .int (Int32.ofInt (xs n).toInt)) (h32 : zk H1 32 = 6) (hI : 0 ≤ I ∧ I + 6 ≤ (L : Int) ∧ (L : Int) ≤ 3072) (e : zc 142 2 [.ref 32, .int (Int32.ofInt (xs (I + 1).toNat).toInt)] H1 = some (.inl (some (.int (Int32.ofInt b))), H2)) : zx 219 1098 [some (.ref 0), some (.ref 3), some (.ref 32), some (.ref 68), some (.ref 69), some (.int (Int32.ofInt I)), some (.int (Int32.ofInt k)), x7, x8] [] H1 = zx 219 1110 [some (.ref 0), some (.ref 3), some (.ref 32), some (.ref 68), some (.ref 69), some (.int (Int32.ofInt I)), some (.int (Int32.ofInt k)), some (.int (Int32.ofInt b)), x8] [] H2 := by
  simp (disch := omega) only [zentry, zs0, zs1, zs2, zs3, zg_lo, zg_st, zg_st2, zg_ald, zg_ast, zs_ia, zs_i0, zg_ii, zi_max, zi_min, zi_abi, zi_abf, zi_fb, zi_bf, lget, lst, lst2, lc2, Option.map_some, zso, if_true, if_false, zc1, and_true, true_and, and_self, List.length_nil, List.length_cons, Nat.zero_le, reduceIte, reduceCtorEq, false_and, and_false, Bool.false_eq_true, zca_some, zr0, zr100, Option.bind_some, zb_none, zb_some, zrc, or_true, true_or, eq_self, ne_eq, not_true_eq_false, not_false_eq_true, zrt_i, zrt_zb, zrt_b, zrt_c, zrt_l, zrt_f, zrt_r, zrt_n, zrt_v, zft_0, zft_1, zft_zb, zft_3, zft_4, zft_5, zft_7r, zft_7n, iI_t, zb_i, zb_0, zb_1, Nat.reduceAdd, Nat.reduceLeDiff, Nat.reduceEqDiff, Nat.reduceSub, Int.reduceNeg, iI_add, iI_sub, iI_mul, iI_neg, zbz, zin, if_pos, if_neg, Int.toNat_natCast, Int.natCast_zero, Int.reduceToNat, zt1, zt2, zt3, zt4, zt5, zt6, zt7, zt8, y219_13b, hl, hm, h32, e]
set_option maxRecDepth 20000 in
theorem lC_13 {H2 : zH} {k I : Int} {x8 : Option Value} {b v : Int} (h32 : zk H2 32 = 6) (e : zc 103 1 [.ref 32] H2 = some (.inl (some (.int (Int32.ofInt k))), H2)) (rk : iR k) (rb : iR b) (k68 : zk H2 68 = 24) (l68 : zl H2 68 = 1) (m68 : zm H2 68 0 = .long (Int64.ofInt v)) (hv : k = 0 → v = b) : zx 219 1110 [some (.ref 0), some (.ref 3), some (.ref 32), some (.ref 68), some (.ref 69), some (.int (Int32.ofInt I)), some (.int (Int32.ofInt k)), some (.int (Int32.ofInt b)), x8] [] H2 = zx 219 2268 [some (.ref 0), some (.ref 3), some (.ref 32), some (.ref 68), some (.ref 69), some (.int (Int32.ofInt I)), some (.int (Int32.ofInt k)), some (.int (Int32.ofInt b)), x8] [] H2 := by
  by_cases g : k = 0
  · subst g
    have hb : v = b := hv rfl
    simp (disch := omega) only [zentry, zs0, zs1, zs2, zs3, zg_lo, zg_st, zg_st2, zg_ald, zg_ast, zs_ia, zs_i0, zg_ii, zi_max, zi_min, zi_abi, zi_abf, zi_fb, zi_bf, lget, lst, lst2, lc2, Option.map_some, zso, if_true, if_false, zc1, and_true, true_and, and_self, List.length_nil, List.length_cons, Nat.zero_le, reduceIte, reduceCtorEq, false_and, and_false, Bool.false_eq_true, zca_some, zr0, zr100, Option.bind_some, zb_none, zb_some, zrc, or_true, true_or, eq_self, ne_eq, not_true_eq_false, not_false_eq_true, zrt_i, zrt_zb, zrt_b, zrt_c, zrt_l, zrt_f, zrt_r, zrt_n, zrt_v, zft_0, zft_1, zft_zb, zft_3, zft_4, zft_5, zft_7r, zft_7n, iI_t, zb_i, zb_0, zb_1, Nat.reduceAdd, Nat.reduceLeDiff, Nat.reduceEqDiff, Nat.reduceSub, Int.reduceNeg, iI_add, iI_sub, iI_mul, iI_neg, zbz, zin, if_pos, if_neg, Int.toNat_natCast, Int.natCast_zero, Int.reduceToNat, zt1, zt2, zt3, zt4, zt5, zt6, zt7, zt8, y219_13c, h32, e, k68, l68, m68, hb, zl_ii, lw_l1]
  · simp (disch := omega) only [zentry, zs0, zs1, zs2, zs3, zg_lo, zg_st, zg_st2, zg_ald, zg_ast, zs_ia, zs_i0, zg_ii, zi_max, zi_min, zi_abi, zi_abf, zi_fb, zi_bf, lget, lst, lst2, lc2, Option.map_some, zso, if_true, if_false, zc1, and_true, true_and, and_self, List.length_nil, List.length_cons, Nat.zero_le, reduceIte, reduceCtorEq, false_and, and_false, Bool.false_eq_true, zca_some, zr0, zr100, Option.bind_some, zb_none, zb_some, zrc, or_true, true_or, eq_self, ne_eq, not_true_eq_false, not_false_eq_true, zrt_i, zrt_zb, zrt_b, zrt_c, zrt_l, zrt_f, zrt_r, zrt_n, zrt_v, zft_0, zft_1, zft_zb, zft_3, zft_4, zft_5, zft_7r, zft_7n, iI_t, zb_i, zb_0, zb_1, Nat.reduceAdd, Nat.reduceLeDiff, Nat.reduceEqDiff, Nat.reduceSub, Int.reduceNeg, iI_add, iI_sub, iI_mul, iI_neg, zbz, zin, if_pos, if_neg, Int.toNat_natCast, Int.natCast_zero, Int.reduceToNat, zt1, zt2, zt3, zt4, zt5, zt6, zt7, zt8, y219_13c, h32, e, g]
set_option maxRecDepth 4000 in
theorem y219_14 :
  (∀ (ls : zL) (st : zS) (h : zH), zx 219 1141 ls st h = zgo 219 (zpure (.aload_n 1) 1142 0 [] ls st h)) ∧
  (∀ (ls : zL) (st : zS) (h : zH), zx 219 1142 ls st h = zca 219 1142 1145 ls 56 1 6 (ztake 1 st) h) ∧
  (∀ (ls : zL) (st : zS) (h : zH), zx 219 1145 ls st h = zgo 219 (zpure (.aload_n 2) 1146 0 [] ls st h)) ∧
  (∀ (ls : zL) (st : zS) (h : zH), zx 219 1146 ls st h = zca 219 1146 1149 ls 143 1 7 (ztake 1 st) h) ∧
  (∀ (ls : zL) (st : zS) (h : zH), zx 219 1149 ls st h = zgo 219 (zpure (.if_icmp .eq 1119) 1152 2268 [] ls st h)) ∧
  (∀ (ls : zL) (st : zS) (h : zH), zx 219 1152 ls st h = zgo 219 (zpure (.iconst 0) 1153 0 [] ls st h)) ∧
  (∀ (ls : zL) (st : zS) (h : zH), zx 219 1153 ls st h = zret 1 st h) :=
  ⟨zx_0 rfl, zx_2c rfl, zx_0 rfl, zx_2c rfl, zx_0 rfl, zx_0 rfl, zx_1 rfl⟩
set_option maxRecDepth 20000 in
theorem lN_14 {H H1 H2 : zH} {k I : Int} {x6 x7 x8 : Option Value} (h3 : zk H 3 = 5) (h32 : zk H1 32 = 6) (e : zc 56 1 [.ref 3] H = some (.inl (some (.int (Int32.ofInt k))), H1)) (e2 : zc 143 1 [.ref 32] H1 = some (.inl (some (.int (Int32.ofInt k))), H2)) : zx 219 1141 [some (.ref 0), some (.ref 3), some (.ref 32), some (.ref 68), some (.ref 69), some (.int (Int32.ofInt I)), x6, x7, x8] [] H = zx 219 2268 [some (.ref 0), some (.ref 3), some (.ref 32), some (.ref 68), some (.ref 69), some (.int (Int32.ofInt I)), x6, x7, x8] [] H2 := by
  simp (disch := omega) only [zentry, zs0, zs1, zs2, zs3, zg_lo, zg_st, zg_st2, zg_ald, zg_ast, zs_ia, zs_i0, zg_ii, zi_max, zi_min, zi_abi, zi_abf, zi_fb, zi_bf, lget, lst, lst2, lc2, Option.map_some, zso, if_true, if_false, zc1, and_true, true_and, and_self, List.length_nil, List.length_cons, Nat.zero_le, reduceIte, reduceCtorEq, false_and, and_false, Bool.false_eq_true, zca_some, zr0, zr100, Option.bind_some, zb_none, zb_some, zrc, or_true, true_or, eq_self, ne_eq, not_true_eq_false, not_false_eq_true, zrt_i, zrt_zb, zrt_b, zrt_c, zrt_l, zrt_f, zrt_r, zrt_n, zrt_v, zft_0, zft_1, zft_zb, zft_3, zft_4, zft_5, zft_7r, zft_7n, iI_t, zb_i, zb_0, zb_1, Nat.reduceAdd, Nat.reduceLeDiff, Nat.reduceEqDiff, Nat.reduceSub, Int.reduceNeg, iI_add, iI_sub, iI_mul, iI_neg, zbz, zin, if_pos, if_neg, Int.toNat_natCast, Int.natCast_zero, Int.reduceToNat, zt1, zt2, zt3, zt4, zt5, zt6, zt7, zt8, y219_14, h3, h32, e, e2]
set_option maxRecDepth 4000 in
theorem y219_15a :
  (∀ (ls : zL) (st : zS) (h : zH), zx 219 1154 ls st h = zgo 219 (zpure (.aload_n 1) 1155 0 [] ls st h)) ∧
  (∀ (ls : zL) (st : zS) (h : zH), zx 219 1155 ls st h = zgo 219 (zpure (.aload_n 0) 1156 0 [] ls st h)) ∧
  (∀ (ls : zL) (st : zS) (h : zH), zx 219 1156 ls st h = zgo 219 (zpure (.iload 5) 1158 0 [] ls st h)) ∧
  (∀ (ls : zL) (st : zS) (h : zH), zx 219 1158 ls st h = zgo 219 (zpure (.iconst 1) 1159 0 [] ls st h)) ∧
  (∀ (ls : zL) (st : zS) (h : zH), zx 219 1159 ls st h = zgo 219 (zpure .iadd 1160 0 [] ls st h)) ∧
  (∀ (ls : zL) (st : zS) (h : zH), zx 219 1160 ls st h = zgo 219 (zpure .iaload 1161 0 [] ls st h)) ∧
  (∀ (ls : zL) (st : zS) (h : zH), zx 219 1161 ls st h = zgo 219 (zpure (.aload_n 3) 1162 0 [] ls st h)) ∧
  (∀ (ls : zL) (st : zS) (h : zH), zx 219 1162 ls st h = zca 219 1162 1165 ls 201 4 0 (ztake 3 st) h) ∧
  (∀ (ls : zL) (st : zS) (h : zH), zx 219 1165 ls st h = zgo 219 (zpure (.istore 6) 1167 0 [] ls st h)) :=
  ⟨zx_0 rfl, zx_0 rfl, zx_0 rfl, zx_0 rfl, zx_0 rfl, zx_0 rfl, zx_0 rfl, zx_2c rfl, zx_0 rfl⟩
set_option maxRecDepth 4000 in
theorem y219_15b :
  (∀ (ls : zL) (st : zS) (h : zH), zx 219 1167 ls st h = zgo 219 (zpure (.aload_n 2) 1168 0 [] ls st h)) ∧
  (∀ (ls : zL) (st : zS) (h : zH), zx 219 1168 ls st h = zgo 219 (zpure (.aload_n 0) 1169 0 [] ls st h)) ∧
  (∀ (ls : zL) (st : zS) (h : zH), zx 219 1169 ls st h = zgo 219 (zpure (.iload 5) 1171 0 [] ls st h)) ∧
  (∀ (ls : zL) (st : zS) (h : zH), zx 219 1171 ls st h = zgo 219 (zpure (.iconst 1) 1172 0 [] ls st h)) ∧
  (∀ (ls : zL) (st : zS) (h : zH), zx 219 1172 ls st h = zgo 219 (zpure .iadd 1173 0 [] ls st h)) ∧
  (∀ (ls : zL) (st : zS) (h : zH), zx 219 1173 ls st h = zgo 219 (zpure .iaload 1174 0 [] ls st h)) ∧
  (∀ (ls : zL) (st : zS) (h : zH), zx 219 1174 ls st h = zca 219 1174 1177 ls 145 2 7 (ztake 2 st) h) ∧
  (∀ (ls : zL) (st : zS) (h : zH), zx 219 1177 ls st h = zgo 219 (zpure (.istore 7) 1179 0 [] ls st h)) :=
  ⟨zx_0 rfl, zx_0 rfl, zx_0 rfl, zx_0 rfl, zx_0 rfl, zx_0 rfl, zx_2c rfl, zx_0 rfl⟩
set_option maxRecDepth 4000 in
theorem y219_15c :
  (∀ (ls : zL) (st : zS) (h : zH), zx 219 1179 ls st h = zgo 219 (zpure (.aload_n 2) 1180 0 [] ls st h)) ∧
  (∀ (ls : zL) (st : zS) (h : zH), zx 219 1180 ls st h = zca 219 1180 1183 ls 103 1 7 (ztake 1 st) h) ∧
  (∀ (ls : zL) (st : zS) (h : zH), zx 219 1183 ls st h = zgo 219 (zpure (.iload 6) 1185 0 [] ls st h)) ∧
  (∀ (ls : zL) (st : zS) (h : zH), zx 219 1185 ls st h = zgo 219 (zpure (.if_icmp .eq 5) 1188 1190 [] ls st h)) ∧
  (∀ (ls : zL) (st : zS) (h : zH), zx 219 1188 ls st h = zgo 219 (zpure (.iconst 0) 1189 0 [] ls st h)) ∧
  (∀ (ls : zL) (st : zS) (h : zH), zx 219 1189 ls st h = zret 1 st h) ∧
  (∀ (ls : zL) (st : zS) (h : zH), zx 219 1190 ls st h = zgo 219 (zpure (.iload 6) 1192 0 [] ls st h)) ∧
  (∀ (ls : zL) (st : zS) (h : zH), zx 219 1192 ls st h = zgo 219 (zpure (.ifCond .ne 15) 1195 1207 [] ls st h)) ∧
  (∀ (ls : zL) (st : zS) (h : zH), zx 219 1195 ls st h = zgo 219 (zpure (.aload_n 3) 1196 0 [] ls st h)) ∧
  (∀ (ls : zL) (st : zS) (h : zH), zx 219 1196 ls st h = zgo 219 (zpure (.iconst 0) 1197 0 [] ls st h)) ∧
  (∀ (ls : zL) (st : zS) (h : zH), zx 219 1197 ls st h = zgo 219 (zpure .laload 1198 0 [] ls st h)) ∧
  (∀ (ls : zL) (st : zS) (h : zH), zx 219 1198 ls st h = zgo 219 (zpure (.iload 7) 1200 0 [] ls st h)) ∧
  (∀ (ls : zL) (st : zS) (h : zH), zx 219 1200 ls st h = zgo 219 (zpure .i2l 1201 0 [] ls st h)) ∧
  (∀ (ls : zL) (st : zS) (h : zH), zx 219 1201 ls st h = zgo 219 (zpure .lcmp 1202 0 [] ls st h)) ∧
  (∀ (ls : zL) (st : zS) (h : zH), zx 219 1202 ls st h = zgo 219 (zpure (.ifCond .eq 5) 1205 1207 [] ls st h)) ∧
  (∀ (ls : zL) (st : zS) (h : zH), zx 219 1205 ls st h = zgo 219 (zpure (.iconst 0) 1206 0 [] ls st h)) ∧
  (∀ (ls : zL) (st : zS) (h : zH), zx 219 1206 ls st h = zret 1 st h) ∧
  (∀ (ls : zL) (st : zS) (h : zH), zx 219 1207 ls st h = zgo 219 (zpure (.goto 1061) 1210 2268 [] ls st h)) :=
  ⟨zx_0 rfl, zx_2c rfl, zx_0 rfl, zx_0 rfl, zx_0 rfl, zx_1 rfl, zx_0 rfl, zx_0 rfl, zx_0 rfl, zx_0 rfl, zx_0 rfl, zx_0 rfl, zx_0 rfl, zx_0 rfl, zx_0 rfl, zx_0 rfl, zx_1 rfl, zx_0 rfl⟩
set_option maxRecDepth 20000 in
theorem lA_15 {L : Nat} {xs : Nat → Int32} {H H1 : zH} {k I : Int} {x6 x7 x8 : Option Value} (hl : zl H 0 = L) (hm : ∀ n, n < L → zm H 0 n = .int (Int32.ofInt (xs n).toInt)) (hI : 0 ≤ I ∧ I + 6 ≤ (L : Int) ∧ (L : Int) ≤ 3072) (e : zc 201 4 [.ref 3, .int (Int32.ofInt (xs (I + 1).toNat).toInt), .ref 68] H = some (.inl (some (.int (Int32.ofInt k))), H1)) : zx 219 1154 [some (.ref 0), some (.ref 3), some (.ref 32), some (.ref 68), some (.ref 69), some (.int (Int32.ofInt I)), x6, x7, x8] [] H = zx 219 1167 [some (.ref 0), some (.ref 3), some (.ref 32), some (.ref 68), some (.ref 69), some (.int (Int32.ofInt I)), some (.int (Int32.ofInt k)), x7, x8] [] H1 := by
  simp (disch := omega) only [zentry, zs0, zs1, zs2, zs3, zg_lo, zg_st, zg_st2, zg_ald, zg_ast, zs_ia, zs_i0, zg_ii, zi_max, zi_min, zi_abi, zi_abf, zi_fb, zi_bf, lget, lst, lst2, lc2, Option.map_some, zso, if_true, if_false, zc1, and_true, true_and, and_self, List.length_nil, List.length_cons, Nat.zero_le, reduceIte, reduceCtorEq, false_and, and_false, Bool.false_eq_true, zca_some, zr0, zr100, Option.bind_some, zb_none, zb_some, zrc, or_true, true_or, eq_self, ne_eq, not_true_eq_false, not_false_eq_true, zrt_i, zrt_zb, zrt_b, zrt_c, zrt_l, zrt_f, zrt_r, zrt_n, zrt_v, zft_0, zft_1, zft_zb, zft_3, zft_4, zft_5, zft_7r, zft_7n, iI_t, zb_i, zb_0, zb_1, Nat.reduceAdd, Nat.reduceLeDiff, Nat.reduceEqDiff, Nat.reduceSub, Int.reduceNeg, iI_add, iI_sub, iI_mul, iI_neg, zbz, zin, if_pos, if_neg, Int.toNat_natCast, Int.natCast_zero, Int.reduceToNat, zt1, zt2, zt3, zt4, zt5, zt6, zt7, zt8, y219_15a, hl, hm, e]
set_option maxRecDepth 20000 in
theorem lB_15 {L : Nat} {xs : Nat → Int32} {H1 H2 : zH} {k I : Int} {x7 x8 : Option Value} {b : Int} (hl : zl H1 0 = L) (hm : ∀ n, n < L → zm H1 0 n = .int (Int32.ofInt (xs n).toInt)) (h32 : zk H1 32 = 6) (hI : 0 ≤ I ∧ I + 6 ≤ (L : Int) ∧ (L : Int) ≤ 3072) (e : zc 145 2 [.ref 32, .int (Int32.ofInt (xs (I + 1).toNat).toInt)] H1 = some (.inl (some (.int (Int32.ofInt b))), H2)) : zx 219 1167 [some (.ref 0), some (.ref 3), some (.ref 32), some (.ref 68), some (.ref 69), some (.int (Int32.ofInt I)), some (.int (Int32.ofInt k)), x7, x8] [] H1 = zx 219 1179 [some (.ref 0), some (.ref 3), some (.ref 32), some (.ref 68), some (.ref 69), some (.int (Int32.ofInt I)), some (.int (Int32.ofInt k)), some (.int (Int32.ofInt b)), x8] [] H2 := by
  simp (disch := omega) only [zentry, zs0, zs1, zs2, zs3, zg_lo, zg_st, zg_st2, zg_ald, zg_ast, zs_ia, zs_i0, zg_ii, zi_max, zi_min, zi_abi, zi_abf, zi_fb, zi_bf, lget, lst, lst2, lc2, Option.map_some, zso, if_true, if_false, zc1, and_true, true_and, and_self, List.length_nil, List.length_cons, Nat.zero_le, reduceIte, reduceCtorEq, false_and, and_false, Bool.false_eq_true, zca_some, zr0, zr100, Option.bind_some, zb_none, zb_some, zrc, or_true, true_or, eq_self, ne_eq, not_true_eq_false, not_false_eq_true, zrt_i, zrt_zb, zrt_b, zrt_c, zrt_l, zrt_f, zrt_r, zrt_n, zrt_v, zft_0, zft_1, zft_zb, zft_3, zft_4, zft_5, zft_7r, zft_7n, iI_t, zb_i, zb_0, zb_1, Nat.reduceAdd, Nat.reduceLeDiff, Nat.reduceEqDiff, Nat.reduceSub, Int.reduceNeg, iI_add, iI_sub, iI_mul, iI_neg, zbz, zin, if_pos, if_neg, Int.toNat_natCast, Int.natCast_zero, Int.reduceToNat, zt1, zt2, zt3, zt4, zt5, zt6, zt7, zt8, y219_15b, hl, hm, h32, e]
set_option maxRecDepth 20000 in
theorem lC_15 {H2 : zH} {k I : Int} {x8 : Option Value} {b v : Int} (h32 : zk H2 32 = 6) (e : zc 103 1 [.ref 32] H2 = some (.inl (some (.int (Int32.ofInt k))), H2)) (rk : iR k) (rb : iR b) (k68 : zk H2 68 = 24) (l68 : zl H2 68 = 1) (m68 : zm H2 68 0 = .long (Int64.ofInt v)) (hv : k = 0 → v = b) : zx 219 1179 [some (.ref 0), some (.ref 3), some (.ref 32), some (.ref 68), some (.ref 69), some (.int (Int32.ofInt I)), some (.int (Int32.ofInt k)), some (.int (Int32.ofInt b)), x8] [] H2 = zx 219 2268 [some (.ref 0), some (.ref 3), some (.ref 32), some (.ref 68), some (.ref 69), some (.int (Int32.ofInt I)), some (.int (Int32.ofInt k)), some (.int (Int32.ofInt b)), x8] [] H2 := by
  by_cases g : k = 0
  · subst g
    have hb : v = b := hv rfl
    simp (disch := omega) only [zentry, zs0, zs1, zs2, zs3, zg_lo, zg_st, zg_st2, zg_ald, zg_ast, zs_ia, zs_i0, zg_ii, zi_max, zi_min, zi_abi, zi_abf, zi_fb, zi_bf, lget, lst, lst2, lc2, Option.map_some, zso, if_true, if_false, zc1, and_true, true_and, and_self, List.length_nil, List.length_cons, Nat.zero_le, reduceIte, reduceCtorEq, false_and, and_false, Bool.false_eq_true, zca_some, zr0, zr100, Option.bind_some, zb_none, zb_some, zrc, or_true, true_or, eq_self, ne_eq, not_true_eq_false, not_false_eq_true, zrt_i, zrt_zb, zrt_b, zrt_c, zrt_l, zrt_f, zrt_r, zrt_n, zrt_v, zft_0, zft_1, zft_zb, zft_3, zft_4, zft_5, zft_7r, zft_7n, iI_t, zb_i, zb_0, zb_1, Nat.reduceAdd, Nat.reduceLeDiff, Nat.reduceEqDiff, Nat.reduceSub, Int.reduceNeg, iI_add, iI_sub, iI_mul, iI_neg, zbz, zin, if_pos, if_neg, Int.toNat_natCast, Int.natCast_zero, Int.reduceToNat, zt1, zt2, zt3, zt4, zt5, zt6, zt7, zt8, y219_15c, h32, e, k68, l68, m68, hb, zl_ii, lw_l1]
  · simp (disch := omega) only [zentry, zs0, zs1, zs2, zs3, zg_lo, zg_st, zg_st2, zg_ald, zg_ast, zs_ia, zs_i0, zg_ii, zi_max, zi_min, zi_abi, zi_abf, zi_fb, zi_bf, lget, lst, lst2, lc2, Option.map_some, zso, if_true, if_false, zc1, and_true, true_and, and_self, List.length_nil, List.length_cons, Nat.zero_le, reduceIte, reduceCtorEq, false_and, and_false, Bool.false_eq_true, zca_some, zr0, zr100, Option.bind_some, zb_none, zb_some, zrc, or_true, true_or, eq_self, ne_eq, not_true_eq_false, not_false_eq_true, zrt_i, zrt_zb, zrt_b, zrt_c, zrt_l, zrt_f, zrt_r, zrt_n, zrt_v, zft_0, zft_1, zft_zb, zft_3, zft_4, zft_5, zft_7r, zft_7n, iI_t, zb_i, zb_0, zb_1, Nat.reduceAdd, Nat.reduceLeDiff, Nat.reduceEqDiff, Nat.reduceSub, Int.reduceNeg, iI_add, iI_sub, iI_mul, iI_neg, zbz, zin, if_pos, if_neg, Int.toNat_natCast, Int.natCast_zero, Int.reduceToNat, zt1, zt2, zt3, zt4, zt5, zt6, zt7, zt8, y219_15c, h32, e, g]
set_option maxRecDepth 4000 in
theorem y219_16a :
  (∀ (ls : zL) (st : zS) (h : zH), zx 219 1210 ls st h = zgo 219 (zpure (.aload_n 1) 1211 0 [] ls st h)) ∧
  (∀ (ls : zL) (st : zS) (h : zH), zx 219 1211 ls st h = zgo 219 (zpure (.aload_n 0) 1212 0 [] ls st h)) ∧
  (∀ (ls : zL) (st : zS) (h : zH), zx 219 1212 ls st h = zgo 219 (zpure (.iload 5) 1214 0 [] ls st h)) ∧
  (∀ (ls : zL) (st : zS) (h : zH), zx 219 1214 ls st h = zgo 219 (zpure (.iconst 1) 1215 0 [] ls st h)) ∧
  (∀ (ls : zL) (st : zS) (h : zH), zx 219 1215 ls st h = zgo 219 (zpure .iadd 1216 0 [] ls st h)) ∧
  (∀ (ls : zL) (st : zS) (h : zH), zx 219 1216 ls st h = zgo 219 (zpure .iaload 1217 0 [] ls st h)) ∧
  (∀ (ls : zL) (st : zS) (h : zH), zx 219 1217 ls st h = zgo 219 (zpure (.aload_n 3) 1218 0 [] ls st h)) ∧
  (∀ (ls : zL) (st : zS) (h : zH), zx 219 1218 ls st h = zca 219 1218 1221 ls 202 4 0 (ztake 3 st) h) ∧
  (∀ (ls : zL) (st : zS) (h : zH), zx 219 1221 ls st h = zgo 219 (zpure (.istore 6) 1223 0 [] ls st h)) :=
  ⟨zx_0 rfl, zx_0 rfl, zx_0 rfl, zx_0 rfl, zx_0 rfl, zx_0 rfl, zx_0 rfl, zx_2c rfl, zx_0 rfl⟩
set_option maxRecDepth 4000 in
theorem y219_16b :
  (∀ (ls : zL) (st : zS) (h : zH), zx 219 1223 ls st h = zgo 219 (zpure (.aload_n 2) 1224 0 [] ls st h)) ∧
  (∀ (ls : zL) (st : zS) (h : zH), zx 219 1224 ls st h = zgo 219 (zpure (.aload_n 0) 1225 0 [] ls st h)) ∧
  (∀ (ls : zL) (st : zS) (h : zH), zx 219 1225 ls st h = zgo 219 (zpure (.iload 5) 1227 0 [] ls st h)) ∧
  (∀ (ls : zL) (st : zS) (h : zH), zx 219 1227 ls st h = zgo 219 (zpure (.iconst 1) 1228 0 [] ls st h)) ∧
  (∀ (ls : zL) (st : zS) (h : zH), zx 219 1228 ls st h = zgo 219 (zpure .iadd 1229 0 [] ls st h)) ∧
  (∀ (ls : zL) (st : zS) (h : zH), zx 219 1229 ls st h = zgo 219 (zpure .iaload 1230 0 [] ls st h)) ∧
  (∀ (ls : zL) (st : zS) (h : zH), zx 219 1230 ls st h = zca 219 1230 1233 ls 146 2 7 (ztake 2 st) h) ∧
  (∀ (ls : zL) (st : zS) (h : zH), zx 219 1233 ls st h = zgo 219 (zpure (.istore 7) 1235 0 [] ls st h)) :=
  ⟨zx_0 rfl, zx_0 rfl, zx_0 rfl, zx_0 rfl, zx_0 rfl, zx_0 rfl, zx_2c rfl, zx_0 rfl⟩
set_option maxRecDepth 4000 in
theorem y219_16c :
  (∀ (ls : zL) (st : zS) (h : zH), zx 219 1235 ls st h = zgo 219 (zpure (.aload_n 2) 1236 0 [] ls st h)) ∧
  (∀ (ls : zL) (st : zS) (h : zH), zx 219 1236 ls st h = zca 219 1236 1239 ls 103 1 7 (ztake 1 st) h) ∧
  (∀ (ls : zL) (st : zS) (h : zH), zx 219 1239 ls st h = zgo 219 (zpure (.iload 6) 1241 0 [] ls st h)) ∧
  (∀ (ls : zL) (st : zS) (h : zH), zx 219 1241 ls st h = zgo 219 (zpure (.if_icmp .eq 5) 1244 1246 [] ls st h)) ∧
  (∀ (ls : zL) (st : zS) (h : zH), zx 219 1244 ls st h = zgo 219 (zpure (.iconst 0) 1245 0 [] ls st h)) ∧
  (∀ (ls : zL) (st : zS) (h : zH), zx 219 1245 ls st h = zret 1 st h) ∧
  (∀ (ls : zL) (st : zS) (h : zH), zx 219 1246 ls st h = zgo 219 (zpure (.iload 6) 1248 0 [] ls st h)) ∧
  (∀ (ls : zL) (st : zS) (h : zH), zx 219 1248 ls st h = zgo 219 (zpure (.ifCond .ne 15) 1251 1263 [] ls st h)) ∧
  (∀ (ls : zL) (st : zS) (h : zH), zx 219 1251 ls st h = zgo 219 (zpure (.aload_n 3) 1252 0 [] ls st h)) ∧
  (∀ (ls : zL) (st : zS) (h : zH), zx 219 1252 ls st h = zgo 219 (zpure (.iconst 0) 1253 0 [] ls st h)) ∧
  (∀ (ls : zL) (st : zS) (h : zH), zx 219 1253 ls st h = zgo 219 (zpure .laload 1254 0 [] ls st h)) ∧
  (∀ (ls : zL) (st : zS) (h : zH), zx 219 1254 ls st h = zgo 219 (zpure (.iload 7) 1256 0 [] ls st h)) ∧
  (∀ (ls : zL) (st : zS) (h : zH), zx 219 1256 ls st h = zgo 219 (zpure .i2l 1257 0 [] ls st h)) ∧
  (∀ (ls : zL) (st : zS) (h : zH), zx 219 1257 ls st h = zgo 219 (zpure .lcmp 1258 0 [] ls st h)) ∧
  (∀ (ls : zL) (st : zS) (h : zH), zx 219 1258 ls st h = zgo 219 (zpure (.ifCond .eq 5) 1261 1263 [] ls st h)) ∧
  (∀ (ls : zL) (st : zS) (h : zH), zx 219 1261 ls st h = zgo 219 (zpure (.iconst 0) 1262 0 [] ls st h)) ∧
  (∀ (ls : zL) (st : zS) (h : zH), zx 219 1262 ls st h = zret 1 st h) ∧
  (∀ (ls : zL) (st : zS) (h : zH), zx 219 1263 ls st h = zgo 219 (zpure (.goto 1005) 1266 2268 [] ls st h)) :=
  ⟨zx_0 rfl, zx_2c rfl, zx_0 rfl, zx_0 rfl, zx_0 rfl, zx_1 rfl, zx_0 rfl, zx_0 rfl, zx_0 rfl, zx_0 rfl, zx_0 rfl, zx_0 rfl, zx_0 rfl, zx_0 rfl, zx_0 rfl, zx_0 rfl, zx_1 rfl, zx_0 rfl⟩
set_option maxRecDepth 20000 in
theorem lA_16 {L : Nat} {xs : Nat → Int32} {H H1 : zH} {k I : Int} {x6 x7 x8 : Option Value} (hl : zl H 0 = L) (hm : ∀ n, n < L → zm H 0 n = .int (Int32.ofInt (xs n).toInt)) (hI : 0 ≤ I ∧ I + 6 ≤ (L : Int) ∧ (L : Int) ≤ 3072) (e : zc 202 4 [.ref 3, .int (Int32.ofInt (xs (I + 1).toNat).toInt), .ref 68] H = some (.inl (some (.int (Int32.ofInt k))), H1)) : zx 219 1210 [some (.ref 0), some (.ref 3), some (.ref 32), some (.ref 68), some (.ref 69), some (.int (Int32.ofInt I)), x6, x7, x8] [] H = zx 219 1223 [some (.ref 0), some (.ref 3), some (.ref 32), some (.ref 68), some (.ref 69), some (.int (Int32.ofInt I)), some (.int (Int32.ofInt k)), x7, x8] [] H1 := by
  simp (disch := omega) only [zentry, zs0, zs1, zs2, zs3, zg_lo, zg_st, zg_st2, zg_ald, zg_ast, zs_ia, zs_i0, zg_ii, zi_max, zi_min, zi_abi, zi_abf, zi_fb, zi_bf, lget, lst, lst2, lc2, Option.map_some, zso, if_true, if_false, zc1, and_true, true_and, and_self, List.length_nil, List.length_cons, Nat.zero_le, reduceIte, reduceCtorEq, false_and, and_false, Bool.false_eq_true, zca_some, zr0, zr100, Option.bind_some, zb_none, zb_some, zrc, or_true, true_or, eq_self, ne_eq, not_true_eq_false, not_false_eq_true, zrt_i, zrt_zb, zrt_b, zrt_c, zrt_l, zrt_f, zrt_r, zrt_n, zrt_v, zft_0, zft_1, zft_zb, zft_3, zft_4, zft_5, zft_7r, zft_7n, iI_t, zb_i, zb_0, zb_1, Nat.reduceAdd, Nat.reduceLeDiff, Nat.reduceEqDiff, Nat.reduceSub, Int.reduceNeg, iI_add, iI_sub, iI_mul, iI_neg, zbz, zin, if_pos, if_neg, Int.toNat_natCast, Int.natCast_zero, Int.reduceToNat, zt1, zt2, zt3, zt4, zt5, zt6, zt7, zt8, y219_16a, hl, hm, e]
set_option maxRecDepth 20000 in
theorem lB_16 {L : Nat} {xs : Nat → Int32} {H1 H2 : zH} {k I : Int} {x7 x8 : Option Value} {b : Int} (hl : zl H1 0 = L) (hm : ∀ n, n < L → zm H1 0 n = .int (Int32.ofInt (xs n).toInt)) (h32 : zk H1 32 = 6) (hI : 0 ≤ I ∧ I + 6 ≤ (L : Int) ∧ (L : Int) ≤ 3072) (e : zc 146 2 [.ref 32, .int (Int32.ofInt (xs (I + 1).toNat).toInt)] H1 = some (.inl (some (.int (Int32.ofInt b))), H2)) : zx 219 1223 [some (.ref 0), some (.ref 3), some (.ref 32), some (.ref 68), some (.ref 69), some (.int (Int32.ofInt I)), some (.int (Int32.ofInt k)), x7, x8] [] H1 = zx 219 1235 [some (.ref 0), some (.ref 3), some (.ref 32), some (.ref 68), some (.ref 69), some (.int (Int32.ofInt I)), some (.int (Int32.ofInt k)), some (.int (Int32.ofInt b)), x8] [] H2 := by
  simp (disch := omega) only [zentry, zs0, zs1, zs2, zs3, zg_lo, zg_st, zg_st2, zg_ald, zg_ast, zs_ia, zs_i0, zg_ii, zi_max, zi_min, zi_abi, zi_abf, zi_fb, zi_bf, lget, lst, lst2, lc2, Option.map_some, zso, if_true, if_false, zc1, and_true, true_and, and_self, List.length_nil, List.length_cons, Nat.zero_le, reduceIte, reduceCtorEq, false_and, and_false, Bool.false_eq_true, zca_some, zr0, zr100, Option.bind_some, zb_none, zb_some, zrc, or_true, true_or, eq_self, ne_eq, not_true_eq_false, not_false_eq_true, zrt_i, zrt_zb, zrt_b, zrt_c, zrt_l, zrt_f, zrt_r, zrt_n, zrt_v, zft_0, zft_1, zft_zb, zft_3, zft_4, zft_5, zft_7r, zft_7n, iI_t, zb_i, zb_0, zb_1, Nat.reduceAdd, Nat.reduceLeDiff, Nat.reduceEqDiff, Nat.reduceSub, Int.reduceNeg, iI_add, iI_sub, iI_mul, iI_neg, zbz, zin, if_pos, if_neg, Int.toNat_natCast, Int.natCast_zero, Int.reduceToNat, zt1, zt2, zt3, zt4, zt5, zt6, zt7, zt8, y219_16b, hl, hm, h32, e]
set_option maxRecDepth 20000 in
theorem lC_16 {H2 : zH} {k I : Int} {x8 : Option Value} {b v : Int} (h32 : zk H2 32 = 6) (e : zc 103 1 [.ref 32] H2 = some (.inl (some (.int (Int32.ofInt k))), H2)) (rk : iR k) (rb : iR b) (k68 : zk H2 68 = 24) (l68 : zl H2 68 = 1) (m68 : zm H2 68 0 = .long (Int64.ofInt v)) (hv : k = 0 → v = b) : zx 219 1235 [some (.ref 0), some (.ref 3), some (.ref 32), some (.ref 68), some (.ref 69), some (.int (Int32.ofInt I)), some (.int (Int32.ofInt k)), some (.int (Int32.ofInt b)), x8] [] H2 = zx 219 2268 [some (.ref 0), some (.ref 3), some (.ref 32), some (.ref 68), some (.ref 69), some (.int (Int32.ofInt I)), some (.int (Int32.ofInt k)), some (.int (Int32.ofInt b)), x8] [] H2 := by
  by_cases g : k = 0
  · subst g
    have hb : v = b := hv rfl
    simp (disch := omega) only [zentry, zs0, zs1, zs2, zs3, zg_lo, zg_st, zg_st2, zg_ald, zg_ast, zs_ia, zs_i0, zg_ii, zi_max, zi_min, zi_abi, zi_abf, zi_fb, zi_bf, lget, lst, lst2, lc2, Option.map_some, zso, if_true, if_false, zc1, and_true, true_and, and_self, List.length_nil, List.length_cons, Nat.zero_le, reduceIte, reduceCtorEq, false_and, and_false, Bool.false_eq_true, zca_some, zr0, zr100, Option.bind_some, zb_none, zb_some, zrc, or_true, true_or, eq_self, ne_eq, not_true_eq_false, not_false_eq_true, zrt_i, zrt_zb, zrt_b, zrt_c, zrt_l, zrt_f, zrt_r, zrt_n, zrt_v, zft_0, zft_1, zft_zb, zft_3, zft_4, zft_5, zft_7r, zft_7n, iI_t, zb_i, zb_0, zb_1, Nat.reduceAdd, Nat.reduceLeDiff, Nat.reduceEqDiff, Nat.reduceSub, Int.reduceNeg, iI_add, iI_sub, iI_mul, iI_neg, zbz, zin, if_pos, if_neg, Int.toNat_natCast, Int.natCast_zero, Int.reduceToNat, zt1, zt2, zt3, zt4, zt5, zt6, zt7, zt8, y219_16c, h32, e, k68, l68, m68, hb, zl_ii, lw_l1]
  · simp (disch := omega) only [zentry, zs0, zs1, zs2, zs3, zg_lo, zg_st, zg_st2, zg_ald, zg_ast, zs_ia, zs_i0, zg_ii, zi_max, zi_min, zi_abi, zi_abf, zi_fb, zi_bf, lget, lst, lst2, lc2, Option.map_some, zso, if_true, if_false, zc1, and_true, true_and, and_self, List.length_nil, List.length_cons, Nat.zero_le, reduceIte, reduceCtorEq, false_and, and_false, Bool.false_eq_true, zca_some, zr0, zr100, Option.bind_some, zb_none, zb_some, zrc, or_true, true_or, eq_self, ne_eq, not_true_eq_false, not_false_eq_true, zrt_i, zrt_zb, zrt_b, zrt_c, zrt_l, zrt_f, zrt_r, zrt_n, zrt_v, zft_0, zft_1, zft_zb, zft_3, zft_4, zft_5, zft_7r, zft_7n, iI_t, zb_i, zb_0, zb_1, Nat.reduceAdd, Nat.reduceLeDiff, Nat.reduceEqDiff, Nat.reduceSub, Int.reduceNeg, iI_add, iI_sub, iI_mul, iI_neg, zbz, zin, if_pos, if_neg, Int.toNat_natCast, Int.natCast_zero, Int.reduceToNat, zt1, zt2, zt3, zt4, zt5, zt6, zt7, zt8, y219_16c, h32, e, g]
set_option maxRecDepth 4000 in
theorem y219_17a :
  (∀ (ls : zL) (st : zS) (h : zH), zx 219 1266 ls st h = zgo 219 (zpure (.aload_n 1) 1267 0 [] ls st h)) ∧
  (∀ (ls : zL) (st : zS) (h : zH), zx 219 1267 ls st h = zgo 219 (zpure (.aload_n 0) 1268 0 [] ls st h)) ∧
  (∀ (ls : zL) (st : zS) (h : zH), zx 219 1268 ls st h = zgo 219 (zpure (.iload 5) 1270 0 [] ls st h)) ∧
  (∀ (ls : zL) (st : zS) (h : zH), zx 219 1270 ls st h = zgo 219 (zpure (.iconst 1) 1271 0 [] ls st h)) ∧
  (∀ (ls : zL) (st : zS) (h : zH), zx 219 1271 ls st h = zgo 219 (zpure .iadd 1272 0 [] ls st h)) ∧
  (∀ (ls : zL) (st : zS) (h : zH), zx 219 1272 ls st h = zgo 219 (zpure .iaload 1273 0 [] ls st h)) ∧
  (∀ (ls : zL) (st : zS) (h : zH), zx 219 1273 ls st h = zgo 219 (zpure (.aload_n 3) 1274 0 [] ls st h)) ∧
  (∀ (ls : zL) (st : zS) (h : zH), zx 219 1274 ls st h = zca 219 1274 1277 ls 203 4 0 (ztake 3 st) h) ∧
  (∀ (ls : zL) (st : zS) (h : zH), zx 219 1277 ls st h = zgo 219 (zpure (.istore 6) 1279 0 [] ls st h)) :=
  ⟨zx_0 rfl, zx_0 rfl, zx_0 rfl, zx_0 rfl, zx_0 rfl, zx_0 rfl, zx_0 rfl, zx_2c rfl, zx_0 rfl⟩
set_option maxRecDepth 4000 in
theorem y219_17b :
  (∀ (ls : zL) (st : zS) (h : zH), zx 219 1279 ls st h = zgo 219 (zpure (.aload_n 2) 1280 0 [] ls st h)) ∧
  (∀ (ls : zL) (st : zS) (h : zH), zx 219 1280 ls st h = zgo 219 (zpure (.aload_n 0) 1281 0 [] ls st h)) ∧
  (∀ (ls : zL) (st : zS) (h : zH), zx 219 1281 ls st h = zgo 219 (zpure (.iload 5) 1283 0 [] ls st h)) ∧
  (∀ (ls : zL) (st : zS) (h : zH), zx 219 1283 ls st h = zgo 219 (zpure (.iconst 1) 1284 0 [] ls st h)) ∧
  (∀ (ls : zL) (st : zS) (h : zH), zx 219 1284 ls st h = zgo 219 (zpure .iadd 1285 0 [] ls st h)) ∧
  (∀ (ls : zL) (st : zS) (h : zH), zx 219 1285 ls st h = zgo 219 (zpure .iaload 1286 0 [] ls st h)) ∧
  (∀ (ls : zL) (st : zS) (h : zH), zx 219 1286 ls st h = zca 219 1286 1289 ls 147 2 7 (ztake 2 st) h) ∧
  (∀ (ls : zL) (st : zS) (h : zH), zx 219 1289 ls st h = zgo 219 (zpure (.istore 7) 1291 0 [] ls st h)) :=
  ⟨zx_0 rfl, zx_0 rfl, zx_0 rfl, zx_0 rfl, zx_0 rfl, zx_0 rfl, zx_2c rfl, zx_0 rfl⟩
set_option maxRecDepth 4000 in
theorem y219_17c :
  (∀ (ls : zL) (st : zS) (h : zH), zx 219 1291 ls st h = zgo 219 (zpure (.aload_n 2) 1292 0 [] ls st h)) ∧
  (∀ (ls : zL) (st : zS) (h : zH), zx 219 1292 ls st h = zca 219 1292 1295 ls 103 1 7 (ztake 1 st) h) ∧
  (∀ (ls : zL) (st : zS) (h : zH), zx 219 1295 ls st h = zgo 219 (zpure (.iload 6) 1297 0 [] ls st h)) ∧
  (∀ (ls : zL) (st : zS) (h : zH), zx 219 1297 ls st h = zgo 219 (zpure (.if_icmp .eq 5) 1300 1302 [] ls st h)) ∧
  (∀ (ls : zL) (st : zS) (h : zH), zx 219 1300 ls st h = zgo 219 (zpure (.iconst 0) 1301 0 [] ls st h)) ∧
  (∀ (ls : zL) (st : zS) (h : zH), zx 219 1301 ls st h = zret 1 st h) ∧
  (∀ (ls : zL) (st : zS) (h : zH), zx 219 1302 ls st h = zgo 219 (zpure (.iload 6) 1304 0 [] ls st h)) ∧
  (∀ (ls : zL) (st : zS) (h : zH), zx 219 1304 ls st h = zgo 219 (zpure (.ifCond .ne 15) 1307 1319 [] ls st h)) ∧
  (∀ (ls : zL) (st : zS) (h : zH), zx 219 1307 ls st h = zgo 219 (zpure (.aload_n 3) 1308 0 [] ls st h)) ∧
  (∀ (ls : zL) (st : zS) (h : zH), zx 219 1308 ls st h = zgo 219 (zpure (.iconst 0) 1309 0 [] ls st h)) ∧
  (∀ (ls : zL) (st : zS) (h : zH), zx 219 1309 ls st h = zgo 219 (zpure .laload 1310 0 [] ls st h)) ∧
  (∀ (ls : zL) (st : zS) (h : zH), zx 219 1310 ls st h = zgo 219 (zpure (.iload 7) 1312 0 [] ls st h)) ∧
  (∀ (ls : zL) (st : zS) (h : zH), zx 219 1312 ls st h = zgo 219 (zpure .i2l 1313 0 [] ls st h)) ∧
  (∀ (ls : zL) (st : zS) (h : zH), zx 219 1313 ls st h = zgo 219 (zpure .lcmp 1314 0 [] ls st h)) ∧
  (∀ (ls : zL) (st : zS) (h : zH), zx 219 1314 ls st h = zgo 219 (zpure (.ifCond .eq 5) 1317 1319 [] ls st h)) ∧
  (∀ (ls : zL) (st : zS) (h : zH), zx 219 1317 ls st h = zgo 219 (zpure (.iconst 0) 1318 0 [] ls st h)) ∧
  (∀ (ls : zL) (st : zS) (h : zH), zx 219 1318 ls st h = zret 1 st h) ∧
  (∀ (ls : zL) (st : zS) (h : zH), zx 219 1319 ls st h = zgo 219 (zpure (.goto 949) 1322 2268 [] ls st h)) :=
  ⟨zx_0 rfl, zx_2c rfl, zx_0 rfl, zx_0 rfl, zx_0 rfl, zx_1 rfl, zx_0 rfl, zx_0 rfl, zx_0 rfl, zx_0 rfl, zx_0 rfl, zx_0 rfl, zx_0 rfl, zx_0 rfl, zx_0 rfl, zx_0 rfl, zx_1 rfl, zx_0 rfl⟩
set_option maxRecDepth 20000 in
theorem lA_17 {L : Nat} {xs : Nat → Int32} {H H1 : zH} {k I : Int} {x6 x7 x8 : Option Value} (hl : zl H 0 = L) (hm : ∀ n, n < L → zm H 0 n = .int (Int32.ofInt (xs n).toInt)) (hI : 0 ≤ I ∧ I + 6 ≤ (L : Int) ∧ (L : Int) ≤ 3072) (e : zc 203 4 [.ref 3, .int (Int32.ofInt (xs (I + 1).toNat).toInt), .ref 68] H = some (.inl (some (.int (Int32.ofInt k))), H1)) : zx 219 1266 [some (.ref 0), some (.ref 3), some (.ref 32), some (.ref 68), some (.ref 69), some (.int (Int32.ofInt I)), x6, x7, x8] [] H = zx 219 1279 [some (.ref 0), some (.ref 3), some (.ref 32), some (.ref 68), some (.ref 69), some (.int (Int32.ofInt I)), some (.int (Int32.ofInt k)), x7, x8] [] H1 := by
  simp (disch := omega) only [zentry, zs0, zs1, zs2, zs3, zg_lo, zg_st, zg_st2, zg_ald, zg_ast, zs_ia, zs_i0, zg_ii, zi_max, zi_min, zi_abi, zi_abf, zi_fb, zi_bf, lget, lst, lst2, lc2, Option.map_some, zso, if_true, if_false, zc1, and_true, true_and, and_self, List.length_nil, List.length_cons, Nat.zero_le, reduceIte, reduceCtorEq, false_and, and_false, Bool.false_eq_true, zca_some, zr0, zr100, Option.bind_some, zb_none, zb_some, zrc, or_true, true_or, eq_self, ne_eq, not_true_eq_false, not_false_eq_true, zrt_i, zrt_zb, zrt_b, zrt_c, zrt_l, zrt_f, zrt_r, zrt_n, zrt_v, zft_0, zft_1, zft_zb, zft_3, zft_4, zft_5, zft_7r, zft_7n, iI_t, zb_i, zb_0, zb_1, Nat.reduceAdd, Nat.reduceLeDiff, Nat.reduceEqDiff, Nat.reduceSub, Int.reduceNeg, iI_add, iI_sub, iI_mul, iI_neg, zbz, zin, if_pos, if_neg, Int.toNat_natCast, Int.natCast_zero, Int.reduceToNat, zt1, zt2, zt3, zt4, zt5, zt6, zt7, zt8, y219_17a, hl, hm, e]
set_option maxRecDepth 20000 in
theorem lB_17 {L : Nat} {xs : Nat → Int32} {H1 H2 : zH} {k I : Int} {x7 x8 : Option Value} {b : Int} (hl : zl H1 0 = L) (hm : ∀ n, n < L → zm H1 0 n = .int (Int32.ofInt (xs n).toInt)) (h32 : zk H1 32 = 6) (hI : 0 ≤ I ∧ I + 6 ≤ (L : Int) ∧ (L : Int) ≤ 3072) (e : zc 147 2 [.ref 32, .int (Int32.ofInt (xs (I + 1).toNat).toInt)] H1 = some (.inl (some (.int (Int32.ofInt b))), H2)) : zx 219 1279 [some (.ref 0), some (.ref 3), some (.ref 32), some (.ref 68), some (.ref 69), some (.int (Int32.ofInt I)), some (.int (Int32.ofInt k)), x7, x8] [] H1 = zx 219 1291 [some (.ref 0), some (.ref 3), some (.ref 32), some (.ref 68), some (.ref 69), some (.int (Int32.ofInt I)), some (.int (Int32.ofInt k)), some (.int (Int32.ofInt b)), x8] [] H2 := by
  simp (disch := omega) only [zentry, zs0, zs1, zs2, zs3, zg_lo, zg_st, zg_st2, zg_ald, zg_ast, zs_ia, zs_i0, zg_ii, zi_max, zi_min, zi_abi, zi_abf, zi_fb, zi_bf, lget, lst, lst2, lc2, Option.map_some, zso, if_true, if_false, zc1, and_true, true_and, and_self, List.length_nil, List.length_cons, Nat.zero_le, reduceIte, reduceCtorEq, false_and, and_false, Bool.false_eq_true, zca_some, zr0, zr100, Option.bind_some, zb_none, zb_some, zrc, or_true, true_or, eq_self, ne_eq, not_true_eq_false, not_false_eq_true, zrt_i, zrt_zb, zrt_b, zrt_c, zrt_l, zrt_f, zrt_r, zrt_n, zrt_v, zft_0, zft_1, zft_zb, zft_3, zft_4, zft_5, zft_7r, zft_7n, iI_t, zb_i, zb_0, zb_1, Nat.reduceAdd, Nat.reduceLeDiff, Nat.reduceEqDiff, Nat.reduceSub, Int.reduceNeg, iI_add, iI_sub, iI_mul, iI_neg, zbz, zin, if_pos, if_neg, Int.toNat_natCast, Int.natCast_zero, Int.reduceToNat, zt1, zt2, zt3, zt4, zt5, zt6, zt7, zt8, y219_17b, hl, hm, h32, e]
set_option maxRecDepth 20000 in
theorem lC_17 {H2 : zH} {k I : Int} {x8 : Option Value} {b v : Int} (h32 : zk H2 32 = 6) (e : zc 103 1 [.ref 32] H2 = some (.inl (some (.int (Int32.ofInt k))), H2)) (rk : iR k) (rb : iR b) (k68 : zk H2 68 = 24) (l68 : zl H2 68 = 1) (m68 : zm H2 68 0 = .long (Int64.ofInt v)) (hv : k = 0 → v = b) : zx 219 1291 [some (.ref 0), some (.ref 3), some (.ref 32), some (.ref 68), some (.ref 69), some (.int (Int32.ofInt I)), some (.int (Int32.ofInt k)), some (.int (Int32.ofInt b)), x8] [] H2 = zx 219 2268 [some (.ref 0), some (.ref 3), some (.ref 32), some (.ref 68), some (.ref 69), some (.int (Int32.ofInt I)), some (.int (Int32.ofInt k)), some (.int (Int32.ofInt b)), x8] [] H2 := by
  by_cases g : k = 0
  · subst g
    have hb : v = b := hv rfl
    simp (disch := omega) only [zentry, zs0, zs1, zs2, zs3, zg_lo, zg_st, zg_st2, zg_ald, zg_ast, zs_ia, zs_i0, zg_ii, zi_max, zi_min, zi_abi, zi_abf, zi_fb, zi_bf, lget, lst, lst2, lc2, Option.map_some, zso, if_true, if_false, zc1, and_true, true_and, and_self, List.length_nil, List.length_cons, Nat.zero_le, reduceIte, reduceCtorEq, false_and, and_false, Bool.false_eq_true, zca_some, zr0, zr100, Option.bind_some, zb_none, zb_some, zrc, or_true, true_or, eq_self, ne_eq, not_true_eq_false, not_false_eq_true, zrt_i, zrt_zb, zrt_b, zrt_c, zrt_l, zrt_f, zrt_r, zrt_n, zrt_v, zft_0, zft_1, zft_zb, zft_3, zft_4, zft_5, zft_7r, zft_7n, iI_t, zb_i, zb_0, zb_1, Nat.reduceAdd, Nat.reduceLeDiff, Nat.reduceEqDiff, Nat.reduceSub, Int.reduceNeg, iI_add, iI_sub, iI_mul, iI_neg, zbz, zin, if_pos, if_neg, Int.toNat_natCast, Int.natCast_zero, Int.reduceToNat, zt1, zt2, zt3, zt4, zt5, zt6, zt7, zt8, y219_17c, h32, e, k68, l68, m68, hb, zl_ii, lw_l1]
  · simp (disch := omega) only [zentry, zs0, zs1, zs2, zs3, zg_lo, zg_st, zg_st2, zg_ald, zg_ast, zs_ia, zs_i0, zg_ii, zi_max, zi_min, zi_abi, zi_abf, zi_fb, zi_bf, lget, lst, lst2, lc2, Option.map_some, zso, if_true, if_false, zc1, and_true, true_and, and_self, List.length_nil, List.length_cons, Nat.zero_le, reduceIte, reduceCtorEq, false_and, and_false, Bool.false_eq_true, zca_some, zr0, zr100, Option.bind_some, zb_none, zb_some, zrc, or_true, true_or, eq_self, ne_eq, not_true_eq_false, not_false_eq_true, zrt_i, zrt_zb, zrt_b, zrt_c, zrt_l, zrt_f, zrt_r, zrt_n, zrt_v, zft_0, zft_1, zft_zb, zft_3, zft_4, zft_5, zft_7r, zft_7n, iI_t, zb_i, zb_0, zb_1, Nat.reduceAdd, Nat.reduceLeDiff, Nat.reduceEqDiff, Nat.reduceSub, Int.reduceNeg, iI_add, iI_sub, iI_mul, iI_neg, zbz, zin, if_pos, if_neg, Int.toNat_natCast, Int.natCast_zero, Int.reduceToNat, zt1, zt2, zt3, zt4, zt5, zt6, zt7, zt8, y219_17c, h32, e, g]

/-! the law, case by case (a program has written them) -/
set_option maxRecDepth 4000 in
theorem y219_0a :
  (∀ (ls : zL) (st : zS) (h : zH), zx 219 204 ls st h = zgo 219 (zpure (.aload_n 1) 205 0 [] ls st h)) ∧
  (∀ (ls : zL) (st : zS) (h : zH), zx 219 205 ls st h = zgo 219 (zpure (.aload_n 0) 206 0 [] ls st h)) ∧
  (∀ (ls : zL) (st : zS) (h : zH), zx 219 206 ls st h = zgo 219 (zpure (.iload 5) 208 0 [] ls st h)) ∧
  (∀ (ls : zL) (st : zS) (h : zH), zx 219 208 ls st h = zgo 219 (zpure (.iconst 1) 209 0 [] ls st h)) ∧
  (∀ (ls : zL) (st : zS) (h : zH), zx 219 209 ls st h = zgo 219 (zpure .iadd 210 0 [] ls st h)) ∧
  (∀ (ls : zL) (st : zS) (h : zH), zx 219 210 ls st h = zgo 219 (zpure .iaload 211 0 [] ls st h)) ∧
  (∀ (ls : zL) (st : zS) (h : zH), zx 219 211 ls st h = zgo 219 (zpure (.aload_n 0) 212 0 [] ls st h)) ∧
  (∀ (ls : zL) (st : zS) (h : zH), zx 219 212 ls st h = zgo 219 (zpure (.iload 5) 214 0 [] ls st h)) ∧
  (∀ (ls : zL) (st : zS) (h : zH), zx 219 214 ls st h = zgo 219 (zpure (.iconst 2) 215 0 [] ls st h)) ∧
  (∀ (ls : zL) (st : zS) (h : zH), zx 219 215 ls st h = zgo 219 (zpure .iadd 216 0 [] ls st h)) ∧
  (∀ (ls : zL) (st : zS) (h : zH), zx 219 216 ls st h = zgo 219 (zpure .iaload 217 0 [] ls st h)) ∧
  (∀ (ls : zL) (st : zS) (h : zH), zx 219 217 ls st h = zgo 219 (zpure (.aload_n 0) 218 0 [] ls st h)) ∧
  (∀ (ls : zL) (st : zS) (h : zH), zx 219 218 ls st h = zgo 219 (zpure (.iload 5) 220 0 [] ls st h)) ∧
  (∀ (ls : zL) (st : zS) (h : zH), zx 219 220 ls st h = zgo 219 (zpure (.iconst 3) 221 0 [] ls st h)) ∧
  (∀ (ls : zL) (st : zS) (h : zH), zx 219 221 ls st h = zgo 219 (zpure .iadd 222 0 [] ls st h)) ∧
  (∀ (ls : zL) (st : zS) (h : zH), zx 219 222 ls st h = zgo 219 (zpure .iaload 223 0 [] ls st h)) ∧
  (∀ (ls : zL) (st : zS) (h : zH), zx 219 223 ls st h = zgo 219 (zpure (.aload_n 0) 224 0 [] ls st h)) ∧
  (∀ (ls : zL) (st : zS) (h : zH), zx 219 224 ls st h = zgo 219 (zpure (.iload 5) 226 0 [] ls st h)) ∧
  (∀ (ls : zL) (st : zS) (h : zH), zx 219 226 ls st h = zgo 219 (zpure (.iconst 4) 227 0 [] ls st h)) ∧
  (∀ (ls : zL) (st : zS) (h : zH), zx 219 227 ls st h = zgo 219 (zpure .iadd 228 0 [] ls st h)) ∧
  (∀ (ls : zL) (st : zS) (h : zH), zx 219 228 ls st h = zgo 219 (zpure .iaload 229 0 [] ls st h)) ∧
  (∀ (ls : zL) (st : zS) (h : zH), zx 219 229 ls st h = zgo 219 (zpure (.aload_n 0) 230 0 [] ls st h)) ∧
  (∀ (ls : zL) (st : zS) (h : zH), zx 219 230 ls st h = zgo 219 (zpure (.iload 5) 232 0 [] ls st h)) ∧
  (∀ (ls : zL) (st : zS) (h : zH), zx 219 232 ls st h = zgo 219 (zpure (.iconst 5) 233 0 [] ls st h)) ∧
  (∀ (ls : zL) (st : zS) (h : zH), zx 219 233 ls st h = zgo 219 (zpure .iadd 234 0 [] ls st h)) ∧
  (∀ (ls : zL) (st : zS) (h : zH), zx 219 234 ls st h = zgo 219 (zpure .iaload 235 0 [] ls st h)) ∧
  (∀ (ls : zL) (st : zS) (h : zH), zx 219 235 ls st h = zgo 219 (zpure (.aload_n 3) 236 0 [] ls st h)) ∧
  (∀ (ls : zL) (st : zS) (h : zH), zx 219 236 ls st h = zca 219 236 239 ls 188 8 0 (ztake 7 st) h) ∧
  (∀ (ls : zL) (st : zS) (h : zH), zx 219 239 ls st h = zgo 219 (zpure (.istore 6) 241 0 [] ls st h)) :=
  ⟨zx_0 rfl, zx_0 rfl, zx_0 rfl, zx_0 rfl, zx_0 rfl, zx_0 rfl, zx_0 rfl, zx_0 rfl, zx_0 rfl, zx_0 rfl, zx_0 rfl, zx_0 rfl, zx_0 rfl, zx_0 rfl, zx_0 rfl, zx_0 rfl, zx_0 rfl, zx_0 rfl, zx_0 rfl, zx_0 rfl, zx_0 rfl, zx_0 rfl, zx_0 rfl, zx_0 rfl, zx_0 rfl, zx_0 rfl, zx_0 rfl, zx_2c rfl, zx_0 rfl⟩
set_option maxRecDepth 4000 in
theorem y219_0b :
  (∀ (ls : zL) (st : zS) (h : zH), zx 219 241 ls st h = zgo 219 (zpure (.aload_n 2) 242 0 [] ls st h)) ∧
  (∀ (ls : zL) (st : zS) (h : zH), zx 219 242 ls st h = zgo 219 (zpure (.aload_n 0) 243 0 [] ls st h)) ∧
  (∀ (ls : zL) (st : zS) (h : zH), zx 219 243 ls st h = zgo 219 (zpure (.iload 5) 245 0 [] ls st h)) ∧
  (∀ (ls : zL) (st : zS) (h : zH), zx 219 245 ls st h = zgo 219 (zpure (.iconst 1) 246 0 [] ls st h)) ∧
  (∀ (ls : zL) (st : zS) (h : zH), zx 219 246 ls st h = zgo 219 (zpure .iadd 247 0 [] ls st h)) ∧
  (∀ (ls : zL) (st : zS) (h : zH), zx 219 247 ls st h = zgo 219 (zpure .iaload 248 0 [] ls st h)) ∧
  (∀ (ls : zL) (st : zS) (h : zH), zx 219 248 ls st h = zgo 219 (zpure (.aload_n 0) 249 0 [] ls st h)) ∧
  (∀ (ls : zL) (st : zS) (h : zH), zx 219 249 ls st h = zgo 219 (zpure (.iload 5) 251 0 [] ls st h)) ∧
  (∀ (ls : zL) (st : zS) (h : zH), zx 219 251 ls st h = zgo 219 (zpure (.iconst 2) 252 0 [] ls st h)) ∧
  (∀ (ls : zL) (st : zS) (h : zH), zx 219 252 ls st h = zgo 219 (zpure .iadd 253 0 [] ls st h)) ∧
  (∀ (ls : zL) (st : zS) (h : zH), zx 219 253 ls st h = zgo 219 (zpure .iaload 254 0 [] ls st h)) ∧
  (∀ (ls : zL) (st : zS) (h : zH), zx 219 254 ls st h = zgo 219 (zpure (.aload_n 0) 255 0 [] ls st h)) ∧
  (∀ (ls : zL) (st : zS) (h : zH), zx 219 255 ls st h = zgo 219 (zpure (.iload 5) 257 0 [] ls st h)) ∧
  (∀ (ls : zL) (st : zS) (h : zH), zx 219 257 ls st h = zgo 219 (zpure (.iconst 3) 258 0 [] ls st h)) ∧
  (∀ (ls : zL) (st : zS) (h : zH), zx 219 258 ls st h = zgo 219 (zpure .iadd 259 0 [] ls st h)) ∧
  (∀ (ls : zL) (st : zS) (h : zH), zx 219 259 ls st h = zgo 219 (zpure .iaload 260 0 [] ls st h)) ∧
  (∀ (ls : zL) (st : zS) (h : zH), zx 219 260 ls st h = zgo 219 (zpure (.aload_n 0) 261 0 [] ls st h)) ∧
  (∀ (ls : zL) (st : zS) (h : zH), zx 219 261 ls st h = zgo 219 (zpure (.iload 5) 263 0 [] ls st h)) ∧
  (∀ (ls : zL) (st : zS) (h : zH), zx 219 263 ls st h = zgo 219 (zpure (.iconst 4) 264 0 [] ls st h)) ∧
  (∀ (ls : zL) (st : zS) (h : zH), zx 219 264 ls st h = zgo 219 (zpure .iadd 265 0 [] ls st h)) ∧
  (∀ (ls : zL) (st : zS) (h : zH), zx 219 265 ls st h = zgo 219 (zpure .iaload 266 0 [] ls st h)) ∧
  (∀ (ls : zL) (st : zS) (h : zH), zx 219 266 ls st h = zgo 219 (zpure (.aload_n 0) 267 0 [] ls st h)) ∧
  (∀ (ls : zL) (st : zS) (h : zH), zx 219 267 ls st h = zgo 219 (zpure (.iload 5) 269 0 [] ls st h)) ∧
  (∀ (ls : zL) (st : zS) (h : zH), zx 219 269 ls st h = zgo 219 (zpure (.iconst 5) 270 0 [] ls st h)) ∧
  (∀ (ls : zL) (st : zS) (h : zH), zx 219 270 ls st h = zgo 219 (zpure .iadd 271 0 [] ls st h)) ∧
  (∀ (ls : zL) (st : zS) (h : zH), zx 219 271 ls st h = zgo 219 (zpure .iaload 272 0 [] ls st h)) ∧
  (∀ (ls : zL) (st : zS) (h : zH), zx 219 272 ls st h = zca 219 272 275 ls 108 6 7 (ztake 6 st) h) ∧
  (∀ (ls : zL) (st : zS) (h : zH), zx 219 275 ls st h = zgo 219 (zpure (.istore 7) 277 0 [] ls st h)) :=
  ⟨zx_0 rfl, zx_0 rfl, zx_0 rfl, zx_0 rfl, zx_0 rfl, zx_0 rfl, zx_0 rfl, zx_0 rfl, zx_0 rfl, zx_0 rfl, zx_0 rfl, zx_0 rfl, zx_0 rfl, zx_0 rfl, zx_0 rfl, zx_0 rfl, zx_0 rfl, zx_0 rfl, zx_0 rfl, zx_0 rfl, zx_0 rfl, zx_0 rfl, zx_0 rfl, zx_0 rfl, zx_0 rfl, zx_0 rfl, zx_2c rfl, zx_0 rfl⟩
set_option maxRecDepth 4000 in
theorem y219_0c :
  (∀ (ls : zL) (st : zS) (h : zH), zx 219 277 ls st h = zgo 219 (zpure (.aload_n 2) 278 0 [] ls st h)) ∧
  (∀ (ls : zL) (st : zS) (h : zH), zx 219 278 ls st h = zca 219 278 281 ls 103 1 7 (ztake 1 st) h) ∧
  (∀ (ls : zL) (st : zS) (h : zH), zx 219 281 ls st h = zgo 219 (zpure (.iload 6) 283 0 [] ls st h)) ∧
  (∀ (ls : zL) (st : zS) (h : zH), zx 219 283 ls st h = zgo 219 (zpure (.if_icmp .eq 5) 286 288 [] ls st h)) ∧
  (∀ (ls : zL) (st : zS) (h : zH), zx 219 286 ls st h = zgo 219 (zpure (.iconst 0) 287 0 [] ls st h)) ∧
  (∀ (ls : zL) (st : zS) (h : zH), zx 219 287 ls st h = zret 1 st h) ∧
  (∀ (ls : zL) (st : zS) (h : zH), zx 219 288 ls st h = zgo 219 (zpure (.iload 6) 290 0 [] ls st h)) ∧
  (∀ (ls : zL) (st : zS) (h : zH), zx 219 290 ls st h = zgo 219 (zpure (.ifCond .ne 15) 293 305 [] ls st h)) ∧
  (∀ (ls : zL) (st : zS) (h : zH), zx 219 293 ls st h = zgo 219 (zpure (.aload_n 3) 294 0 [] ls st h)) ∧
  (∀ (ls : zL) (st : zS) (h : zH), zx 219 294 ls st h = zgo 219 (zpure (.iconst 0) 295 0 [] ls st h)) ∧
  (∀ (ls : zL) (st : zS) (h : zH), zx 219 295 ls st h = zgo 219 (zpure .laload 296 0 [] ls st h)) ∧
  (∀ (ls : zL) (st : zS) (h : zH), zx 219 296 ls st h = zgo 219 (zpure (.iload 7) 298 0 [] ls st h)) ∧
  (∀ (ls : zL) (st : zS) (h : zH), zx 219 298 ls st h = zgo 219 (zpure .i2l 299 0 [] ls st h)) ∧
  (∀ (ls : zL) (st : zS) (h : zH), zx 219 299 ls st h = zgo 219 (zpure .lcmp 300 0 [] ls st h)) ∧
  (∀ (ls : zL) (st : zS) (h : zH), zx 219 300 ls st h = zgo 219 (zpure (.ifCond .eq 5) 303 305 [] ls st h)) ∧
  (∀ (ls : zL) (st : zS) (h : zH), zx 219 303 ls st h = zgo 219 (zpure (.iconst 0) 304 0 [] ls st h)) ∧
  (∀ (ls : zL) (st : zS) (h : zH), zx 219 304 ls st h = zret 1 st h) ∧
  (∀ (ls : zL) (st : zS) (h : zH), zx 219 305 ls st h = zgo 219 (zpure (.goto 1963) 308 2268 [] ls st h)) :=
  ⟨zx_0 rfl, zx_2c rfl, zx_0 rfl, zx_0 rfl, zx_0 rfl, zx_1 rfl, zx_0 rfl, zx_0 rfl, zx_0 rfl, zx_0 rfl, zx_0 rfl, zx_0 rfl, zx_0 rfl, zx_0 rfl, zx_0 rfl, zx_0 rfl, zx_1 rfl, zx_0 rfl⟩
set_option maxRecDepth 20000 in
theorem lA_0 {L : Nat} {xs : Nat → Int32} {H H1 : zH} {k I : Int} {x6 x7 x8 : Option Value} (hl : zl H 0 = L) (hm : ∀ n, n < L → zm H 0 n = .int (Int32.ofInt (xs n).toInt)) (hI : 0 ≤ I ∧ I + 6 ≤ (L : Int) ∧ (L : Int) ≤ 3072) (e : zc 188 8 [.ref 3, .int (Int32.ofInt (xs (I + 1).toNat).toInt), .int (Int32.ofInt (xs (I + 2).toNat).toInt), .int (Int32.ofInt (xs (I + 3).toNat).toInt), .int (Int32.ofInt (xs (I + 4).toNat).toInt), .int (Int32.ofInt (xs (I + 5).toNat).toInt), .ref 68] H = some (.inl (some (.int (Int32.ofInt k))), H1)) : zx 219 204 [some (.ref 0), some (.ref 3), some (.ref 32), some (.ref 68), some (.ref 69), some (.int (Int32.ofInt I)), x6, x7, x8] [] H = zx 219 241 [some (.ref 0), some (.ref 3), some (.ref 32), some (.ref 68), some (.ref 69), some (.int (Int32.ofInt I)), some (.int (Int32.ofInt k)), x7, x8] [] H1 := by
  simp (disch := omega) only [zentry, zs0, zs1, zs2, zs3, zg_lo, zg_st, zg_st2, zg_ald, zg_ast, zs_ia, zs_i0, zg_ii, zi_max, zi_min, zi_abi, zi_abf, zi_fb, zi_bf, lget, lst, lst2, lc2, Option.map_some, zso, if_true, if_false, zc1, and_true, true_and, and_self, List.length_nil, List.length_cons, Nat.zero_le, reduceIte, reduceCtorEq, false_and, and_false, Bool.false_eq_true, zca_some, zr0, zr100, Option.bind_some, zb_none, zb_some, zrc, or_true, true_or, eq_self, ne_eq, not_true_eq_false, not_false_eq_true, zrt_i, zrt_zb, zrt_b, zrt_c, zrt_l, zrt_f, zrt_r, zrt_n, zrt_v, zft_0, zft_1, zft_zb, zft_3, zft_4, zft_5, zft_7r, zft_7n, iI_t, zb_i, zb_0, zb_1, Nat.reduceAdd, Nat.reduceLeDiff, Nat.reduceEqDiff, Nat.reduceSub, Int.reduceNeg, iI_add, iI_sub, iI_mul, iI_neg, zbz, zin, if_pos, if_neg, Int.toNat_natCast, Int.natCast_zero, Int.reduceToNat, zt1, zt2, zt3, zt4, zt5, zt6, zt7, zt8, y219_0a, hl, hm, e]
set_option maxRecDepth 20000 in
theorem lB_0 {L : Nat} {xs : Nat → Int32} {H1 H2 : zH} {k I : Int} {x7 x8 : Option Value} {b : Int} (hl : zl H1 0 = L) (hm : ∀ n, n < L → zm H1 0 n = .int (Int32.ofInt (xs n).toInt)) (h32 : zk H1 32 = 6) (hI : 0 ≤ I ∧ I + 6 ≤ (L : Int) ∧ (L : Int) ≤ 3072) (e : zc 108 6 [.ref 32, .int (Int32.ofInt (xs (I + 1).toNat).toInt), .int (Int32.ofInt (xs (I + 2).toNat).toInt), .int (Int32.ofInt (xs (I + 3).toNat).toInt), .int (Int32.ofInt (xs (I + 4).toNat).toInt), .int (Int32.ofInt (xs (I + 5).toNat).toInt)] H1 = some (.inl (some (.int (Int32.ofInt b))), H2)) : zx 219 241 [some (.ref 0), some (.ref 3), some (.ref 32), some (.ref 68), some (.ref 69), some (.int (Int32.ofInt I)), some (.int (Int32.ofInt k)), x7, x8] [] H1 = zx 219 277 [some (.ref 0), some (.ref 3), some (.ref 32), some (.ref 68), some (.ref 69), some (.int (Int32.ofInt I)), some (.int (Int32.ofInt k)), some (.int (Int32.ofInt b)), x8] [] H2 := by
  simp (disch := omega) only [zentry, zs0, zs1, zs2, zs3, zg_lo, zg_st, zg_st2, zg_ald, zg_ast, zs_ia, zs_i0, zg_ii, zi_max, zi_min, zi_abi, zi_abf, zi_fb, zi_bf, lget, lst, lst2, lc2, Option.map_some, zso, if_true, if_false, zc1, and_true, true_and, and_self, List.length_nil, List.length_cons, Nat.zero_le, reduceIte, reduceCtorEq, false_and, and_false, Bool.false_eq_true, zca_some, zr0, zr100, Option.bind_some, zb_none, zb_some, zrc, or_true, true_or, eq_self, ne_eq, not_true_eq_false, not_false_eq_true, zrt_i, zrt_zb, zrt_b, zrt_c, zrt_l, zrt_f, zrt_r, zrt_n, zrt_v, zft_0, zft_1, zft_zb, zft_3, zft_4, zft_5, zft_7r, zft_7n, iI_t, zb_i, zb_0, zb_1, Nat.reduceAdd, Nat.reduceLeDiff, Nat.reduceEqDiff, Nat.reduceSub, Int.reduceNeg, iI_add, iI_sub, iI_mul, iI_neg, zbz, zin, if_pos, if_neg, Int.toNat_natCast, Int.natCast_zero, Int.reduceToNat, zt1, zt2, zt3, zt4, zt5, zt6, zt7, zt8, y219_0b, hl, hm, h32, e]
set_option maxRecDepth 20000 in
theorem lC_0 {H2 : zH} {k I : Int} {x8 : Option Value} {b v : Int} (h32 : zk H2 32 = 6) (e : zc 103 1 [.ref 32] H2 = some (.inl (some (.int (Int32.ofInt k))), H2)) (rk : iR k) (rb : iR b) (k68 : zk H2 68 = 24) (l68 : zl H2 68 = 1) (m68 : zm H2 68 0 = .long (Int64.ofInt v)) (hv : k = 0 → v = b) : zx 219 277 [some (.ref 0), some (.ref 3), some (.ref 32), some (.ref 68), some (.ref 69), some (.int (Int32.ofInt I)), some (.int (Int32.ofInt k)), some (.int (Int32.ofInt b)), x8] [] H2 = zx 219 2268 [some (.ref 0), some (.ref 3), some (.ref 32), some (.ref 68), some (.ref 69), some (.int (Int32.ofInt I)), some (.int (Int32.ofInt k)), some (.int (Int32.ofInt b)), x8] [] H2 := by
  by_cases g : k = 0
  · subst g
    have hb : v = b := hv rfl
    simp (disch := omega) only [zentry, zs0, zs1, zs2, zs3, zg_lo, zg_st, zg_st2, zg_ald, zg_ast, zs_ia, zs_i0, zg_ii, zi_max, zi_min, zi_abi, zi_abf, zi_fb, zi_bf, lget, lst, lst2, lc2, Option.map_some, zso, if_true, if_false, zc1, and_true, true_and, and_self, List.length_nil, List.length_cons, Nat.zero_le, reduceIte, reduceCtorEq, false_and, and_false, Bool.false_eq_true, zca_some, zr0, zr100, Option.bind_some, zb_none, zb_some, zrc, or_true, true_or, eq_self, ne_eq, not_true_eq_false, not_false_eq_true, zrt_i, zrt_zb, zrt_b, zrt_c, zrt_l, zrt_f, zrt_r, zrt_n, zrt_v, zft_0, zft_1, zft_zb, zft_3, zft_4, zft_5, zft_7r, zft_7n, iI_t, zb_i, zb_0, zb_1, Nat.reduceAdd, Nat.reduceLeDiff, Nat.reduceEqDiff, Nat.reduceSub, Int.reduceNeg, iI_add, iI_sub, iI_mul, iI_neg, zbz, zin, if_pos, if_neg, Int.toNat_natCast, Int.natCast_zero, Int.reduceToNat, zt1, zt2, zt3, zt4, zt5, zt6, zt7, zt8, y219_0c, h32, e, k68, l68, m68, hb, zl_ii, lw_l1]
  · simp (disch := omega) only [zentry, zs0, zs1, zs2, zs3, zg_lo, zg_st, zg_st2, zg_ald, zg_ast, zs_ia, zs_i0, zg_ii, zi_max, zi_min, zi_abi, zi_abf, zi_fb, zi_bf, lget, lst, lst2, lc2, Option.map_some, zso, if_true, if_false, zc1, and_true, true_and, and_self, List.length_nil, List.length_cons, Nat.zero_le, reduceIte, reduceCtorEq, false_and, and_false, Bool.false_eq_true, zca_some, zr0, zr100, Option.bind_some, zb_none, zb_some, zrc, or_true, true_or, eq_self, ne_eq, not_true_eq_false, not_false_eq_true, zrt_i, zrt_zb, zrt_b, zrt_c, zrt_l, zrt_f, zrt_r, zrt_n, zrt_v, zft_0, zft_1, zft_zb, zft_3, zft_4, zft_5, zft_7r, zft_7n, iI_t, zb_i, zb_0, zb_1, Nat.reduceAdd, Nat.reduceLeDiff, Nat.reduceEqDiff, Nat.reduceSub, Int.reduceNeg, iI_add, iI_sub, iI_mul, iI_neg, zbz, zin, if_pos, if_neg, Int.toNat_natCast, Int.natCast_zero, Int.reduceToNat, zt1, zt2, zt3, zt4, zt5, zt6, zt7, zt8, y219_0c, h32, e, g]
set_option maxRecDepth 4000 in
theorem y219_1a :
  (∀ (ls : zL) (st : zS) (h : zH), zx 219 308 ls st h = zgo 219 (zpure (.aload_n 1) 309 0 [] ls st h)) ∧
  (∀ (ls : zL) (st : zS) (h : zH), zx 219 309 ls st h = zgo 219 (zpure (.aload_n 0) 310 0 [] ls st h)) ∧
  (∀ (ls : zL) (st : zS) (h : zH), zx 219 310 ls st h = zgo 219 (zpure (.iload 5) 312 0 [] ls st h)) ∧
  (∀ (ls : zL) (st : zS) (h : zH), zx 219 312 ls st h = zgo 219 (zpure (.iconst 1) 313 0 [] ls st h)) ∧
  (∀ (ls : zL) (st : zS) (h : zH), zx 219 313 ls st h = zgo 219 (zpure .iadd 314 0 [] ls st h)) ∧
  (∀ (ls : zL) (st : zS) (h : zH), zx 219 314 ls st h = zgo 219 (zpure .iaload 315 0 [] ls st h)) ∧
  (∀ (ls : zL) (st : zS) (h : zH), zx 219 315 ls st h = zgo 219 (zpure (.aload_n 0) 316 0 [] ls st h)) ∧
  (∀ (ls : zL) (st : zS) (h : zH), zx 219 316 ls st h = zgo 219 (zpure (.iload 5) 318 0 [] ls st h)) ∧
  (∀ (ls : zL) (st : zS) (h : zH), zx 219 318 ls st h = zgo 219 (zpure (.iconst 2) 319 0 [] ls st h)) ∧
  (∀ (ls : zL) (st : zS) (h : zH), zx 219 319 ls st h = zgo 219 (zpure .iadd 320 0 [] ls st h)) ∧
  (∀ (ls : zL) (st : zS) (h : zH), zx 219 320 ls st h = zgo 219 (zpure .iaload 321 0 [] ls st h)) ∧
  (∀ (ls : zL) (st : zS) (h : zH), zx 219 321 ls st h = zgo 219 (zpure (.aload_n 0) 322 0 [] ls st h)) ∧
  (∀ (ls : zL) (st : zS) (h : zH), zx 219 322 ls st h = zgo 219 (zpure (.iload 5) 324 0 [] ls st h)) ∧
  (∀ (ls : zL) (st : zS) (h : zH), zx 219 324 ls st h = zgo 219 (zpure (.iconst 3) 325 0 [] ls st h)) ∧
  (∀ (ls : zL) (st : zS) (h : zH), zx 219 325 ls st h = zgo 219 (zpure .iadd 326 0 [] ls st h)) ∧
  (∀ (ls : zL) (st : zS) (h : zH), zx 219 326 ls st h = zgo 219 (zpure .iaload 327 0 [] ls st h)) ∧
  (∀ (ls : zL) (st : zS) (h : zH), zx 219 327 ls st h = zgo 219 (zpure (.aload_n 0) 328 0 [] ls st h)) ∧
  (∀ (ls : zL) (st : zS) (h : zH), zx 219 328 ls st h = zgo 219 (zpure (.iload 5) 330 0 [] ls st h)) ∧
  (∀ (ls : zL) (st : zS) (h : zH), zx 219 330 ls st h = zgo 219 (zpure (.iconst 4) 331 0 [] ls st h)) ∧
  (∀ (ls : zL) (st : zS) (h : zH), zx 219 331 ls st h = zgo 219 (zpure .iadd 332 0 [] ls st h)) ∧
  (∀ (ls : zL) (st : zS) (h : zH), zx 219 332 ls st h = zgo 219 (zpure .iaload 333 0 [] ls st h)) ∧
  (∀ (ls : zL) (st : zS) (h : zH), zx 219 333 ls st h = zgo 219 (zpure (.aload_n 3) 334 0 [] ls st h)) ∧
  (∀ (ls : zL) (st : zS) (h : zH), zx 219 334 ls st h = zca 219 334 337 ls 189 7 0 (ztake 6 st) h) ∧
  (∀ (ls : zL) (st : zS) (h : zH), zx 219 337 ls st h = zgo 219 (zpure (.istore 6) 339 0 [] ls st h)) :=
  ⟨zx_0 rfl, zx_0 rfl, zx_0 rfl, zx_0 rfl, zx_0 rfl, zx_0 rfl, zx_0 rfl, zx_0 rfl, zx_0 rfl, zx_0 rfl, zx_0 rfl, zx_0 rfl, zx_0 rfl, zx_0 rfl, zx_0 rfl, zx_0 rfl, zx_0 rfl, zx_0 rfl, zx_0 rfl, zx_0 rfl, zx_0 rfl, zx_0 rfl, zx_2c rfl, zx_0 rfl⟩
set_option maxRecDepth 4000 in
theorem y219_1b :
  (∀ (ls : zL) (st : zS) (h : zH), zx 219 339 ls st h = zgo 219 (zpure (.aload_n 2) 340 0 [] ls st h)) ∧
  (∀ (ls : zL) (st : zS) (h : zH), zx 219 340 ls st h = zgo 219 (zpure (.aload_n 0) 341 0 [] ls st h)) ∧
  (∀ (ls : zL) (st : zS) (h : zH), zx 219 341 ls st h = zgo 219 (zpure (.iload 5) 343 0 [] ls st h)) ∧
  (∀ (ls : zL) (st : zS) (h : zH), zx 219 343 ls st h = zgo 219 (zpure (.iconst 1) 344 0 [] ls st h)) ∧
  (∀ (ls : zL) (st : zS) (h : zH), zx 219 344 ls st h = zgo 219 (zpure .iadd 345 0 [] ls st h)) ∧
  (∀ (ls : zL) (st : zS) (h : zH), zx 219 345 ls st h = zgo 219 (zpure .iaload 346 0 [] ls st h)) ∧
  (∀ (ls : zL) (st : zS) (h : zH), zx 219 346 ls st h = zgo 219 (zpure (.aload_n 0) 347 0 [] ls st h)) ∧
  (∀ (ls : zL) (st : zS) (h : zH), zx 219 347 ls st h = zgo 219 (zpure (.iload 5) 349 0 [] ls st h)) ∧
  (∀ (ls : zL) (st : zS) (h : zH), zx 219 349 ls st h = zgo 219 (zpure (.iconst 2) 350 0 [] ls st h)) ∧
  (∀ (ls : zL) (st : zS) (h : zH), zx 219 350 ls st h = zgo 219 (zpure .iadd 351 0 [] ls st h)) ∧
  (∀ (ls : zL) (st : zS) (h : zH), zx 219 351 ls st h = zgo 219 (zpure .iaload 352 0 [] ls st h)) ∧
  (∀ (ls : zL) (st : zS) (h : zH), zx 219 352 ls st h = zgo 219 (zpure (.aload_n 0) 353 0 [] ls st h)) ∧
  (∀ (ls : zL) (st : zS) (h : zH), zx 219 353 ls st h = zgo 219 (zpure (.iload 5) 355 0 [] ls st h)) ∧
  (∀ (ls : zL) (st : zS) (h : zH), zx 219 355 ls st h = zgo 219 (zpure (.iconst 3) 356 0 [] ls st h)) ∧
  (∀ (ls : zL) (st : zS) (h : zH), zx 219 356 ls st h = zgo 219 (zpure .iadd 357 0 [] ls st h)) ∧
  (∀ (ls : zL) (st : zS) (h : zH), zx 219 357 ls st h = zgo 219 (zpure .iaload 358 0 [] ls st h)) ∧
  (∀ (ls : zL) (st : zS) (h : zH), zx 219 358 ls st h = zgo 219 (zpure (.aload_n 0) 359 0 [] ls st h)) ∧
  (∀ (ls : zL) (st : zS) (h : zH), zx 219 359 ls st h = zgo 219 (zpure (.iload 5) 361 0 [] ls st h)) ∧
  (∀ (ls : zL) (st : zS) (h : zH), zx 219 361 ls st h = zgo 219 (zpure (.iconst 4) 362 0 [] ls st h)) ∧
  (∀ (ls : zL) (st : zS) (h : zH), zx 219 362 ls st h = zgo 219 (zpure .iadd 363 0 [] ls st h)) ∧
  (∀ (ls : zL) (st : zS) (h : zH), zx 219 363 ls st h = zgo 219 (zpure .iaload 364 0 [] ls st h)) ∧
  (∀ (ls : zL) (st : zS) (h : zH), zx 219 364 ls st h = zca 219 364 367 ls 109 5 7 (ztake 5 st) h) ∧
  (∀ (ls : zL) (st : zS) (h : zH), zx 219 367 ls st h = zgo 219 (zpure (.istore 7) 369 0 [] ls st h)) :=
  ⟨zx_0 rfl, zx_0 rfl, zx_0 rfl, zx_0 rfl, zx_0 rfl, zx_0 rfl, zx_0 rfl, zx_0 rfl, zx_0 rfl, zx_0 rfl, zx_0 rfl, zx_0 rfl, zx_0 rfl, zx_0 rfl, zx_0 rfl, zx_0 rfl, zx_0 rfl, zx_0 rfl, zx_0 rfl, zx_0 rfl, zx_0 rfl, zx_2c rfl, zx_0 rfl⟩
set_option maxRecDepth 4000 in
theorem y219_1c :
  (∀ (ls : zL) (st : zS) (h : zH), zx 219 369 ls st h = zgo 219 (zpure (.aload_n 2) 370 0 [] ls st h)) ∧
  (∀ (ls : zL) (st : zS) (h : zH), zx 219 370 ls st h = zca 219 370 373 ls 103 1 7 (ztake 1 st) h) ∧
  (∀ (ls : zL) (st : zS) (h : zH), zx 219 373 ls st h = zgo 219 (zpure (.iload 6) 375 0 [] ls st h)) ∧
  (∀ (ls : zL) (st : zS) (h : zH), zx 219 375 ls st h = zgo 219 (zpure (.if_icmp .eq 5) 378 380 [] ls st h)) ∧
  (∀ (ls : zL) (st : zS) (h : zH), zx 219 378 ls st h = zgo 219 (zpure (.iconst 0) 379 0 [] ls st h)) ∧
  (∀ (ls : zL) (st : zS) (h : zH), zx 219 379 ls st h = zret 1 st h) ∧
  (∀ (ls : zL) (st : zS) (h : zH), zx 219 380 ls st h = zgo 219 (zpure (.iload 6) 382 0 [] ls st h)) ∧
  (∀ (ls : zL) (st : zS) (h : zH), zx 219 382 ls st h = zgo 219 (zpure (.ifCond .ne 15) 385 397 [] ls st h)) ∧
  (∀ (ls : zL) (st : zS) (h : zH), zx 219 385 ls st h = zgo 219 (zpure (.aload_n 3) 386 0 [] ls st h)) ∧
  (∀ (ls : zL) (st : zS) (h : zH), zx 219 386 ls st h = zgo 219 (zpure (.iconst 0) 387 0 [] ls st h)) ∧
  (∀ (ls : zL) (st : zS) (h : zH), zx 219 387 ls st h = zgo 219 (zpure .laload 388 0 [] ls st h)) ∧
  (∀ (ls : zL) (st : zS) (h : zH), zx 219 388 ls st h = zgo 219 (zpure (.iload 7) 390 0 [] ls st h)) ∧
  (∀ (ls : zL) (st : zS) (h : zH), zx 219 390 ls st h = zgo 219 (zpure .i2l 391 0 [] ls st h)) ∧
  (∀ (ls : zL) (st : zS) (h : zH), zx 219 391 ls st h = zgo 219 (zpure .lcmp 392 0 [] ls st h)) ∧
  (∀ (ls : zL) (st : zS) (h : zH), zx 219 392 ls st h = zgo 219 (zpure (.ifCond .eq 5) 395 397 [] ls st h)) ∧
  (∀ (ls : zL) (st : zS) (h : zH), zx 219 395 ls st h = zgo 219 (zpure (.iconst 0) 396 0 [] ls st h)) ∧
  (∀ (ls : zL) (st : zS) (h : zH), zx 219 396 ls st h = zret 1 st h) ∧
  (∀ (ls : zL) (st : zS) (h : zH), zx 219 397 ls st h = zgo 219 (zpure (.goto 1871) 400 2268 [] ls st h)) :=
  ⟨zx_0 rfl, zx_2c rfl, zx_0 rfl, zx_0 rfl, zx_0 rfl, zx_1 rfl, zx_0 rfl, zx_0 rfl, zx_0 rfl, zx_0 rfl, zx_0 rfl, zx_0 rfl, zx_0 rfl, zx_0 rfl, zx_0 rfl, zx_0 rfl, zx_1 rfl, zx_0 rfl⟩
set_option maxRecDepth 20000 in
theorem lA_1 {L : Nat} {xs : Nat → Int32} {H H1 : zH} {k I : Int} {x6 x7 x8 : Option Value} (hl : zl H 0 = L) (hm : ∀ n, n < L → zm H 0 n = .int (Int32.ofInt (xs n).toInt)) (hI : 0 ≤ I ∧ I + 6 ≤ (L : Int) ∧ (L : Int) ≤ 3072) (e : zc 189 7 [.ref 3, .int (Int32.ofInt (xs (I + 1).toNat).toInt), .int (Int32.ofInt (xs (I + 2).toNat).toInt), .int (Int32.ofInt (xs (I + 3).toNat).toInt), .int (Int32.ofInt (xs (I + 4).toNat).toInt), .ref 68] H = some (.inl (some (.int (Int32.ofInt k))), H1)) : zx 219 308 [some (.ref 0), some (.ref 3), some (.ref 32), some (.ref 68), some (.ref 69), some (.int (Int32.ofInt I)), x6, x7, x8] [] H = zx 219 339 [some (.ref 0), some (.ref 3), some (.ref 32), some (.ref 68), some (.ref 69), some (.int (Int32.ofInt I)), some (.int (Int32.ofInt k)), x7, x8] [] H1 := by
  simp (disch := omega) only [zentry, zs0, zs1, zs2, zs3, zg_lo, zg_st, zg_st2, zg_ald, zg_ast, zs_ia, zs_i0, zg_ii, zi_max, zi_min, zi_abi, zi_abf, zi_fb, zi_bf, lget, lst, lst2, lc2, Option.map_some, zso, if_true, if_false, zc1, and_true, true_and, and_self, List.length_nil, List.length_cons, Nat.zero_le, reduceIte, reduceCtorEq, false_and, and_false, Bool.false_eq_true, zca_some, zr0, zr100, Option.bind_some, zb_none, zb_some, zrc, or_true, true_or, eq_self, ne_eq, not_true_eq_false, not_false_eq_true, zrt_i, zrt_zb, zrt_b, zrt_c, zrt_l, zrt_f, zrt_r, zrt_n, zrt_v, zft_0, zft_1, zft_zb, zft_3, zft_4, zft_5, zft_7r, zft_7n, iI_t, zb_i, zb_0, zb_1, Nat.reduceAdd, Nat.reduceLeDiff, Nat.reduceEqDiff, Nat.reduceSub, Int.reduceNeg, iI_add, iI_sub, iI_mul, iI_neg, zbz, zin, if_pos, if_neg, Int.toNat_natCast, Int.natCast_zero, Int.reduceToNat, zt1, zt2, zt3, zt4, zt5, zt6, zt7, zt8, y219_1a, hl, hm, e]
set_option maxRecDepth 20000 in
theorem lB_1 {L : Nat} {xs : Nat → Int32} {H1 H2 : zH} {k I : Int} {x7 x8 : Option Value} {b : Int} (hl : zl H1 0 = L) (hm : ∀ n, n < L → zm H1 0 n = .int (Int32.ofInt (xs n).toInt)) (h32 : zk H1 32 = 6) (hI : 0 ≤ I ∧ I + 6 ≤ (L : Int) ∧ (L : Int) ≤ 3072) (e : zc 109 5 [.ref 32, .int (Int32.ofInt (xs (I + 1).toNat).toInt), .int (Int32.ofInt (xs (I + 2).toNat).toInt), .int (Int32.ofInt (xs (I + 3).toNat).toInt), .int (Int32.ofInt (xs (I + 4).toNat).toInt)] H1 = some (.inl (some (.int (Int32.ofInt b))), H2)) : zx 219 339 [some (.ref 0), some (.ref 3), some (.ref 32), some (.ref 68), some (.ref 69), some (.int (Int32.ofInt I)), some (.int (Int32.ofInt k)), x7, x8] [] H1 = zx 219 369 [some (.ref 0), some (.ref 3), some (.ref 32), some (.ref 68), some (.ref 69), some (.int (Int32.ofInt I)), some (.int (Int32.ofInt k)), some (.int (Int32.ofInt b)), x8] [] H2 := by
  simp (disch := omega) only [zentry, zs0, zs1, zs2, zs3, zg_lo, zg_st, zg_st2, zg_ald, zg_ast, zs_ia, zs_i0, zg_ii, zi_max, zi_min, zi_abi, zi_abf, zi_fb, zi_bf, lget, lst, lst2, lc2, Option.map_some, zso, if_true, if_false, zc1, and_true, true_and, and_self, List.length_nil, List.length_cons, Nat.zero_le, reduceIte, reduceCtorEq, false_and, and_false, Bool.false_eq_true, zca_some, zr0, zr100, Option.bind_some, zb_none, zb_some, zrc, or_true, true_or, eq_self, ne_eq, not_true_eq_false, not_false_eq_true, zrt_i, zrt_zb, zrt_b, zrt_c, zrt_l, zrt_f, zrt_r, zrt_n, zrt_v, zft_0, zft_1, zft_zb, zft_3, zft_4, zft_5, zft_7r, zft_7n, iI_t, zb_i, zb_0, zb_1, Nat.reduceAdd, Nat.reduceLeDiff, Nat.reduceEqDiff, Nat.reduceSub, Int.reduceNeg, iI_add, iI_sub, iI_mul, iI_neg, zbz, zin, if_pos, if_neg, Int.toNat_natCast, Int.natCast_zero, Int.reduceToNat, zt1, zt2, zt3, zt4, zt5, zt6, zt7, zt8, y219_1b, hl, hm, h32, e]
set_option maxRecDepth 20000 in
theorem lC_1 {H2 : zH} {k I : Int} {x8 : Option Value} {b v : Int} (h32 : zk H2 32 = 6) (e : zc 103 1 [.ref 32] H2 = some (.inl (some (.int (Int32.ofInt k))), H2)) (rk : iR k) (rb : iR b) (k68 : zk H2 68 = 24) (l68 : zl H2 68 = 1) (m68 : zm H2 68 0 = .long (Int64.ofInt v)) (hv : k = 0 → v = b) : zx 219 369 [some (.ref 0), some (.ref 3), some (.ref 32), some (.ref 68), some (.ref 69), some (.int (Int32.ofInt I)), some (.int (Int32.ofInt k)), some (.int (Int32.ofInt b)), x8] [] H2 = zx 219 2268 [some (.ref 0), some (.ref 3), some (.ref 32), some (.ref 68), some (.ref 69), some (.int (Int32.ofInt I)), some (.int (Int32.ofInt k)), some (.int (Int32.ofInt b)), x8] [] H2 := by
  by_cases g : k = 0
  · subst g
    have hb : v = b := hv rfl
    simp (disch := omega) only [zentry, zs0, zs1, zs2, zs3, zg_lo, zg_st, zg_st2, zg_ald, zg_ast, zs_ia, zs_i0, zg_ii, zi_max, zi_min, zi_abi, zi_abf, zi_fb, zi_bf, lget, lst, lst2, lc2, Option.map_some, zso, if_true, if_false, zc1, and_true, true_and, and_self, List.length_nil, List.length_cons, Nat.zero_le, reduceIte, reduceCtorEq, false_and, and_false, Bool.false_eq_true, zca_some, zr0, zr100, Option.bind_some, zb_none, zb_some, zrc, or_true, true_or, eq_self, ne_eq, not_true_eq_false, not_false_eq_true, zrt_i, zrt_zb, zrt_b, zrt_c, zrt_l, zrt_f, zrt_r, zrt_n, zrt_v, zft_0, zft_1, zft_zb, zft_3, zft_4, zft_5, zft_7r, zft_7n, iI_t, zb_i, zb_0, zb_1, Nat.reduceAdd, Nat.reduceLeDiff, Nat.reduceEqDiff, Nat.reduceSub, Int.reduceNeg, iI_add, iI_sub, iI_mul, iI_neg, zbz, zin, if_pos, if_neg, Int.toNat_natCast, Int.natCast_zero, Int.reduceToNat, zt1, zt2, zt3, zt4, zt5, zt6, zt7, zt8, y219_1c, h32, e, k68, l68, m68, hb, zl_ii, lw_l1]
  · simp (disch := omega) only [zentry, zs0, zs1, zs2, zs3, zg_lo, zg_st, zg_st2, zg_ald, zg_ast, zs_ia, zs_i0, zg_ii, zi_max, zi_min, zi_abi, zi_abf, zi_fb, zi_bf, lget, lst, lst2, lc2, Option.map_some, zso, if_true, if_false, zc1, and_true, true_and, and_self, List.length_nil, List.length_cons, Nat.zero_le, reduceIte, reduceCtorEq, false_and, and_false, Bool.false_eq_true, zca_some, zr0, zr100, Option.bind_some, zb_none, zb_some, zrc, or_true, true_or, eq_self, ne_eq, not_true_eq_false, not_false_eq_true, zrt_i, zrt_zb, zrt_b, zrt_c, zrt_l, zrt_f, zrt_r, zrt_n, zrt_v, zft_0, zft_1, zft_zb, zft_3, zft_4, zft_5, zft_7r, zft_7n, iI_t, zb_i, zb_0, zb_1, Nat.reduceAdd, Nat.reduceLeDiff, Nat.reduceEqDiff, Nat.reduceSub, Int.reduceNeg, iI_add, iI_sub, iI_mul, iI_neg, zbz, zin, if_pos, if_neg, Int.toNat_natCast, Int.natCast_zero, Int.reduceToNat, zt1, zt2, zt3, zt4, zt5, zt6, zt7, zt8, y219_1c, h32, e, g]
set_option maxRecDepth 4000 in
theorem y219_2a :
  (∀ (ls : zL) (st : zS) (h : zH), zx 219 400 ls st h = zgo 219 (zpure (.aload_n 1) 401 0 [] ls st h)) ∧
  (∀ (ls : zL) (st : zS) (h : zH), zx 219 401 ls st h = zgo 219 (zpure (.aload_n 0) 402 0 [] ls st h)) ∧
  (∀ (ls : zL) (st : zS) (h : zH), zx 219 402 ls st h = zgo 219 (zpure (.iload 5) 404 0 [] ls st h)) ∧
  (∀ (ls : zL) (st : zS) (h : zH), zx 219 404 ls st h = zgo 219 (zpure (.iconst 1) 405 0 [] ls st h)) ∧
  (∀ (ls : zL) (st : zS) (h : zH), zx 219 405 ls st h = zgo 219 (zpure .iadd 406 0 [] ls st h)) ∧
  (∀ (ls : zL) (st : zS) (h : zH), zx 219 406 ls st h = zgo 219 (zpure .iaload 407 0 [] ls st h)) ∧
  (∀ (ls : zL) (st : zS) (h : zH), zx 219 407 ls st h = zgo 219 (zpure (.aload_n 3) 408 0 [] ls st h)) ∧
  (∀ (ls : zL) (st : zS) (h : zH), zx 219 408 ls st h = zca 219 408 411 ls 190 4 0 (ztake 3 st) h) ∧
  (∀ (ls : zL) (st : zS) (h : zH), zx 219 411 ls st h = zgo 219 (zpure (.istore 6) 413 0 [] ls st h)) :=
  ⟨zx_0 rfl, zx_0 rfl, zx_0 rfl, zx_0 rfl, zx_0 rfl, zx_0 rfl, zx_0 rfl, zx_2c rfl, zx_0 rfl⟩
set_option maxRecDepth 4000 in
theorem y219_2b :
  (∀ (ls : zL) (st : zS) (h : zH), zx 219 413 ls st h = zgo 219 (zpure (.aload_n 2) 414 0 [] ls st h)) ∧
  (∀ (ls : zL) (st : zS) (h : zH), zx 219 414 ls st h = zgo 219 (zpure (.aload_n 0) 415 0 [] ls st h)) ∧
  (∀ (ls : zL) (st : zS) (h : zH), zx 219 415 ls st h = zgo 219 (zpure (.iload 5) 417 0 [] ls st h)) ∧
  (∀ (ls : zL) (st : zS) (h : zH), zx 219 417 ls st h = zgo 219 (zpure (.iconst 1) 418 0 [] ls st h)) ∧
  (∀ (ls : zL) (st : zS) (h : zH), zx 219 418 ls st h = zgo 219 (zpure .iadd 419 0 [] ls st h)) ∧
  (∀ (ls : zL) (st : zS) (h : zH), zx 219 419 ls st h = zgo 219 (zpure .iaload 420 0 [] ls st h)) ∧
  (∀ (ls : zL) (st : zS) (h : zH), zx 219 420 ls st h = zca 219 420 423 ls 111 2 7 (ztake 2 st) h) ∧
  (∀ (ls : zL) (st : zS) (h : zH), zx 219 423 ls st h = zgo 219 (zpure (.istore 7) 425 0 [] ls st h)) :=
  ⟨zx_0 rfl, zx_0 rfl, zx_0 rfl, zx_0 rfl, zx_0 rfl, zx_0 rfl, zx_2c rfl, zx_0 rfl⟩
set_option maxRecDepth 4000 in
theorem y219_2c :
  (∀ (ls : zL) (st : zS) (h : zH), zx 219 425 ls st h = zgo 219 (zpure (.aload_n 2) 426 0 [] ls st h)) ∧
  (∀ (ls : zL) (st : zS) (h : zH), zx 219 426 ls st h = zca 219 426 429 ls 103 1 7 (ztake 1 st) h) ∧
  (∀ (ls : zL) (st : zS) (h : zH), zx 219 429 ls st h = zgo 219 (zpure (.iload 6) 431 0 [] ls st h)) ∧
  (∀ (ls : zL) (st : zS) (h : zH), zx 219 431 ls st h = zgo 219 (zpure (.if_icmp .eq 5) 434 436 [] ls st h)) ∧
  (∀ (ls : zL) (st : zS) (h : zH), zx 219 434 ls st h = zgo 219 (zpure (.iconst 0) 435 0 [] ls st h)) ∧
  (∀ (ls : zL) (st : zS) (h : zH), zx 219 435 ls st h = zret 1 st h) ∧
  (∀ (ls : zL) (st : zS) (h : zH), zx 219 436 ls st h = zgo 219 (zpure (.iload 6) 438 0 [] ls st h)) ∧
  (∀ (ls : zL) (st : zS) (h : zH), zx 219 438 ls st h = zgo 219 (zpure (.ifCond .ne 15) 441 453 [] ls st h)) ∧
  (∀ (ls : zL) (st : zS) (h : zH), zx 219 441 ls st h = zgo 219 (zpure (.aload_n 3) 442 0 [] ls st h)) ∧
  (∀ (ls : zL) (st : zS) (h : zH), zx 219 442 ls st h = zgo 219 (zpure (.iconst 0) 443 0 [] ls st h)) ∧
  (∀ (ls : zL) (st : zS) (h : zH), zx 219 443 ls st h = zgo 219 (zpure .laload 444 0 [] ls st h)) ∧
  (∀ (ls : zL) (st : zS) (h : zH), zx 219 444 ls st h = zgo 219 (zpure (.iload 7) 446 0 [] ls st h)) ∧
  (∀ (ls : zL) (st : zS) (h : zH), zx 219 446 ls st h = zgo 219 (zpure .i2l 447 0 [] ls st h)) ∧
  (∀ (ls : zL) (st : zS) (h : zH), zx 219 447 ls st h = zgo 219 (zpure .lcmp 448 0 [] ls st h)) ∧
  (∀ (ls : zL) (st : zS) (h : zH), zx 219 448 ls st h = zgo 219 (zpure (.ifCond .eq 5) 451 453 [] ls st h)) ∧
  (∀ (ls : zL) (st : zS) (h : zH), zx 219 451 ls st h = zgo 219 (zpure (.iconst 0) 452 0 [] ls st h)) ∧
  (∀ (ls : zL) (st : zS) (h : zH), zx 219 452 ls st h = zret 1 st h) ∧
  (∀ (ls : zL) (st : zS) (h : zH), zx 219 453 ls st h = zgo 219 (zpure (.goto 1815) 456 2268 [] ls st h)) :=
  ⟨zx_0 rfl, zx_2c rfl, zx_0 rfl, zx_0 rfl, zx_0 rfl, zx_1 rfl, zx_0 rfl, zx_0 rfl, zx_0 rfl, zx_0 rfl, zx_0 rfl, zx_0 rfl, zx_0 rfl, zx_0 rfl, zx_0 rfl, zx_0 rfl, zx_1 rfl, zx_0 rfl⟩
set_option maxRecDepth 20000 in
theorem lA_2 {L : Nat} {xs : Nat → Int32} {H H1 : zH} {k I : Int} {x6 x7 x8 : Option Value} (hl : zl H 0 = L) (hm : ∀ n, n < L → zm H 0 n = .int (Int32.ofInt (xs n).toInt)) (hI : 0 ≤ I ∧ I + 6 ≤ (L : Int) ∧ (L : Int) ≤ 3072) (e : zc 190 4 [.ref 3, .int (Int32.ofInt (xs (I + 1).toNat).toInt), .ref 68] H = some (.inl (some (.int (Int32.ofInt k))), H1)) : zx 219 400 [some (.ref 0), some (.ref 3), some (.ref 32), some (.ref 68), some (.ref 69), some (.int (Int32.ofInt I)), x6, x7, x8] [] H = zx 219 413 [some (.ref 0), some (.ref 3), some (.ref 32), some (.ref 68), some (.ref 69), some (.int (Int32.ofInt I)), some (.int (Int32.ofInt k)), x7, x8] [] H1 := by
  simp (disch := omega) only [zentry, zs0, zs1, zs2, zs3, zg_lo, zg_st, zg_st2, zg_ald, zg_ast, zs_ia, zs_i0, zg_ii, zi_max, zi_min, zi_abi, zi_abf, zi_fb, zi_bf, lget, lst, lst2, lc2, Option.map_some, zso, if_true, if_false, zc1, and_true, true_and, and_self, List.length_nil, List.length_cons, Nat.zero_le, reduceIte, reduceCtorEq, false_and, and_false, Bool.false_eq_true, zca_some, zr0, zr100, Option.bind_some, zb_none, zb_some, zrc, or_true, true_or, eq_self, ne_eq, not_true_eq_false, not_false_eq_true, zrt_i, zrt_zb, zrt_b, zrt_c, zrt_l, zrt_f, zrt_r, zrt_n, zrt_v, zft_0, zft_1, zft_zb, zft_3, zft_4, zft_5, zft_7r, zft_7n, iI_t, zb_i, zb_0, zb_1, Nat.reduceAdd, Nat.reduceLeDiff, Nat.reduceEqDiff, Nat.reduceSub, Int.reduceNeg, iI_add, iI_sub, iI_mul, iI_neg, zbz, zin, if_pos, if_neg, Int.toNat_natCast, Int.natCast_zero, Int.reduceToNat, zt1, zt2, zt3, zt4, zt5, zt6, zt7, zt8, y219_2a, hl, hm, e]
set_option maxRecDepth 20000 in
theorem lB_2 {L : Nat} {xs : Nat → Int32} {H1 H2 : zH} {k I : Int} {x7 x8 : Option Value} {b : Int} (hl : zl H1 0 = L) (hm : ∀ n, n < L → zm H1 0 n = .int (Int32.ofInt (xs n).toInt)) (h32 : zk H1 32 = 6) (hI : 0 ≤ I ∧ I + 6 ≤ (L : Int) ∧ (L : Int) ≤ 3072) (e : zc 111 2 [.ref 32, .int (Int32.ofInt (xs (I + 1).toNat).toInt)] H1 = some (.inl (some (.int (Int32.ofInt b))), H2)) : zx 219 413 [some (.ref 0), some (.ref 3), some (.ref 32), some (.ref 68), some (.ref 69), some (.int (Int32.ofInt I)), some (.int (Int32.ofInt k)), x7, x8] [] H1 = zx 219 425 [some (.ref 0), some (.ref 3), some (.ref 32), some (.ref 68), some (.ref 69), some (.int (Int32.ofInt I)), some (.int (Int32.ofInt k)), some (.int (Int32.ofInt b)), x8] [] H2 := by
  simp (disch := omega) only [zentry, zs0, zs1, zs2, zs3, zg_lo, zg_st, zg_st2, zg_ald, zg_ast, zs_ia, zs_i0, zg_ii, zi_max, zi_min, zi_abi, zi_abf, zi_fb, zi_bf, lget, lst, lst2, lc2, Option.map_some, zso, if_true, if_false, zc1, and_true, true_and, and_self, List.length_nil, List.length_cons, Nat.zero_le, reduceIte, reduceCtorEq, false_and, and_false, Bool.false_eq_true, zca_some, zr0, zr100, Option.bind_some, zb_none, zb_some, zrc, or_true, true_or, eq_self, ne_eq, not_true_eq_false, not_false_eq_true, zrt_i, zrt_zb, zrt_b, zrt_c, zrt_l, zrt_f, zrt_r, zrt_n, zrt_v, zft_0, zft_1, zft_zb, zft_3, zft_4, zft_5, zft_7r, zft_7n, iI_t, zb_i, zb_0, zb_1, Nat.reduceAdd, Nat.reduceLeDiff, Nat.reduceEqDiff, Nat.reduceSub, Int.reduceNeg, iI_add, iI_sub, iI_mul, iI_neg, zbz, zin, if_pos, if_neg, Int.toNat_natCast, Int.natCast_zero, Int.reduceToNat, zt1, zt2, zt3, zt4, zt5, zt6, zt7, zt8, y219_2b, hl, hm, h32, e]
set_option maxRecDepth 20000 in
theorem lC_2 {H2 : zH} {k I : Int} {x8 : Option Value} {b v : Int} (h32 : zk H2 32 = 6) (e : zc 103 1 [.ref 32] H2 = some (.inl (some (.int (Int32.ofInt k))), H2)) (rk : iR k) (rb : iR b) (k68 : zk H2 68 = 24) (l68 : zl H2 68 = 1) (m68 : zm H2 68 0 = .long (Int64.ofInt v)) (hv : k = 0 → v = b) : zx 219 425 [some (.ref 0), some (.ref 3), some (.ref 32), some (.ref 68), some (.ref 69), some (.int (Int32.ofInt I)), some (.int (Int32.ofInt k)), some (.int (Int32.ofInt b)), x8] [] H2 = zx 219 2268 [some (.ref 0), some (.ref 3), some (.ref 32), some (.ref 68), some (.ref 69), some (.int (Int32.ofInt I)), some (.int (Int32.ofInt k)), some (.int (Int32.ofInt b)), x8] [] H2 := by
  by_cases g : k = 0
  · subst g
    have hb : v = b := hv rfl
    simp (disch := omega) only [zentry, zs0, zs1, zs2, zs3, zg_lo, zg_st, zg_st2, zg_ald, zg_ast, zs_ia, zs_i0, zg_ii, zi_max, zi_min, zi_abi, zi_abf, zi_fb, zi_bf, lget, lst, lst2, lc2, Option.map_some, zso, if_true, if_false, zc1, and_true, true_and, and_self, List.length_nil, List.length_cons, Nat.zero_le, reduceIte, reduceCtorEq, false_and, and_false, Bool.false_eq_true, zca_some, zr0, zr100, Option.bind_some, zb_none, zb_some, zrc, or_true, true_or, eq_self, ne_eq, not_true_eq_false, not_false_eq_true, zrt_i, zrt_zb, zrt_b, zrt_c, zrt_l, zrt_f, zrt_r, zrt_n, zrt_v, zft_0, zft_1, zft_zb, zft_3, zft_4, zft_5, zft_7r, zft_7n, iI_t, zb_i, zb_0, zb_1, Nat.reduceAdd, Nat.reduceLeDiff, Nat.reduceEqDiff, Nat.reduceSub, Int.reduceNeg, iI_add, iI_sub, iI_mul, iI_neg, zbz, zin, if_pos, if_neg, Int.toNat_natCast, Int.natCast_zero, Int.reduceToNat, zt1, zt2, zt3, zt4, zt5, zt6, zt7, zt8, y219_2c, h32, e, k68, l68, m68, hb, zl_ii, lw_l1]
  · simp (disch := omega) only [zentry, zs0, zs1, zs2, zs3, zg_lo, zg_st, zg_st2, zg_ald, zg_ast, zs_ia, zs_i0, zg_ii, zi_max, zi_min, zi_abi, zi_abf, zi_fb, zi_bf, lget, lst, lst2, lc2, Option.map_some, zso, if_true, if_false, zc1, and_true, true_and, and_self, List.length_nil, List.length_cons, Nat.zero_le, reduceIte, reduceCtorEq, false_and, and_false, Bool.false_eq_true, zca_some, zr0, zr100, Option.bind_some, zb_none, zb_some, zrc, or_true, true_or, eq_self, ne_eq, not_true_eq_false, not_false_eq_true, zrt_i, zrt_zb, zrt_b, zrt_c, zrt_l, zrt_f, zrt_r, zrt_n, zrt_v, zft_0, zft_1, zft_zb, zft_3, zft_4, zft_5, zft_7r, zft_7n, iI_t, zb_i, zb_0, zb_1, Nat.reduceAdd, Nat.reduceLeDiff, Nat.reduceEqDiff, Nat.reduceSub, Int.reduceNeg, iI_add, iI_sub, iI_mul, iI_neg, zbz, zin, if_pos, if_neg, Int.toNat_natCast, Int.natCast_zero, Int.reduceToNat, zt1, zt2, zt3, zt4, zt5, zt6, zt7, zt8, y219_2c, h32, e, g]
set_option maxRecDepth 4000 in
theorem y219_3a :
  (∀ (ls : zL) (st : zS) (h : zH), zx 219 456 ls st h = zgo 219 (zpure (.aload_n 1) 457 0 [] ls st h)) ∧
  (∀ (ls : zL) (st : zS) (h : zH), zx 219 457 ls st h = zgo 219 (zpure (.aload_n 0) 458 0 [] ls st h)) ∧
  (∀ (ls : zL) (st : zS) (h : zH), zx 219 458 ls st h = zgo 219 (zpure (.iload 5) 460 0 [] ls st h)) ∧
  (∀ (ls : zL) (st : zS) (h : zH), zx 219 460 ls st h = zgo 219 (zpure (.iconst 1) 461 0 [] ls st h)) ∧
  (∀ (ls : zL) (st : zS) (h : zH), zx 219 461 ls st h = zgo 219 (zpure .iadd 462 0 [] ls st h)) ∧
  (∀ (ls : zL) (st : zS) (h : zH), zx 219 462 ls st h = zgo 219 (zpure .iaload 463 0 [] ls st h)) ∧
  (∀ (ls : zL) (st : zS) (h : zH), zx 219 463 ls st h = zgo 219 (zpure (.aload_n 0) 464 0 [] ls st h)) ∧
  (∀ (ls : zL) (st : zS) (h : zH), zx 219 464 ls st h = zgo 219 (zpure (.iload 5) 466 0 [] ls st h)) ∧
  (∀ (ls : zL) (st : zS) (h : zH), zx 219 466 ls st h = zgo 219 (zpure (.iconst 2) 467 0 [] ls st h)) ∧
  (∀ (ls : zL) (st : zS) (h : zH), zx 219 467 ls st h = zgo 219 (zpure .iadd 468 0 [] ls st h)) ∧
  (∀ (ls : zL) (st : zS) (h : zH), zx 219 468 ls st h = zgo 219 (zpure .iaload 469 0 [] ls st h)) ∧
  (∀ (ls : zL) (st : zS) (h : zH), zx 219 469 ls st h = zgo 219 (zpure (.aload_n 3) 470 0 [] ls st h)) ∧
  (∀ (ls : zL) (st : zS) (h : zH), zx 219 470 ls st h = zca 219 470 473 ls 191 5 0 (ztake 4 st) h) ∧
  (∀ (ls : zL) (st : zS) (h : zH), zx 219 473 ls st h = zgo 219 (zpure (.istore 6) 475 0 [] ls st h)) :=
  ⟨zx_0 rfl, zx_0 rfl, zx_0 rfl, zx_0 rfl, zx_0 rfl, zx_0 rfl, zx_0 rfl, zx_0 rfl, zx_0 rfl, zx_0 rfl, zx_0 rfl, zx_0 rfl, zx_2c rfl, zx_0 rfl⟩
set_option maxRecDepth 4000 in
theorem y219_3b :
  (∀ (ls : zL) (st : zS) (h : zH), zx 219 475 ls st h = zgo 219 (zpure (.aload_n 2) 476 0 [] ls st h)) ∧
  (∀ (ls : zL) (st : zS) (h : zH), zx 219 476 ls st h = zgo 219 (zpure (.aload_n 0) 477 0 [] ls st h)) ∧
  (∀ (ls : zL) (st : zS) (h : zH), zx 219 477 ls st h = zgo 219 (zpure (.iload 5) 479 0 [] ls st h)) ∧
  (∀ (ls : zL) (st : zS) (h : zH), zx 219 479 ls st h = zgo 219 (zpure (.iconst 1) 480 0 [] ls st h)) ∧
  (∀ (ls : zL) (st : zS) (h : zH), zx 219 480 ls st h = zgo 219 (zpure .iadd 481 0 [] ls st h)) ∧
  (∀ (ls : zL) (st : zS) (h : zH), zx 219 481 ls st h = zgo 219 (zpure .iaload 482 0 [] ls st h)) ∧
  (∀ (ls : zL) (st : zS) (h : zH), zx 219 482 ls st h = zgo 219 (zpure (.aload_n 0) 483 0 [] ls st h)) ∧
  (∀ (ls : zL) (st : zS) (h : zH), zx 219 483 ls st h = zgo 219 (zpure (.iload 5) 485 0 [] ls st h)) ∧
  (∀ (ls : zL) (st : zS) (h : zH), zx 219 485 ls st h = zgo 219 (zpure (.iconst 2) 486 0 [] ls st h)) ∧
  (∀ (ls : zL) (st : zS) (h : zH), zx 219 486 ls st h = zgo 219 (zpure .iadd 487 0 [] ls st h)) ∧
  (∀ (ls : zL) (st : zS) (h : zH), zx 219 487 ls st h = zgo 219 (zpure .iaload 488 0 [] ls st h)) ∧
  (∀ (ls : zL) (st : zS) (h : zH), zx 219 488 ls st h = zca 219 488 491 ls 112 3 7 (ztake 3 st) h) ∧
  (∀ (ls : zL) (st : zS) (h : zH), zx 219 491 ls st h = zgo 219 (zpure (.istore 7) 493 0 [] ls st h)) :=
  ⟨zx_0 rfl, zx_0 rfl, zx_0 rfl, zx_0 rfl, zx_0 rfl, zx_0 rfl, zx_0 rfl, zx_0 rfl, zx_0 rfl, zx_0 rfl, zx_0 rfl, zx_2c rfl, zx_0 rfl⟩
set_option maxRecDepth 4000 in
theorem y219_3c :
  (∀ (ls : zL) (st : zS) (h : zH), zx 219 493 ls st h = zgo 219 (zpure (.aload_n 2) 494 0 [] ls st h)) ∧
  (∀ (ls : zL) (st : zS) (h : zH), zx 219 494 ls st h = zca 219 494 497 ls 103 1 7 (ztake 1 st) h) ∧
  (∀ (ls : zL) (st : zS) (h : zH), zx 219 497 ls st h = zgo 219 (zpure (.iload 6) 499 0 [] ls st h)) ∧
  (∀ (ls : zL) (st : zS) (h : zH), zx 219 499 ls st h = zgo 219 (zpure (.if_icmp .eq 5) 502 504 [] ls st h)) ∧
  (∀ (ls : zL) (st : zS) (h : zH), zx 219 502 ls st h = zgo 219 (zpure (.iconst 0) 503 0 [] ls st h)) ∧
  (∀ (ls : zL) (st : zS) (h : zH), zx 219 503 ls st h = zret 1 st h) ∧
  (∀ (ls : zL) (st : zS) (h : zH), zx 219 504 ls st h = zgo 219 (zpure (.iload 6) 506 0 [] ls st h)) ∧
  (∀ (ls : zL) (st : zS) (h : zH), zx 219 506 ls st h = zgo 219 (zpure (.ifCond .ne 15) 509 521 [] ls st h)) ∧
  (∀ (ls : zL) (st : zS) (h : zH), zx 219 509 ls st h = zgo 219 (zpure (.aload_n 3) 510 0 [] ls st h)) ∧
  (∀ (ls : zL) (st : zS) (h : zH), zx 219 510 ls st h = zgo 219 (zpure (.iconst 0) 511 0 [] ls st h)) ∧
  (∀ (ls : zL) (st : zS) (h : zH), zx 219 511 ls st h = zgo 219 (zpure .laload 512 0 [] ls st h)) ∧
  (∀ (ls : zL) (st : zS) (h : zH), zx 219 512 ls st h = zgo 219 (zpure (.iload 7) 514 0 [] ls st h)) ∧
  (∀ (ls : zL) (st : zS) (h : zH), zx 219 514 ls st h = zgo 219 (zpure .i2l 515 0 [] ls st h)) ∧
  (∀ (ls : zL) (st : zS) (h : zH), zx 219 515 ls st h = zgo 219 (zpure .lcmp 516 0 [] ls st h)) ∧
  (∀ (ls : zL) (st : zS) (h : zH), zx 219 516 ls st h = zgo 219 (zpure (.ifCond .eq 5) 519 521 [] ls st h)) ∧
  (∀ (ls : zL) (st : zS) (h : zH), zx 219 519 ls st h = zgo 219 (zpure (.iconst 0) 520 0 [] ls st h)) ∧
  (∀ (ls : zL) (st : zS) (h : zH), zx 219 520 ls st h = zret 1 st h) ∧
  (∀ (ls : zL) (st : zS) (h : zH), zx 219 521 ls st h = zgo 219 (zpure (.goto 1747) 524 2268 [] ls st h)) :=
  ⟨zx_0 rfl, zx_2c rfl, zx_0 rfl, zx_0 rfl, zx_0 rfl, zx_1 rfl, zx_0 rfl, zx_0 rfl, zx_0 rfl, zx_0 rfl, zx_0 rfl, zx_0 rfl, zx_0 rfl, zx_0 rfl, zx_0 rfl, zx_0 rfl, zx_1 rfl, zx_0 rfl⟩
set_option maxRecDepth 20000 in
theorem lA_3 {L : Nat} {xs : Nat → Int32} {H H1 : zH} {k I : Int} {x6 x7 x8 : Option Value} (hl : zl H 0 = L) (hm : ∀ n, n < L → zm H 0 n = .int (Int32.ofInt (xs n).toInt)) (hI : 0 ≤ I ∧ I + 6 ≤ (L : Int) ∧ (L : Int) ≤ 3072) (e : zc 191 5 [.ref 3, .int (Int32.ofInt (xs (I + 1).toNat).toInt), .int (Int32.ofInt (xs (I + 2).toNat).toInt), .ref 68] H = some (.inl (some (.int (Int32.ofInt k))), H1)) : zx 219 456 [some (.ref 0), some (.ref 3), some (.ref 32), some (.ref 68), some (.ref 69), some (.int (Int32.ofInt I)), x6, x7, x8] [] H = zx 219 475 [some (.ref 0), some (.ref 3), some (.ref 32), some (.ref 68), some (.ref 69), some (.int (Int32.ofInt I)), some (.int (Int32.ofInt k)), x7, x8] [] H1 := by
  simp (disch := omega) only [zentry, zs0, zs1, zs2, zs3, zg_lo, zg_st, zg_st2, zg_ald, zg_ast, zs_ia, zs_i0, zg_ii, zi_max, zi_min, zi_abi, zi_abf, zi_fb, zi_bf, lget, lst, lst2, lc2, Option.map_some, zso, if_true, if_false, zc1, and_true, true_and, and_self, List.length_nil, List.length_cons, Nat.zero_le, reduceIte, reduceCtorEq, false_and, and_false, Bool.false_eq_true, zca_some, zr0, zr100, Option.bind_some, zb_none, zb_some, zrc, or_true, true_or, eq_self, ne_eq, not_true_eq_false, not_false_eq_true, zrt_i, zrt_zb, zrt_b, zrt_c, zrt_l, zrt_f, zrt_r, zrt_n, zrt_v, zft_0, zft_1, zft_zb, zft_3, zft_4, zft_5, zft_7r, zft_7n, iI_t, zb_i, zb_0, zb_1, Nat.reduceAdd, Nat.reduceLeDiff, Nat.reduceEqDiff, Nat.reduceSub, Int.reduceNeg, iI_add, iI_sub, iI_mul, iI_neg, zbz, zin, if_pos, if_neg, Int.toNat_natCast, Int.natCast_zero, Int.reduceToNat, zt1, zt2, zt3, zt4, zt5, zt6, zt7, zt8, y219_3a, hl, hm, e]
set_option maxRecDepth 20000 in
theorem lB_3 {L : Nat} {xs : Nat → Int32} {H1 H2 : zH} {k I : Int} {x7 x8 : Option Value} {b : Int} (hl : zl H1 0 = L) (hm : ∀ n, n < L → zm H1 0 n = .int (Int32.ofInt (xs n).toInt)) (h32 : zk H1 32 = 6) (hI : 0 ≤ I ∧ I + 6 ≤ (L : Int) ∧ (L : Int) ≤ 3072) (e : zc 112 3 [.ref 32, .int (Int32.ofInt (xs (I + 1).toNat).toInt), .int (Int32.ofInt (xs (I + 2).toNat).toInt)] H1 = some (.inl (some (.int (Int32.ofInt b))), H2)) : zx 219 475 [some (.ref 0), some (.ref 3), some (.ref 32), some (.ref 68), some (.ref 69), some (.int (Int32.ofInt I)), some (.int (Int32.ofInt k)), x7, x8] [] H1 = zx 219 493 [some (.ref 0), some (.ref 3), some (.ref 32), some (.ref 68), some (.ref 69), some (.int (Int32.ofInt I)), some (.int (Int32.ofInt k)), some (.int (Int32.ofInt b)), x8] [] H2 := by
  simp (disch := omega) only [zentry, zs0, zs1, zs2, zs3, zg_lo, zg_st, zg_st2, zg_ald, zg_ast, zs_ia, zs_i0, zg_ii, zi_max, zi_min, zi_abi, zi_abf, zi_fb, zi_bf, lget, lst, lst2, lc2, Option.map_some, zso, if_true, if_false, zc1, and_true, true_and, and_self, List.length_nil, List.length_cons, Nat.zero_le, reduceIte, reduceCtorEq, false_and, and_false, Bool.false_eq_true, zca_some, zr0, zr100, Option.bind_some, zb_none, zb_some, zrc, or_true, true_or, eq_self, ne_eq, not_true_eq_false, not_false_eq_true, zrt_i, zrt_zb, zrt_b, zrt_c, zrt_l, zrt_f, zrt_r, zrt_n, zrt_v, zft_0, zft_1, zft_zb, zft_3, zft_4, zft_5, zft_7r, zft_7n, iI_t, zb_i, zb_0, zb_1, Nat.reduceAdd, Nat.reduceLeDiff, Nat.reduceEqDiff, Nat.reduceSub, Int.reduceNeg, iI_add, iI_sub, iI_mul, iI_neg, zbz, zin, if_pos, if_neg, Int.toNat_natCast, Int.natCast_zero, Int.reduceToNat, zt1, zt2, zt3, zt4, zt5, zt6, zt7, zt8, y219_3b, hl, hm, h32, e]
set_option maxRecDepth 20000 in
theorem lC_3 {H2 : zH} {k I : Int} {x8 : Option Value} {b v : Int} (h32 : zk H2 32 = 6) (e : zc 103 1 [.ref 32] H2 = some (.inl (some (.int (Int32.ofInt k))), H2)) (rk : iR k) (rb : iR b) (k68 : zk H2 68 = 24) (l68 : zl H2 68 = 1) (m68 : zm H2 68 0 = .long (Int64.ofInt v)) (hv : k = 0 → v = b) : zx 219 493 [some (.ref 0), some (.ref 3), some (.ref 32), some (.ref 68), some (.ref 69), some (.int (Int32.ofInt I)), some (.int (Int32.ofInt k)), some (.int (Int32.ofInt b)), x8] [] H2 = zx 219 2268 [some (.ref 0), some (.ref 3), some (.ref 32), some (.ref 68), some (.ref 69), some (.int (Int32.ofInt I)), some (.int (Int32.ofInt k)), some (.int (Int32.ofInt b)), x8] [] H2 := by
  by_cases g : k = 0
  · subst g
    have hb : v = b := hv rfl
    simp (disch := omega) only [zentry, zs0, zs1, zs2, zs3, zg_lo, zg_st, zg_st2, zg_ald, zg_ast, zs_ia, zs_i0, zg_ii, zi_max, zi_min, zi_abi, zi_abf, zi_fb, zi_bf, lget, lst, lst2, lc2, Option.map_some, zso, if_true, if_false, zc1, and_true, true_and, and_self, List.length_nil, List.length_cons, Nat.zero_le, reduceIte, reduceCtorEq, false_and, and_false, Bool.false_eq_true, zca_some, zr0, zr100, Option.bind_some, zb_none, zb_some, zrc, or_true, true_or, eq_self, ne_eq, not_true_eq_false, not_false_eq_true, zrt_i, zrt_zb, zrt_b, zrt_c, zrt_l, zrt_f, zrt_r, zrt_n, zrt_v, zft_0, zft_1, zft_zb, zft_3, zft_4, zft_5, zft_7r, zft_7n, iI_t, zb_i, zb_0, zb_1, Nat.reduceAdd, Nat.reduceLeDiff, Nat.reduceEqDiff, Nat.reduceSub, Int.reduceNeg, iI_add, iI_sub, iI_mul, iI_neg, zbz, zin, if_pos, if_neg, Int.toNat_natCast, Int.natCast_zero, Int.reduceToNat, zt1, zt2, zt3, zt4, zt5, zt6, zt7, zt8, y219_3c, h32, e, k68, l68, m68, hb, zl_ii, lw_l1]
  · simp (disch := omega) only [zentry, zs0, zs1, zs2, zs3, zg_lo, zg_st, zg_st2, zg_ald, zg_ast, zs_ia, zs_i0, zg_ii, zi_max, zi_min, zi_abi, zi_abf, zi_fb, zi_bf, lget, lst, lst2, lc2, Option.map_some, zso, if_true, if_false, zc1, and_true, true_and, and_self, List.length_nil, List.length_cons, Nat.zero_le, reduceIte, reduceCtorEq, false_and, and_false, Bool.false_eq_true, zca_some, zr0, zr100, Option.bind_some, zb_none, zb_some, zrc, or_true, true_or, eq_self, ne_eq, not_true_eq_false, not_false_eq_true, zrt_i, zrt_zb, zrt_b, zrt_c, zrt_l, zrt_f, zrt_r, zrt_n, zrt_v, zft_0, zft_1, zft_zb, zft_3, zft_4, zft_5, zft_7r, zft_7n, iI_t, zb_i, zb_0, zb_1, Nat.reduceAdd, Nat.reduceLeDiff, Nat.reduceEqDiff, Nat.reduceSub, Int.reduceNeg, iI_add, iI_sub, iI_mul, iI_neg, zbz, zin, if_pos, if_neg, Int.toNat_natCast, Int.natCast_zero, Int.reduceToNat, zt1, zt2, zt3, zt4, zt5, zt6, zt7, zt8, y219_3c, h32, e, g]
set_option maxRecDepth 4000 in
theorem y219_4a :
  (∀ (ls : zL) (st : zS) (h : zH), zx 219 524 ls st h = zgo 219 (zpure (.aload_n 1) 525 0 [] ls st h)) ∧
  (∀ (ls : zL) (st : zS) (h : zH), zx 219 525 ls st h = zgo 219 (zpure (.aload_n 0) 526 0 [] ls st h)) ∧
  (∀ (ls : zL) (st : zS) (h : zH), zx 219 526 ls st h = zgo 219 (zpure (.iload 5) 528 0 [] ls st h)) ∧
  (∀ (ls : zL) (st : zS) (h : zH), zx 219 528 ls st h = zgo 219 (zpure (.iconst 1) 529 0 [] ls st h)) ∧
  (∀ (ls : zL) (st : zS) (h : zH), zx 219 529 ls st h = zgo 219 (zpure .iadd 530 0 [] ls st h)) ∧
  (∀ (ls : zL) (st : zS) (h : zH), zx 219 530 ls st h = zgo 219 (zpure .iaload 531 0 [] ls st h)) ∧
  (∀ (ls : zL) (st : zS) (h : zH), zx 219 531 ls st h = zgo 219 (zpure (.aload_n 0) 532 0 [] ls st h)) ∧
  (∀ (ls : zL) (st : zS) (h : zH), zx 219 532 ls st h = zgo 219 (zpure (.iload 5) 534 0 [] ls st h)) ∧
  (∀ (ls : zL) (st : zS) (h : zH), zx 219 534 ls st h = zgo 219 (zpure (.iconst 2) 535 0 [] ls st h)) ∧
  (∀ (ls : zL) (st : zS) (h : zH), zx 219 535 ls st h = zgo 219 (zpure .iadd 536 0 [] ls st h)) ∧
  (∀ (ls : zL) (st : zS) (h : zH), zx 219 536 ls st h = zgo 219 (zpure .iaload 537 0 [] ls st h)) ∧
  (∀ (ls : zL) (st : zS) (h : zH), zx 219 537 ls st h = zgo 219 (zpure (.aload_n 0) 538 0 [] ls st h)) ∧
  (∀ (ls : zL) (st : zS) (h : zH), zx 219 538 ls st h = zgo 219 (zpure (.iload 5) 540 0 [] ls st h)) ∧
  (∀ (ls : zL) (st : zS) (h : zH), zx 219 540 ls st h = zgo 219 (zpure (.iconst 3) 541 0 [] ls st h)) ∧
  (∀ (ls : zL) (st : zS) (h : zH), zx 219 541 ls st h = zgo 219 (zpure .iadd 542 0 [] ls st h)) ∧
  (∀ (ls : zL) (st : zS) (h : zH), zx 219 542 ls st h = zgo 219 (zpure .iaload 543 0 [] ls st h)) ∧
  (∀ (ls : zL) (st : zS) (h : zH), zx 219 543 ls st h = zgo 219 (zpure .i2c 544 0 [] ls st h)) ∧
  (∀ (ls : zL) (st : zS) (h : zH), zx 219 544 ls st h = zgo 219 (zpure (.aload_n 0) 545 0 [] ls st h)) ∧
  (∀ (ls : zL) (st : zS) (h : zH), zx 219 545 ls st h = zgo 219 (zpure (.iload 5) 547 0 [] ls st h)) ∧
  (∀ (ls : zL) (st : zS) (h : zH), zx 219 547 ls st h = zgo 219 (zpure (.iconst 4) 548 0 [] ls st h)) ∧
  (∀ (ls : zL) (st : zS) (h : zH), zx 219 548 ls st h = zgo 219 (zpure .iadd 549 0 [] ls st h)) ∧
  (∀ (ls : zL) (st : zS) (h : zH), zx 219 549 ls st h = zgo 219 (zpure .iaload 550 0 [] ls st h)) ∧
  (∀ (ls : zL) (st : zS) (h : zH), zx 219 550 ls st h = zgo 219 (zpure (.aload_n 3) 551 0 [] ls st h)) ∧
  (∀ (ls : zL) (st : zS) (h : zH), zx 219 551 ls st h = zca 219 551 554 ls 192 7 0 (ztake 6 st) h) ∧
  (∀ (ls : zL) (st : zS) (h : zH), zx 219 554 ls st h = zgo 219 (zpure (.istore 6) 556 0 [] ls st h)) :=
  ⟨zx_0 rfl, zx_0 rfl, zx_0 rfl, zx_0 rfl, zx_0 rfl, zx_0 rfl, zx_0 rfl, zx_0 rfl, zx_0 rfl, zx_0 rfl, zx_0 rfl, zx_0 rfl, zx_0 rfl, zx_0 rfl, zx_0 rfl, zx_0 rfl, zx_0 rfl, zx_0 rfl, zx_0 rfl, zx_0 rfl, zx_0 rfl, zx_0 rfl, zx_0 rfl, zx_2c rfl, zx_0 rfl⟩
set_option maxRecDepth 4000 in
theorem y219_4b :
  (∀ (ls : zL) (st : zS) (h : zH), zx 219 556 ls st h = zgo 219 (zpure (.aload_n 2) 557 0 [] ls st h)) ∧
  (∀ (ls : zL) (st : zS) (h : zH), zx 219 557 ls st h = zgo 219 (zpure (.aload_n 0) 558 0 [] ls st h)) ∧
  (∀ (ls : zL) (st : zS) (h : zH), zx 219 558 ls st h = zgo 219 (zpure (.iload 5) 560 0 [] ls st h)) ∧
  (∀ (ls : zL) (st : zS) (h : zH), zx 219 560 ls st h = zgo 219 (zpure (.iconst 1) 561 0 [] ls st h)) ∧
  (∀ (ls : zL) (st : zS) (h : zH), zx 219 561 ls st h = zgo 219 (zpure .iadd 562 0 [] ls st h)) ∧
  (∀ (ls : zL) (st : zS) (h : zH), zx 219 562 ls st h = zgo 219 (zpure .iaload 563 0 [] ls st h)) ∧
  (∀ (ls : zL) (st : zS) (h : zH), zx 219 563 ls st h = zgo 219 (zpure (.aload_n 0) 564 0 [] ls st h)) ∧
  (∀ (ls : zL) (st : zS) (h : zH), zx 219 564 ls st h = zgo 219 (zpure (.iload 5) 566 0 [] ls st h)) ∧
  (∀ (ls : zL) (st : zS) (h : zH), zx 219 566 ls st h = zgo 219 (zpure (.iconst 2) 567 0 [] ls st h)) ∧
  (∀ (ls : zL) (st : zS) (h : zH), zx 219 567 ls st h = zgo 219 (zpure .iadd 568 0 [] ls st h)) ∧
  (∀ (ls : zL) (st : zS) (h : zH), zx 219 568 ls st h = zgo 219 (zpure .iaload 569 0 [] ls st h)) ∧
  (∀ (ls : zL) (st : zS) (h : zH), zx 219 569 ls st h = zgo 219 (zpure (.aload_n 0) 570 0 [] ls st h)) ∧
  (∀ (ls : zL) (st : zS) (h : zH), zx 219 570 ls st h = zgo 219 (zpure (.iload 5) 572 0 [] ls st h)) ∧
  (∀ (ls : zL) (st : zS) (h : zH), zx 219 572 ls st h = zgo 219 (zpure (.iconst 3) 573 0 [] ls st h)) ∧
  (∀ (ls : zL) (st : zS) (h : zH), zx 219 573 ls st h = zgo 219 (zpure .iadd 574 0 [] ls st h)) ∧
  (∀ (ls : zL) (st : zS) (h : zH), zx 219 574 ls st h = zgo 219 (zpure .iaload 575 0 [] ls st h)) ∧
  (∀ (ls : zL) (st : zS) (h : zH), zx 219 575 ls st h = zgo 219 (zpure .i2c 576 0 [] ls st h)) ∧
  (∀ (ls : zL) (st : zS) (h : zH), zx 219 576 ls st h = zgo 219 (zpure (.aload_n 0) 577 0 [] ls st h)) ∧
  (∀ (ls : zL) (st : zS) (h : zH), zx 219 577 ls st h = zgo 219 (zpure (.iload 5) 579 0 [] ls st h)) ∧
  (∀ (ls : zL) (st : zS) (h : zH), zx 219 579 ls st h = zgo 219 (zpure (.iconst 4) 580 0 [] ls st h)) ∧
  (∀ (ls : zL) (st : zS) (h : zH), zx 219 580 ls st h = zgo 219 (zpure .iadd 581 0 [] ls st h)) ∧
  (∀ (ls : zL) (st : zS) (h : zH), zx 219 581 ls st h = zgo 219 (zpure .iaload 582 0 [] ls st h)) ∧
  (∀ (ls : zL) (st : zS) (h : zH), zx 219 582 ls st h = zca 219 582 585 ls 115 7 7 (ztake 5 st) h) ∧
  (∀ (ls : zL) (st : zS) (h : zH), zx 219 585 ls st h = zgo 219 (zpure (.istore 7) 587 0 [] ls st h)) :=
  ⟨zx_0 rfl, zx_0 rfl, zx_0 rfl, zx_0 rfl, zx_0 rfl, zx_0 rfl, zx_0 rfl, zx_0 rfl, zx_0 rfl, zx_0 rfl, zx_0 rfl, zx_0 rfl, zx_0 rfl, zx_0 rfl, zx_0 rfl, zx_0 rfl, zx_0 rfl, zx_0 rfl, zx_0 rfl, zx_0 rfl, zx_0 rfl, zx_0 rfl, zx_2c rfl, zx_0 rfl⟩
set_option maxRecDepth 4000 in
theorem y219_4c :
  (∀ (ls : zL) (st : zS) (h : zH), zx 219 587 ls st h = zgo 219 (zpure (.aload_n 2) 588 0 [] ls st h)) ∧
  (∀ (ls : zL) (st : zS) (h : zH), zx 219 588 ls st h = zca 219 588 591 ls 103 1 7 (ztake 1 st) h) ∧
  (∀ (ls : zL) (st : zS) (h : zH), zx 219 591 ls st h = zgo 219 (zpure (.iload 6) 593 0 [] ls st h)) ∧
  (∀ (ls : zL) (st : zS) (h : zH), zx 219 593 ls st h = zgo 219 (zpure (.if_icmp .eq 5) 596 598 [] ls st h)) ∧
  (∀ (ls : zL) (st : zS) (h : zH), zx 219 596 ls st h = zgo 219 (zpure (.iconst 0) 597 0 [] ls st h)) ∧
  (∀ (ls : zL) (st : zS) (h : zH), zx 219 597 ls st h = zret 1 st h) ∧
  (∀ (ls : zL) (st : zS) (h : zH), zx 219 598 ls st h = zgo 219 (zpure (.iload 6) 600 0 [] ls st h)) ∧
  (∀ (ls : zL) (st : zS) (h : zH), zx 219 600 ls st h = zgo 219 (zpure (.ifCond .ne 15) 603 615 [] ls st h)) ∧
  (∀ (ls : zL) (st : zS) (h : zH), zx 219 603 ls st h = zgo 219 (zpure (.aload_n 3) 604 0 [] ls st h)) ∧
  (∀ (ls : zL) (st : zS) (h : zH), zx 219 604 ls st h = zgo 219 (zpure (.iconst 0) 605 0 [] ls st h)) ∧
  (∀ (ls : zL) (st : zS) (h : zH), zx 219 605 ls st h = zgo 219 (zpure .laload 606 0 [] ls st h)) ∧
  (∀ (ls : zL) (st : zS) (h : zH), zx 219 606 ls st h = zgo 219 (zpure (.iload 7) 608 0 [] ls st h)) ∧
  (∀ (ls : zL) (st : zS) (h : zH), zx 219 608 ls st h = zgo 219 (zpure .i2l 609 0 [] ls st h)) ∧
  (∀ (ls : zL) (st : zS) (h : zH), zx 219 609 ls st h = zgo 219 (zpure .lcmp 610 0 [] ls st h)) ∧
  (∀ (ls : zL) (st : zS) (h : zH), zx 219 610 ls st h = zgo 219 (zpure (.ifCond .eq 5) 613 615 [] ls st h)) ∧
  (∀ (ls : zL) (st : zS) (h : zH), zx 219 613 ls st h = zgo 219 (zpure (.iconst 0) 614 0 [] ls st h)) ∧
  (∀ (ls : zL) (st : zS) (h : zH), zx 219 614 ls st h = zret 1 st h) ∧
  (∀ (ls : zL) (st : zS) (h : zH), zx 219 615 ls st h = zgo 219 (zpure (.goto 1653) 618 2268 [] ls st h)) :=
  ⟨zx_0 rfl, zx_2c rfl, zx_0 rfl, zx_0 rfl, zx_0 rfl, zx_1 rfl, zx_0 rfl, zx_0 rfl, zx_0 rfl, zx_0 rfl, zx_0 rfl, zx_0 rfl, zx_0 rfl, zx_0 rfl, zx_0 rfl, zx_0 rfl, zx_1 rfl, zx_0 rfl⟩
set_option maxRecDepth 20000 in
theorem lA_4 {L : Nat} {xs : Nat → Int32} {H H1 : zH} {k I : Int} {x6 x7 x8 : Option Value} {md : Int} (hl : zl H 0 = L) (hm : ∀ n, n < L → zm H 0 n = .int (Int32.ofInt (xs n).toInt)) (hI : 0 ≤ I ∧ I + 6 ≤ (L : Int) ∧ (L : Int) ≤ 3072) (ec : zchar (Int32.ofInt (xs (I + 3).toNat).toInt) = Int32.ofInt md) (e : zc 192 7 [.ref 3, .int (Int32.ofInt (xs (I + 1).toNat).toInt), .int (Int32.ofInt (xs (I + 2).toNat).toInt), .int (Int32.ofInt md), .int (Int32.ofInt (xs (I + 4).toNat).toInt), .ref 68] H = some (.inl (some (.int (Int32.ofInt k))), H1)) : zx 219 524 [some (.ref 0), some (.ref 3), some (.ref 32), some (.ref 68), some (.ref 69), some (.int (Int32.ofInt I)), x6, x7, x8] [] H = zx 219 556 [some (.ref 0), some (.ref 3), some (.ref 32), some (.ref 68), some (.ref 69), some (.int (Int32.ofInt I)), some (.int (Int32.ofInt k)), x7, x8] [] H1 := by
  simp (disch := omega) only [zentry, zs0, zs1, zs2, zs3, zg_lo, zg_st, zg_st2, zg_ald, zg_ast, zs_ia, zs_i0, zg_ii, zi_max, zi_min, zi_abi, zi_abf, zi_fb, zi_bf, lget, lst, lst2, lc2, Option.map_some, zso, if_true, if_false, zc1, and_true, true_and, and_self, List.length_nil, List.length_cons, Nat.zero_le, reduceIte, reduceCtorEq, false_and, and_false, Bool.false_eq_true, zca_some, zr0, zr100, Option.bind_some, zb_none, zb_some, zrc, or_true, true_or, eq_self, ne_eq, not_true_eq_false, not_false_eq_true, zrt_i, zrt_zb, zrt_b, zrt_c, zrt_l, zrt_f, zrt_r, zrt_n, zrt_v, zft_0, zft_1, zft_zb, zft_3, zft_4, zft_5, zft_7r, zft_7n, iI_t, zb_i, zb_0, zb_1, Nat.reduceAdd, Nat.reduceLeDiff, Nat.reduceEqDiff, Nat.reduceSub, Int.reduceNeg, iI_add, iI_sub, iI_mul, iI_neg, zbz, zin, if_pos, if_neg, Int.toNat_natCast, Int.natCast_zero, Int.reduceToNat, zt1, zt2, zt3, zt4, zt5, zt6, zt7, zt8, y219_4a, hl, hm, e, ec]
set_option maxRecDepth 20000 in
theorem lB_4 {L : Nat} {xs : Nat → Int32} {H1 H2 : zH} {k I : Int} {x7 x8 : Option Value} {b : Int} {md : Int} (hl : zl H1 0 = L) (hm : ∀ n, n < L → zm H1 0 n = .int (Int32.ofInt (xs n).toInt)) (h32 : zk H1 32 = 6) (hI : 0 ≤ I ∧ I + 6 ≤ (L : Int) ∧ (L : Int) ≤ 3072) (ec : zchar (Int32.ofInt (xs (I + 3).toNat).toInt) = Int32.ofInt md) (e : zc 115 7 [.ref 32, .int (Int32.ofInt (xs (I + 1).toNat).toInt), .int (Int32.ofInt (xs (I + 2).toNat).toInt), .int (Int32.ofInt md), .int (Int32.ofInt (xs (I + 4).toNat).toInt)] H1 = some (.inl (some (.int (Int32.ofInt b))), H2)) : zx 219 556 [some (.ref 0), some (.ref 3), some (.ref 32), some (.ref 68), some (.ref 69), some (.int (Int32.ofInt I)), some (.int (Int32.ofInt k)), x7, x8] [] H1 = zx 219 587 [some (.ref 0), some (.ref 3), some (.ref 32), some (.ref 68), some (.ref 69), some (.int (Int32.ofInt I)), some (.int (Int32.ofInt k)), some (.int (Int32.ofInt b)), x8] [] H2 := by
  simp (disch := omega) only [zentry, zs0, zs1, zs2, zs3, zg_lo, zg_st, zg_st2, zg_ald, zg_ast, zs_ia, zs_i0, zg_ii, zi_max, zi_min, zi_abi, zi_abf, zi_fb, zi_bf, lget, lst, lst2, lc2, Option.map_some, zso, if_true, if_false, zc1, and_true, true_and, and_self, List.length_nil, List.length_cons, Nat.zero_le, reduceIte, reduceCtorEq, false_and, and_false, Bool.false_eq_true, zca_some, zr0, zr100, Option.bind_some, zb_none, zb_some, zrc, or_true, true_or, eq_self, ne_eq, not_true_eq_false, not_false_eq_true, zrt_i, zrt_zb, zrt_b, zrt_c, zrt_l, zrt_f, zrt_r, zrt_n, zrt_v, zft_0, zft_1, zft_zb, zft_3, zft_4, zft_5, zft_7r, zft_7n, iI_t, zb_i, zb_0, zb_1, Nat.reduceAdd, Nat.reduceLeDiff, Nat.reduceEqDiff, Nat.reduceSub, Int.reduceNeg, iI_add, iI_sub, iI_mul, iI_neg, zbz, zin, if_pos, if_neg, Int.toNat_natCast, Int.natCast_zero, Int.reduceToNat, zt1, zt2, zt3, zt4, zt5, zt6, zt7, zt8, y219_4b, hl, hm, h32, e, ec]
set_option maxRecDepth 20000 in
theorem lC_4 {H2 : zH} {k I : Int} {x8 : Option Value} {b v : Int} (h32 : zk H2 32 = 6) (e : zc 103 1 [.ref 32] H2 = some (.inl (some (.int (Int32.ofInt k))), H2)) (rk : iR k) (rb : iR b) (k68 : zk H2 68 = 24) (l68 : zl H2 68 = 1) (m68 : zm H2 68 0 = .long (Int64.ofInt v)) (hv : k = 0 → v = b) : zx 219 587 [some (.ref 0), some (.ref 3), some (.ref 32), some (.ref 68), some (.ref 69), some (.int (Int32.ofInt I)), some (.int (Int32.ofInt k)), some (.int (Int32.ofInt b)), x8] [] H2 = zx 219 2268 [some (.ref 0), some (.ref 3), some (.ref 32), some (.ref 68), some (.ref 69), some (.int (Int32.ofInt I)), some (.int (Int32.ofInt k)), some (.int (Int32.ofInt b)), x8] [] H2 := by
  by_cases g : k = 0
  · subst g
    have hb : v = b := hv rfl
    simp (disch := omega) only [zentry, zs0, zs1, zs2, zs3, zg_lo, zg_st, zg_st2, zg_ald, zg_ast, zs_ia, zs_i0, zg_ii, zi_max, zi_min, zi_abi, zi_abf, zi_fb, zi_bf, lget, lst, lst2, lc2, Option.map_some, zso, if_true, if_false, zc1, and_true, true_and, and_self, List.length_nil, List.length_cons, Nat.zero_le, reduceIte, reduceCtorEq, false_and, and_false, Bool.false_eq_true, zca_some, zr0, zr100, Option.bind_some, zb_none, zb_some, zrc, or_true, true_or, eq_self, ne_eq, not_true_eq_false, not_false_eq_true, zrt_i, zrt_zb, zrt_b, zrt_c, zrt_l, zrt_f, zrt_r, zrt_n, zrt_v, zft_0, zft_1, zft_zb, zft_3, zft_4, zft_5, zft_7r, zft_7n, iI_t, zb_i, zb_0, zb_1, Nat.reduceAdd, Nat.reduceLeDiff, Nat.reduceEqDiff, Nat.reduceSub, Int.reduceNeg, iI_add, iI_sub, iI_mul, iI_neg, zbz, zin, if_pos, if_neg, Int.toNat_natCast, Int.natCast_zero, Int.reduceToNat, zt1, zt2, zt3, zt4, zt5, zt6, zt7, zt8, y219_4c, h32, e, k68, l68, m68, hb, zl_ii, lw_l1]
  · simp (disch := omega) only [zentry, zs0, zs1, zs2, zs3, zg_lo, zg_st, zg_st2, zg_ald, zg_ast, zs_ia, zs_i0, zg_ii, zi_max, zi_min, zi_abi, zi_abf, zi_fb, zi_bf, lget, lst, lst2, lc2, Option.map_some, zso, if_true, if_false, zc1, and_true, true_and, and_self, List.length_nil, List.length_cons, Nat.zero_le, reduceIte, reduceCtorEq, false_and, and_false, Bool.false_eq_true, zca_some, zr0, zr100, Option.bind_some, zb_none, zb_some, zrc, or_true, true_or, eq_self, ne_eq, not_true_eq_false, not_false_eq_true, zrt_i, zrt_zb, zrt_b, zrt_c, zrt_l, zrt_f, zrt_r, zrt_n, zrt_v, zft_0, zft_1, zft_zb, zft_3, zft_4, zft_5, zft_7r, zft_7n, iI_t, zb_i, zb_0, zb_1, Nat.reduceAdd, Nat.reduceLeDiff, Nat.reduceEqDiff, Nat.reduceSub, Int.reduceNeg, iI_add, iI_sub, iI_mul, iI_neg, zbz, zin, if_pos, if_neg, Int.toNat_natCast, Int.natCast_zero, Int.reduceToNat, zt1, zt2, zt3, zt4, zt5, zt6, zt7, zt8, y219_4c, h32, e, g]
set_option maxRecDepth 4000 in
theorem y219_5a :
  (∀ (ls : zL) (st : zS) (h : zH), zx 219 618 ls st h = zgo 219 (zpure (.aload_n 1) 619 0 [] ls st h)) ∧
  (∀ (ls : zL) (st : zS) (h : zH), zx 219 619 ls st h = zgo 219 (zpure (.aload_n 0) 620 0 [] ls st h)) ∧
  (∀ (ls : zL) (st : zS) (h : zH), zx 219 620 ls st h = zgo 219 (zpure (.iload 5) 622 0 [] ls st h)) ∧
  (∀ (ls : zL) (st : zS) (h : zH), zx 219 622 ls st h = zgo 219 (zpure (.iconst 1) 623 0 [] ls st h)) ∧
  (∀ (ls : zL) (st : zS) (h : zH), zx 219 623 ls st h = zgo 219 (zpure .iadd 624 0 [] ls st h)) ∧
  (∀ (ls : zL) (st : zS) (h : zH), zx 219 624 ls st h = zgo 219 (zpure .iaload 625 0 [] ls st h)) ∧
  (∀ (ls : zL) (st : zS) (h : zH), zx 219 625 ls st h = zgo 219 (zpure (.aload_n 3) 626 0 [] ls st h)) ∧
  (∀ (ls : zL) (st : zS) (h : zH), zx 219 626 ls st h = zca 219 626 629 ls 193 4 0 (ztake 3 st) h) ∧
  (∀ (ls : zL) (st : zS) (h : zH), zx 219 629 ls st h = zgo 219 (zpure (.istore 6) 631 0 [] ls st h)) :=
  ⟨zx_0 rfl, zx_0 rfl, zx_0 rfl, zx_0 rfl, zx_0 rfl, zx_0 rfl, zx_0 rfl, zx_2c rfl, zx_0 rfl⟩
set_option maxRecDepth 4000 in
theorem y219_5b :
  (∀ (ls : zL) (st : zS) (h : zH), zx 219 631 ls st h = zgo 219 (zpure (.aload_n 2) 632 0 [] ls st h)) ∧
  (∀ (ls : zL) (st : zS) (h : zH), zx 219 632 ls st h = zgo 219 (zpure (.aload_n 0) 633 0 [] ls st h)) ∧
  (∀ (ls : zL) (st : zS) (h : zH), zx 219 633 ls st h = zgo 219 (zpure (.iload 5) 635 0 [] ls st h)) ∧
  (∀ (ls : zL) (st : zS) (h : zH), zx 219 635 ls st h = zgo 219 (zpure (.iconst 1) 636 0 [] ls st h)) ∧
  (∀ (ls : zL) (st : zS) (h : zH), zx 219 636 ls st h = zgo 219 (zpure .iadd 637 0 [] ls st h)) ∧
  (∀ (ls : zL) (st : zS) (h : zH), zx 219 637 ls st h = zgo 219 (zpure .iaload 638 0 [] ls st h)) ∧
  (∀ (ls : zL) (st : zS) (h : zH), zx 219 638 ls st h = zca 219 638 641 ls 116 3 7 (ztake 2 st) h) ∧
  (∀ (ls : zL) (st : zS) (h : zH), zx 219 641 ls st h = zgo 219 (zpure (.istore 7) 643 0 [] ls st h)) :=
  ⟨zx_0 rfl, zx_0 rfl, zx_0 rfl, zx_0 rfl, zx_0 rfl, zx_0 rfl, zx_2c rfl, zx_0 rfl⟩
set_option maxRecDepth 4000 in
theorem y219_5c :
  (∀ (ls : zL) (st : zS) (h : zH), zx 219 643 ls st h = zgo 219 (zpure (.aload_n 2) 644 0 [] ls st h)) ∧
  (∀ (ls : zL) (st : zS) (h : zH), zx 219 644 ls st h = zca 219 644 647 ls 103 1 7 (ztake 1 st) h) ∧
  (∀ (ls : zL) (st : zS) (h : zH), zx 219 647 ls st h = zgo 219 (zpure (.iload 6) 649 0 [] ls st h)) ∧
  (∀ (ls : zL) (st : zS) (h : zH), zx 219 649 ls st h = zgo 219 (zpure (.if_icmp .eq 5) 652 654 [] ls st h)) ∧
  (∀ (ls : zL) (st : zS) (h : zH), zx 219 652 ls st h = zgo 219 (zpure (.iconst 0) 653 0 [] ls st h)) ∧
  (∀ (ls : zL) (st : zS) (h : zH), zx 219 653 ls st h = zret 1 st h) ∧
  (∀ (ls : zL) (st : zS) (h : zH), zx 219 654 ls st h = zgo 219 (zpure (.iload 6) 656 0 [] ls st h)) ∧
  (∀ (ls : zL) (st : zS) (h : zH), zx 219 656 ls st h = zgo 219 (zpure (.ifCond .ne 15) 659 671 [] ls st h)) ∧
  (∀ (ls : zL) (st : zS) (h : zH), zx 219 659 ls st h = zgo 219 (zpure (.aload_n 3) 660 0 [] ls st h)) ∧
  (∀ (ls : zL) (st : zS) (h : zH), zx 219 660 ls st h = zgo 219 (zpure (.iconst 0) 661 0 [] ls st h)) ∧
  (∀ (ls : zL) (st : zS) (h : zH), zx 219 661 ls st h = zgo 219 (zpure .laload 662 0 [] ls st h)) ∧
  (∀ (ls : zL) (st : zS) (h : zH), zx 219 662 ls st h = zgo 219 (zpure (.iload 7) 664 0 [] ls st h)) ∧
  (∀ (ls : zL) (st : zS) (h : zH), zx 219 664 ls st h = zgo 219 (zpure .i2l 665 0 [] ls st h)) ∧
  (∀ (ls : zL) (st : zS) (h : zH), zx 219 665 ls st h = zgo 219 (zpure .lcmp 666 0 [] ls st h)) ∧
  (∀ (ls : zL) (st : zS) (h : zH), zx 219 666 ls st h = zgo 219 (zpure (.ifCond .eq 5) 669 671 [] ls st h)) ∧
  (∀ (ls : zL) (st : zS) (h : zH), zx 219 669 ls st h = zgo 219 (zpure (.iconst 0) 670 0 [] ls st h)) ∧
  (∀ (ls : zL) (st : zS) (h : zH), zx 219 670 ls st h = zret 1 st h) ∧
  (∀ (ls : zL) (st : zS) (h : zH), zx 219 671 ls st h = zgo 219 (zpure (.goto 1597) 674 2268 [] ls st h)) :=
  ⟨zx_0 rfl, zx_2c rfl, zx_0 rfl, zx_0 rfl, zx_0 rfl, zx_1 rfl, zx_0 rfl, zx_0 rfl, zx_0 rfl, zx_0 rfl, zx_0 rfl, zx_0 rfl, zx_0 rfl, zx_0 rfl, zx_0 rfl, zx_0 rfl, zx_1 rfl, zx_0 rfl⟩
set_option maxRecDepth 20000 in
theorem lA_5 {L : Nat} {xs : Nat → Int32} {H H1 : zH} {k I : Int} {x6 x7 x8 : Option Value} (hl : zl H 0 = L) (hm : ∀ n, n < L → zm H 0 n = .int (Int32.ofInt (xs n).toInt)) (hI : 0 ≤ I ∧ I + 6 ≤ (L : Int) ∧ (L : Int) ≤ 3072) (e : zc 193 4 [.ref 3, .int (Int32.ofInt (xs (I + 1).toNat).toInt), .ref 68] H = some (.inl (some (.int (Int32.ofInt k))), H1)) : zx 219 618 [some (.ref 0), some (.ref 3), some (.ref 32), some (.ref 68), some (.ref 69), some (.int (Int32.ofInt I)), x6, x7, x8] [] H = zx 219 631 [some (.ref 0), some (.ref 3), some (.ref 32), some (.ref 68), some (.ref 69), some (.int (Int32.ofInt I)), some (.int (Int32.ofInt k)), x7, x8] [] H1 := by
  simp (disch := omega) only [zentry, zs0, zs1, zs2, zs3, zg_lo, zg_st, zg_st2, zg_ald, zg_ast, zs_ia, zs_i0, zg_ii, zi_max, zi_min, zi_abi, zi_abf, zi_fb, zi_bf, lget, lst, lst2, lc2, Option.map_some, zso, if_true, if_false, zc1, and_true, true_and, and_self, List.length_nil, List.length_cons, Nat.zero_le, reduceIte, reduceCtorEq, false_and, and_false, Bool.false_eq_true, zca_some, zr0, zr100, Option.bind_some, zb_none, zb_some, zrc, or_true, true_or, eq_self, ne_eq, not_true_eq_false, not_false_eq_true, zrt_i, zrt_zb, zrt_b, zrt_c, zrt_l, zrt_f, zrt_r, zrt_n, zrt_v, zft_0, zft_1, zft_zb, zft_3, zft_4, zft_5, zft_7r, zft_7n, iI_t, zb_i, zb_0, zb_1, Nat.reduceAdd, Nat.reduceLeDiff, Nat.reduceEqDiff, Nat.reduceSub, Int.reduceNeg, iI_add, iI_sub, iI_mul, iI_neg, zbz, zin, if_pos, if_neg, Int.toNat_natCast, Int.natCast_zero, Int.reduceToNat, zt1, zt2, zt3, zt4, zt5, zt6, zt7, zt8, y219_5a, hl, hm, e]
set_option maxRecDepth 20000 in
theorem lB_5 {L : Nat} {xs : Nat → Int32} {H1 H2 : zH} {k I : Int} {x7 x8 : Option Value} {b : Int} (hl : zl H1 0 = L) (hm : ∀ n, n < L → zm H1 0 n = .int (Int32.ofInt (xs n).toInt)) (h32 : zk H1 32 = 6) (hI : 0 ≤ I ∧ I + 6 ≤ (L : Int) ∧ (L : Int) ≤ 3072) (e : zc 116 3 [.ref 32, .int (Int32.ofInt (xs (I + 1).toNat).toInt)] H1 = some (.inl (some (.int (Int32.ofInt b))), H2)) : zx 219 631 [some (.ref 0), some (.ref 3), some (.ref 32), some (.ref 68), some (.ref 69), some (.int (Int32.ofInt I)), some (.int (Int32.ofInt k)), x7, x8] [] H1 = zx 219 643 [some (.ref 0), some (.ref 3), some (.ref 32), some (.ref 68), some (.ref 69), some (.int (Int32.ofInt I)), some (.int (Int32.ofInt k)), some (.int (Int32.ofInt b)), x8] [] H2 := by
  simp (disch := omega) only [zentry, zs0, zs1, zs2, zs3, zg_lo, zg_st, zg_st2, zg_ald, zg_ast, zs_ia, zs_i0, zg_ii, zi_max, zi_min, zi_abi, zi_abf, zi_fb, zi_bf, lget, lst, lst2, lc2, Option.map_some, zso, if_true, if_false, zc1, and_true, true_and, and_self, List.length_nil, List.length_cons, Nat.zero_le, reduceIte, reduceCtorEq, false_and, and_false, Bool.false_eq_true, zca_some, zr0, zr100, Option.bind_some, zb_none, zb_some, zrc, or_true, true_or, eq_self, ne_eq, not_true_eq_false, not_false_eq_true, zrt_i, zrt_zb, zrt_b, zrt_c, zrt_l, zrt_f, zrt_r, zrt_n, zrt_v, zft_0, zft_1, zft_zb, zft_3, zft_4, zft_5, zft_7r, zft_7n, iI_t, zb_i, zb_0, zb_1, Nat.reduceAdd, Nat.reduceLeDiff, Nat.reduceEqDiff, Nat.reduceSub, Int.reduceNeg, iI_add, iI_sub, iI_mul, iI_neg, zbz, zin, if_pos, if_neg, Int.toNat_natCast, Int.natCast_zero, Int.reduceToNat, zt1, zt2, zt3, zt4, zt5, zt6, zt7, zt8, y219_5b, hl, hm, h32, e]
set_option maxRecDepth 20000 in
theorem lC_5 {H2 : zH} {k I : Int} {x8 : Option Value} {b v : Int} (h32 : zk H2 32 = 6) (e : zc 103 1 [.ref 32] H2 = some (.inl (some (.int (Int32.ofInt k))), H2)) (rk : iR k) (rb : iR b) (k68 : zk H2 68 = 24) (l68 : zl H2 68 = 1) (m68 : zm H2 68 0 = .long (Int64.ofInt v)) (hv : k = 0 → v = b) : zx 219 643 [some (.ref 0), some (.ref 3), some (.ref 32), some (.ref 68), some (.ref 69), some (.int (Int32.ofInt I)), some (.int (Int32.ofInt k)), some (.int (Int32.ofInt b)), x8] [] H2 = zx 219 2268 [some (.ref 0), some (.ref 3), some (.ref 32), some (.ref 68), some (.ref 69), some (.int (Int32.ofInt I)), some (.int (Int32.ofInt k)), some (.int (Int32.ofInt b)), x8] [] H2 := by
  by_cases g : k = 0
  · subst g
    have hb : v = b := hv rfl
    simp (disch := omega) only [zentry, zs0, zs1, zs2, zs3, zg_lo, zg_st, zg_st2, zg_ald, zg_ast, zs_ia, zs_i0, zg_ii, zi_max, zi_min, zi_abi, zi_abf, zi_fb, zi_bf, lget, lst, lst2, lc2, Option.map_some, zso, if_true, if_false, zc1, and_true, true_and, and_self, List.length_nil, List.length_cons, Nat.zero_le, reduceIte, reduceCtorEq, false_and, and_false, Bool.false_eq_true, zca_some, zr0, zr100, Option.bind_some, zb_none, zb_some, zrc, or_true, true_or, eq_self, ne_eq, not_true_eq_false, not_false_eq_true, zrt_i, zrt_zb, zrt_b, zrt_c, zrt_l, zrt_f, zrt_r, zrt_n, zrt_v, zft_0, zft_1, zft_zb, zft_3, zft_4, zft_5, zft_7r, zft_7n, iI_t, zb_i, zb_0, zb_1, Nat.reduceAdd, Nat.reduceLeDiff, Nat.reduceEqDiff, Nat.reduceSub, Int.reduceNeg, iI_add, iI_sub, iI_mul, iI_neg, zbz, zin, if_pos, if_neg, Int.toNat_natCast, Int.natCast_zero, Int.reduceToNat, zt1, zt2, zt3, zt4, zt5, zt6, zt7, zt8, y219_5c, h32, e, k68, l68, m68, hb, zl_ii, lw_l1]
  · simp (disch := omega) only [zentry, zs0, zs1, zs2, zs3, zg_lo, zg_st, zg_st2, zg_ald, zg_ast, zs_ia, zs_i0, zg_ii, zi_max, zi_min, zi_abi, zi_abf, zi_fb, zi_bf, lget, lst, lst2, lc2, Option.map_some, zso, if_true, if_false, zc1, and_true, true_and, and_self, List.length_nil, List.length_cons, Nat.zero_le, reduceIte, reduceCtorEq, false_and, and_false, Bool.false_eq_true, zca_some, zr0, zr100, Option.bind_some, zb_none, zb_some, zrc, or_true, true_or, eq_self, ne_eq, not_true_eq_false, not_false_eq_true, zrt_i, zrt_zb, zrt_b, zrt_c, zrt_l, zrt_f, zrt_r, zrt_n, zrt_v, zft_0, zft_1, zft_zb, zft_3, zft_4, zft_5, zft_7r, zft_7n, iI_t, zb_i, zb_0, zb_1, Nat.reduceAdd, Nat.reduceLeDiff, Nat.reduceEqDiff, Nat.reduceSub, Int.reduceNeg, iI_add, iI_sub, iI_mul, iI_neg, zbz, zin, if_pos, if_neg, Int.toNat_natCast, Int.natCast_zero, Int.reduceToNat, zt1, zt2, zt3, zt4, zt5, zt6, zt7, zt8, y219_5c, h32, e, g]

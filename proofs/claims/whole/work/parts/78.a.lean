/-! the law: its loop and its start (a program has written them) -/
theorem zg_ts {k nx tg : Nat} {aux : List Nat} {ls : zL} {st : zS} {h : zH} {o lo hi : Int} {js : Array Int} {x : Int32} : zgo k (zpure (.tableswitch o lo hi js) nx tg aux ls (.int x :: st) h) = if x.toInt < lo ∨ hi < x.toInt then zx k tg ls st h else zgo k ((aux[(x.toInt - lo).toNat]?).map (fun t => (t, ls, st, h))) := by
  simp only [zpure, zgo_if, zgo_some]
set_option maxRecDepth 4000 in
theorem y219_h :
  (∀ (ls : zL) (st : zS) (h : zH), zx 219 28 ls st h = zgo 219 (zpure (.iload 5) 30 0 [] ls st h)) ∧
  (∀ (ls : zL) (st : zS) (h : zH), zx 219 30 ls st h = zgo 219 (zpure (.aload_n 0) 31 0 [] ls st h)) ∧
  (∀ (ls : zL) (st : zS) (h : zH), zx 219 31 ls st h = zgo 219 (zpure .arraylength 32 0 [] ls st h)) ∧
  (∀ (ls : zL) (st : zS) (h : zH), zx 219 32 ls st h = zgo 219 (zpure (.bipush 6) 34 0 [] ls st h)) ∧
  (∀ (ls : zL) (st : zS) (h : zH), zx 219 34 ls st h = zgo 219 (zpure .isub 35 0 [] ls st h)) ∧
  (∀ (ls : zL) (st : zS) (h : zH), zx 219 35 ls st h = zgo 219 (zpure (.if_icmp .gt 2239) 38 2274 [] ls st h)) :=
  ⟨zx_0 rfl, zx_0 rfl, zx_0 rfl, zx_0 rfl, zx_0 rfl, zx_0 rfl⟩
set_option maxRecDepth 4000 in
theorem y219_i :
  (∀ (ls : zL) (st : zS) (h : zH), zx 219 38 ls st h = zgo 219 (zpure (.aload_n 0) 39 0 [] ls st h)) ∧
  (∀ (ls : zL) (st : zS) (h : zH), zx 219 39 ls st h = zgo 219 (zpure (.iload 5) 41 0 [] ls st h)) ∧
  (∀ (ls : zL) (st : zS) (h : zH), zx 219 41 ls st h = zgo 219 (zpure .iaload 42 0 [] ls st h)) ∧
  (∀ (ls : zL) (st : zS) (h : zH), zx 219 42 ls st h = zgo 219 (zpure (.bipush 63) 44 0 [] ls st h)) ∧
  (∀ (ls : zL) (st : zS) (h : zH), zx 219 44 ls st h = zgo 219 (zpure .iand 45 0 [] ls st h)) :=
  ⟨zx_0 rfl, zx_0 rfl, zx_0 rfl, zx_0 rfl, zx_0 rfl⟩
theorem y219_s : ∀ (ls : zL) (st : zS) (h : zH), zx 219 45 ls st h = zgo 219 (zpure (.tableswitch 2223 0 35 #[159, 263, 355, 411, 479, 573, 629, 697, 765, 859, 872, 928, 984, 1040, 1096, 1109, 1165, 1221, 1277, 1333, 1389, 1402, 1458, 1526, 1592, 1636, 1704, 1772, 1852, 1942, 1986, 1999, 2012, 2068, 2124, 2168]) 204 2268 [204, 308, 400, 456, 524, 618, 674, 742, 810, 904, 917, 973, 1029, 1085, 1141, 1154, 1210, 1266, 1322, 1378, 1434, 1447, 1503, 1571, 1637, 1681, 1749, 1817, 1897, 1987, 2031, 2044, 2057, 2113, 2169, 2213] ls st h) := zx_0 rfl
set_option maxRecDepth 4000 in
theorem y219_j :
  (∀ (ls : zL) (st : zS) (h : zH), zx 219 2268 ls st h = zgo 219 (zpure (.iinc 5 6) 2271 0 [] ls st h)) ∧
  (∀ (ls : zL) (st : zS) (h : zH), zx 219 2271 ls st h = zgo 219 (zpure (.goto (-2243)) 2274 28 [] ls st h)) :=
  ⟨zx_0 rfl, zx_0 rfl⟩
set_option maxRecDepth 4000 in
theorem y219_k :
  (∀ (ls : zL) (st : zS) (h : zH), zx 219 2274 ls st h = zgo 219 (zpure (.iconst 1) 2275 0 [] ls st h)) ∧
  (∀ (ls : zL) (st : zS) (h : zH), zx 219 2275 ls st h = zret 1 st h) :=
  ⟨zx_0 rfl, zx_1 rfl⟩
theorem lw_cmp {L : Nat} {H : zH} {I : Int} {x6 x7 x8 : Option Value} (hk : zk H 0 = 30) (hl : zl H 0 = L) (hI : 0 ≤ I ∧ I ≤ 4000 ∧ (L : Int) ≤ 3072) : zx 219 28 [some (.ref 0), some (.ref 3), some (.ref 32), some (.ref 68), some (.ref 69), some (.int (Int32.ofInt I)), x6, x7, x8] [] H = if (L : Int) - 6 < I then zx 219 2274 [some (.ref 0), some (.ref 3), some (.ref 32), some (.ref 68), some (.ref 69), some (.int (Int32.ofInt I)), x6, x7, x8] [] H else zx 219 38 [some (.ref 0), some (.ref 3), some (.ref 32), some (.ref 68), some (.ref 69), some (.int (Int32.ofInt I)), x6, x7, x8] [] H := by
  simp (disch := omega) only [zentry, zs0, zs1, zs2, zs3, zg_lo, zg_st, zg_st2, zg_ald, zg_ast, zs_ia, zs_i0, zg_ii, zi_max, zi_min, zi_abi, zi_abf, zi_fb, zi_bf, lget, lst, lst2, lc2, Option.map_some, zso, if_true, if_false, zc1, and_true, true_and, and_self, List.length_nil, List.length_cons, Nat.zero_le, reduceIte, reduceCtorEq, false_and, and_false, Bool.false_eq_true, zca_some, zr0, zr100, Option.bind_some, zb_none, zb_some, zrc, or_true, true_or, eq_self, ne_eq, not_true_eq_false, not_false_eq_true, zrt_i, zrt_zb, zrt_b, zrt_c, zrt_l, zrt_f, zrt_r, zrt_n, zrt_v, zft_0, zft_1, zft_zb, zft_3, zft_4, zft_5, zft_7r, zft_7n, iI_t, zb_i, zb_0, zb_1, Nat.reduceAdd, Nat.reduceLeDiff, Nat.reduceEqDiff, Nat.reduceSub, Int.reduceNeg, iI_add, iI_sub, iI_mul, iI_neg, zbz, zin, if_pos, if_neg, Int.toNat_natCast, Int.natCast_zero, Int.reduceToNat, zt1, zt2, zt3, zt4, zt5, zt6, zt7, zt8, y219_h, hk, hl, iI_n]
theorem lw_end {H : zH} {ls : zL} : zx 219 2274 ls [] H = some (.inl (some (.int (Int32.ofInt 1))), H) := by
  simp (disch := omega) only [zentry, zs0, zs1, zs2, zs3, zg_lo, zg_st, zg_st2, zg_ald, zg_ast, zs_ia, zs_i0, zg_ii, zi_max, zi_min, zi_abi, zi_abf, zi_fb, zi_bf, lget, lst, lst2, lc2, Option.map_some, zso, if_true, if_false, zc1, and_true, true_and, and_self, List.length_nil, List.length_cons, Nat.zero_le, reduceIte, reduceCtorEq, false_and, and_false, Bool.false_eq_true, zca_some, zr0, zr100, Option.bind_some, zb_none, zb_some, zrc, or_true, true_or, eq_self, ne_eq, not_true_eq_false, not_false_eq_true, zrt_i, zrt_zb, zrt_b, zrt_c, zrt_l, zrt_f, zrt_r, zrt_n, zrt_v, zft_0, zft_1, zft_zb, zft_3, zft_4, zft_5, zft_7r, zft_7n, iI_t, zb_i, zb_0, zb_1, Nat.reduceAdd, Nat.reduceLeDiff, Nat.reduceEqDiff, Nat.reduceSub, Int.reduceNeg, iI_add, iI_sub, iI_mul, iI_neg, zbz, zin, if_pos, if_neg, Int.toNat_natCast, Int.natCast_zero, Int.reduceToNat, zt1, zt2, zt3, zt4, zt5, zt6, zt7, zt8, y219_k, zret]
theorem lw_nxt {H : zH} {I : Int} {x6 x7 x8 : Option Value} : zx 219 2268 [some (.ref 0), some (.ref 3), some (.ref 32), some (.ref 68), some (.ref 69), some (.int (Int32.ofInt I)), x6, x7, x8] [] H = zx 219 28 [some (.ref 0), some (.ref 3), some (.ref 32), some (.ref 68), some (.ref 69), some (.int (Int32.ofInt (I + 6))), x6, x7, x8] [] H := by
  simp (disch := omega) only [zentry, zs0, zs1, zs2, zs3, zg_lo, zg_st, zg_st2, zg_ald, zg_ast, zs_ia, zs_i0, zg_ii, zi_max, zi_min, zi_abi, zi_abf, zi_fb, zi_bf, lget, lst, lst2, lc2, Option.map_some, zso, if_true, if_false, zc1, and_true, true_and, and_self, List.length_nil, List.length_cons, Nat.zero_le, reduceIte, reduceCtorEq, false_and, and_false, Bool.false_eq_true, zca_some, zr0, zr100, Option.bind_some, zb_none, zb_some, zrc, or_true, true_or, eq_self, ne_eq, not_true_eq_false, not_false_eq_true, zrt_i, zrt_zb, zrt_b, zrt_c, zrt_l, zrt_f, zrt_r, zrt_n, zrt_v, zft_0, zft_1, zft_zb, zft_3, zft_4, zft_5, zft_7r, zft_7n, iI_t, zb_i, zb_0, zb_1, Nat.reduceAdd, Nat.reduceLeDiff, Nat.reduceEqDiff, Nat.reduceSub, Int.reduceNeg, iI_add, iI_sub, iI_mul, iI_neg, zbz, zin, if_pos, if_neg, Int.toNat_natCast, Int.natCast_zero, Int.reduceToNat, zt1, zt2, zt3, zt4, zt5, zt6, zt7, zt8, y219_j]
theorem lw_op {L : Nat} {xs : Nat → Int32} {H : zH} {I : Int} {x6 x7 x8 : Option Value} (hl : zl H 0 = L) (hm : ∀ n, n < L → zm H 0 n = .int (xs n)) (hI : 0 ≤ I ∧ I + 6 ≤ (L : Int) ∧ (L : Int) ≤ 3072) : zx 219 38 [some (.ref 0), some (.ref 3), some (.ref 32), some (.ref 68), some (.ref 69), some (.int (Int32.ofInt I)), x6, x7, x8] [] H = zx 219 45 [some (.ref 0), some (.ref 3), some (.ref 32), some (.ref 68), some (.ref 69), some (.int (Int32.ofInt I)), x6, x7, x8] [.int (xs I.toNat &&& Int32.ofInt 63)] H := by
  simp (disch := omega) only [zentry, zs0, zs1, zs2, zs3, zg_lo, zg_st, zg_st2, zg_ald, zg_ast, zs_ia, zs_i0, zg_ii, zi_max, zi_min, zi_abi, zi_abf, zi_fb, zi_bf, lget, lst, lst2, lc2, Option.map_some, zso, if_true, if_false, zc1, and_true, true_and, and_self, List.length_nil, List.length_cons, Nat.zero_le, reduceIte, reduceCtorEq, false_and, and_false, Bool.false_eq_true, zca_some, zr0, zr100, Option.bind_some, zb_none, zb_some, zrc, or_true, true_or, eq_self, ne_eq, not_true_eq_false, not_false_eq_true, zrt_i, zrt_zb, zrt_b, zrt_c, zrt_l, zrt_f, zrt_r, zrt_n, zrt_v, zft_0, zft_1, zft_zb, zft_3, zft_4, zft_5, zft_7r, zft_7n, iI_t, zb_i, zb_0, zb_1, Nat.reduceAdd, Nat.reduceLeDiff, Nat.reduceEqDiff, Nat.reduceSub, Int.reduceNeg, iI_add, iI_sub, iI_mul, iI_neg, zbz, zin, if_pos, if_neg, Int.toNat_natCast, Int.natCast_zero, Int.reduceToNat, zt1, zt2, zt3, zt4, zt5, zt6, zt7, zt8, y219_i, hl, hm]
theorem lw_sw {H : zH} {ls : zL} {x : Int32} : zx 219 45 ls [.int x] H = if x.toInt < 0 ∨ 35 < x.toInt then zx 219 2268 ls [] H else zgo 219 ((([204, 308, 400, 456, 524, 618, 674, 742, 810, 904, 917, 973, 1029, 1085, 1141, 1154, 1210, 1266, 1322, 1378, 1434, 1447, 1503, 1571, 1637, 1681, 1749, 1817, 1897, 1987, 2031, 2044, 2057, 2113, 2169, 2213] : List Nat)[(x.toInt - 0).toNat]?).map (fun t => (t, ls, [], H))) := by
  rw [y219_s, zg_ts]
theorem lw_step {c L : Nat} {xs : Nat → Int32} {h : zH} {X D : zD} {I : Int} {x6 x7 x8 : Option Value} (p : Inv c h X D) (hc : c < 600) (z : zINV L xs (zV (zU h X) D)) (hI : 0 ≤ I ∧ I + 6 ≤ (L : Int) ∧ (L : Int) ≤ 3072) : lwT L xs c I (zx 219 38 [some (.ref 0), some (.ref 3), some (.ref 32), some (.ref 68), some (.ref 69), some (.int (Int32.ofInt I)), x6, x7, x8] [] (zV (zU h X) D)) := by
  rw [lw_op (xs := xs) (lw_l z) z.1.2.2.2.2.2.2.2.1 hI, lw_sw]
  generalize (xs I.toNat &&& Int32.ofInt 63).toInt = y
  by_cases g : y < 0 ∨ 35 < y
  · rw [if_pos g]
    exact ⟨_, _, _, _, _, _, rfl, p.t hc, z⟩
  · rw [if_neg g]
    obtain ⟨n, rfl⟩ := Int.eq_ofNat_of_zero_le (show 0 ≤ y by omega)
    have hn : n < 36 := by omega
    rw [show ((n : Int) - 0).toNat = n by omega]
    clear g
    rcases (show n = 0 ∨ n = 1 ∨ n = 2 ∨ n = 3 ∨ n = 4 ∨ n = 5 ∨ n = 6 ∨ n = 7 ∨ n = 8 ∨ n = 9 ∨ n = 10 ∨ n = 11 ∨ n = 12 ∨ n = 13 ∨ n = 14 ∨ n = 15 ∨ n = 16 ∨ n = 17 ∨ n = 18 ∨ n = 19 ∨ n = 20 ∨ n = 21 ∨ n = 22 ∨ n = 23 ∨ n = 24 ∨ n = 25 ∨ n = 26 ∨ n = 27 ∨ n = 28 ∨ n = 29 ∨ n = 30 ∨ n = 31 ∨ n = 32 ∨ n = 33 ∨ n = 34 ∨ n = 35 by omega) with rfl | rfl | rfl | rfl | rfl | rfl | rfl | rfl | rfl | rfl | rfl | rfl | rfl | rfl | rfl | rfl | rfl | rfl | rfl | rfl | rfl | rfl | rfl | rfl | rfl | rfl | rfl | rfl | rfl | rfl | rfl | rfl | rfl | rfl | rfl | rfl
    · exact lw_0 p hc z hI
    · exact lw_1 p hc z hI
    · exact lw_2 p hc z hI
    · exact lw_3 p hc z hI
    · exact lw_4 p hc z hI
    · exact lw_5 p hc z hI
    · exact lw_6 p hc z hI
    · exact lw_7 p hc z hI
    · exact lw_8 p hc z hI
    · exact lw_9 p hc z hI
    · exact lw_10 p hc z hI
    · exact lw_11 p hc z hI
    · exact lw_12 p hc z hI
    · exact lw_13 p hc z hI
    · exact lw_14 p hc z hI
    · exact lw_15 p hc z hI
    · exact lw_16 p hc z hI
    · exact lw_17 p hc z hI
    · exact lw_18 p hc z hI
    · exact lw_19 p hc z hI
    · exact lw_20 p hc z hI
    · exact lw_21 p hc z hI
    · exact lw_22 p hc z hI
    · exact lw_23 p hc z hI
    · exact lw_24 p hc z hI
    · exact lw_25 p hc z hI
    · exact lw_26 p hc z hI
    · exact lw_27 p hc z hI
    · exact lw_28 p hc z hI
    · exact lw_29 p hc z hI
    · exact lw_30 p hc z hI
    · exact lw_31 p hc z hI
    · exact lw_32 p hc z hI
    · exact lw_33 p hc z hI
    · exact lw_34 p hc z hI
    · exact lw_35 p hc z hI
theorem lw_loop : ∀ (n c : Nat) {L : Nat} {xs : Nat → Int32} {h : zH} {X D : zD} {I : Int} {x6 x7 x8 : Option Value}, Inv c h X D → zINV L xs (zV (zU h X) D) → (0 ≤ I ∧ I ≤ 3072 ∧ (L : Int) ≤ 3072) → (L : Int) < I + 6 + 6 * n → c + n ≤ 600 → ∃ h', zx 219 28 [some (.ref 0), some (.ref 3), some (.ref 32), some (.ref 68), some (.ref 69), some (.int (Int32.ofInt I)), x6, x7, x8] [] (zV (zU h X) D) = some (.inl (some (.int (Int32.ofInt 1))), h') ∧ zuc h' ≤ 601024 ∧ zus h' ≤ 7293034 := by
  intro n
  induction n with
  | zero =>
    intro c L xs h X D I x6 x7 x8 p z hI hn hc
    refine ⟨zV (zU h X) D, ?_, ?_, ?_⟩
    · rw [lw_cmp z.1.2.2.1 (lw_l z) (by omega), if_pos (by omega), lw_end]
    · have := p.2.2.2.2.2.2.1.1
      show zuc h ≤ _
      omega
    · have := p.2.2.2.2.2.2.1.2
      show zus h ≤ _
      omega
  | succ n ih =>
    intro c L xs h X D I x6 x7 x8 p z hI hn hc
    by_cases g : (L : Int) - 6 < I
    · refine ⟨zV (zU h X) D, ?_, ?_, ?_⟩
      · rw [lw_cmp z.1.2.2.1 (lw_l z) (by omega), if_pos g, lw_end]
      · have := p.2.2.2.2.2.2.1.1
        show zuc h ≤ _
        omega
      · have := p.2.2.2.2.2.2.1.2
        show zus h ≤ _
        omega
    · obtain ⟨h2, X2, D2, y6, y7, y8, e, p2, z2⟩ := lw_step (x6 := x6) (x7 := x7) (x8 := x8) p (show c < 600 by omega) z (I := I) (by omega)
      rw [lw_cmp z.1.2.2.1 (lw_l z) (by omega), if_neg g, e, lw_nxt]
      exact ih (c + 1) p2 z2 (by omega) (by omega) (by omega)
set_option maxRecDepth 4000 in
theorem y219_z :
  (∀ (ls : zL) (st : zS) (h : zH), zx 219 0 ls st h = zgo 219 (zpure (.new 8) 3 0 [5, 8] ls st h)) ∧
  (∀ (ls : zL) (st : zS) (h : zH), zx 219 3 ls st h = zgo 219 (zpure .dup 4 0 [] ls st h)) ∧
  (∀ (ls : zL) (st : zS) (h : zH), zx 219 4 ls st h = zca 219 4 7 ls 41 1 100 (ztake 1 st) h) ∧
  (∀ (ls : zL) (st : zS) (h : zH), zx 219 7 ls st h = zgo 219 (zpure (.astore_n 1) 8 0 [] ls st h)) ∧
  (∀ (ls : zL) (st : zS) (h : zH), zx 219 8 ls st h = zgo 219 (zpure (.new 125) 11 0 [6, 33] ls st h)) ∧
  (∀ (ls : zL) (st : zS) (h : zH), zx 219 11 ls st h = zgo 219 (zpure .dup 12 0 [] ls st h)) ∧
  (∀ (ls : zL) (st : zS) (h : zH), zx 219 12 ls st h = zca 219 12 15 ls 102 1 100 (ztake 1 st) h) ∧
  (∀ (ls : zL) (st : zS) (h : zH), zx 219 15 ls st h = zgo 219 (zpure (.astore_n 2) 16 0 [] ls st h)) ∧
  (∀ (ls : zL) (st : zS) (h : zH), zx 219 16 ls st h = zgo 219 (zpure (.iconst 1) 17 0 [] ls st h)) ∧
  (∀ (ls : zL) (st : zS) (h : zH), zx 219 17 ls st h = zgo 219 (zpure (.newarray .long) 19 0 [] ls st h)) ∧
  (∀ (ls : zL) (st : zS) (h : zH), zx 219 19 ls st h = zgo 219 (zpure (.astore_n 3) 20 0 [] ls st h)) ∧
  (∀ (ls : zL) (st : zS) (h : zH), zx 219 20 ls st h = zgo 219 (zpure (.iconst 1) 21 0 [] ls st h)) ∧
  (∀ (ls : zL) (st : zS) (h : zH), zx 219 21 ls st h = zgo 219 (zpure (.newarray .double) 23 0 [] ls st h)) ∧
  (∀ (ls : zL) (st : zS) (h : zH), zx 219 23 ls st h = zgo 219 (zpure (.astore 4) 25 0 [] ls st h)) ∧
  (∀ (ls : zL) (st : zS) (h : zH), zx 219 25 ls st h = zgo 219 (zpure (.iconst 0) 26 0 [] ls st h)) ∧
  (∀ (ls : zL) (st : zS) (h : zH), zx 219 26 ls st h = zgo 219 (zpure (.istore 5) 28 0 [] ls st h)) :=
  ⟨zx_0 rfl, zx_0 rfl, zx_2c rfl, zx_0 rfl, zx_0 rfl, zx_0 rfl, zx_2c rfl, zx_0 rfl, zx_0 rfl, zx_0 rfl, zx_0 rfl, zx_0 rfl, zx_0 rfl, zx_0 rfl, zx_0 rfl, zx_0 rfl⟩
set_option maxRecDepth 20000 in
theorem lw_head {L : Nat} {xs : Nat → Int32} : zx 219 0 [some (.ref 0), none, none, none, none, none, none, none, none] [] (zP L xs 3 0) = zx 219 28 [some (.ref 0), some (.ref 3), some (.ref 32), some (.ref 68), some (.ref 69), some (.int (Int32.ofInt 0)), none, none, none] [] (zP L xs 70 54) := by
  have f0 : znew (zP L xs 3 0) 5 8 (fun i => zdef (zty 5 i)) = zP L xs 4 0 := zP_new (by decide) (by decide +kernel) (by decide +kernel) (fun i => rfl) trivial (by decide +kernel)
  have f1 : znew (zP L xs 32 31) 6 33 (fun i => zdef (zty 6 i)) = zP L xs 33 31 := zP_new (by decide) (by decide +kernel) (by decide +kernel) (fun i => rfl) trivial (by decide +kernel)
  have f2 : znew (zP L xs 68 54) 24 1 (fun _ => .long 0) = zP L xs 69 54 := zP_new (by decide) (by decide +kernel) (by decide +kernel) (fun i => rfl) trivial (by decide +kernel)
  have f3 : znew (zP L xs 69 54) 25 1 (fun _ => .double 0) = zP L xs 70 54 := zP_new (by decide) (by decide +kernel) (by decide +kernel) (fun i => rfl) trivial (by decide +kernel)
  simp (disch := omega) only [zentry, zs0, zs1, zs2, zs3, zg_lo, zg_st, zg_st2, zg_ald, zg_ast, zs_ia, zs_i0, zg_ii, zi_max, zi_min, zi_abi, zi_abf, zi_fb, zi_bf, lget, lst, lst2, lc2, Option.map_some, zso, if_true, if_false, zc1, and_true, true_and, and_self, List.length_nil, List.length_cons, Nat.zero_le, reduceIte, reduceCtorEq, false_and, and_false, Bool.false_eq_true, zca_some, zr0, zr100, Option.bind_some, zb_none, zb_some, zrc, or_true, true_or, eq_self, ne_eq, not_true_eq_false, not_false_eq_true, zrt_i, zrt_zb, zrt_b, zrt_c, zrt_l, zrt_f, zrt_r, zrt_n, zrt_v, zft_0, zft_1, zft_zb, zft_3, zft_4, zft_5, zft_7r, zft_7n, iI_t, zb_i, zb_0, zb_1, Nat.reduceAdd, Nat.reduceLeDiff, Nat.reduceEqDiff, Nat.reduceSub, Int.reduceNeg, iI_add, iI_sub, iI_mul, iI_neg, zbz, zin, if_pos, if_neg, Int.toNat_natCast, Int.natCast_zero, Int.reduceToNat, zt1, zt2, zt3, zt4, zt5, zt6, zt7, zt8, y219_z, f0, f1, f2, f3, k41 (L := L) (xs := xs), k102 (L := L) (xs := xs), zP_n]
theorem lw_run {L : Nat} {xs : Nat → Int32} (hL : L ≤ 3072) : ∃ h', zc 219 9 [.ref 0] (zh0 L xs) = some (.inl (some (.int (Int32.ofInt 1))), h') ∧ zuc h' ≤ 601024 ∧ zus h' ≤ 7293034 := by
  have e : zc 219 9 [.ref 0] (zh0 L xs) = zx 219 28 [some (.ref 0), some (.ref 3), some (.ref 32), some (.ref 68), some (.ref 69), some (.int (Int32.ofInt 0)), none, none, none] [] (zV (zU (zP L xs 70 54) pX) pD) := by
    rw [← zP_V, ← lw_head, zP_0]
    rfl
  have z : zINV L xs (zV (zU (zP L xs 70 54) pX) pD) := by
    rw [← zP_V]
    exact zP_I
  rw [e]
  exact lw_loop 512 0 Inv_0 z (by omega) (by omega) (by omega)

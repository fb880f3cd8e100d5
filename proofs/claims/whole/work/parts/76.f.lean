/-! the law, case by case (a program has written them) -/
set_option maxRecDepth 4000 in
theorem y219_24a :
  (∀ (ls : zL) (st : zS) (h : zH), zx 219 1637 ls st h = zgo 219 (zpure (.aload_n 1) 1638 0 [] ls st h)) ∧
  (∀ (ls : zL) (st : zS) (h : zH), zx 219 1638 ls st h = zgo 219 (zpure (.aload_n 3) 1639 0 [] ls st h)) ∧
  (∀ (ls : zL) (st : zS) (h : zH), zx 219 1639 ls st h = zca 219 1639 1642 ls 209 3 0 (ztake 2 st) h) ∧
  (∀ (ls : zL) (st : zS) (h : zH), zx 219 1642 ls st h = zgo 219 (zpure (.istore 6) 1644 0 [] ls st h)) :=
  ⟨zx_0 rfl, zx_0 rfl, zx_2c rfl, zx_0 rfl⟩
set_option maxRecDepth 4000 in
theorem y219_24b :
  (∀ (ls : zL) (st : zS) (h : zH), zx 219 1644 ls st h = zgo 219 (zpure (.aload_n 2) 1645 0 [] ls st h)) ∧
  (∀ (ls : zL) (st : zS) (h : zH), zx 219 1645 ls st h = zca 219 1645 1648 ls 156 2 7 (ztake 1 st) h) ∧
  (∀ (ls : zL) (st : zS) (h : zH), zx 219 1648 ls st h = zgo 219 (zpure (.istore 7) 1650 0 [] ls st h)) :=
  ⟨zx_0 rfl, zx_2c rfl, zx_0 rfl⟩
set_option maxRecDepth 4000 in
theorem y219_24c :
  (∀ (ls : zL) (st : zS) (h : zH), zx 219 1650 ls st h = zgo 219 (zpure (.aload_n 2) 1651 0 [] ls st h)) ∧
  (∀ (ls : zL) (st : zS) (h : zH), zx 219 1651 ls st h = zca 219 1651 1654 ls 103 1 7 (ztake 1 st) h) ∧
  (∀ (ls : zL) (st : zS) (h : zH), zx 219 1654 ls st h = zgo 219 (zpure (.iload 6) 1656 0 [] ls st h)) ∧
  (∀ (ls : zL) (st : zS) (h : zH), zx 219 1656 ls st h = zgo 219 (zpure (.if_icmp .eq 5) 1659 1661 [] ls st h)) ∧
  (∀ (ls : zL) (st : zS) (h : zH), zx 219 1659 ls st h = zgo 219 (zpure (.iconst 0) 1660 0 [] ls st h)) ∧
  (∀ (ls : zL) (st : zS) (h : zH), zx 219 1660 ls st h = zret 1 st h) ∧
  (∀ (ls : zL) (st : zS) (h : zH), zx 219 1661 ls st h = zgo 219 (zpure (.iload 6) 1663 0 [] ls st h)) ∧
  (∀ (ls : zL) (st : zS) (h : zH), zx 219 1663 ls st h = zgo 219 (zpure (.ifCond .ne 15) 1666 1678 [] ls st h)) ∧
  (∀ (ls : zL) (st : zS) (h : zH), zx 219 1666 ls st h = zgo 219 (zpure (.aload_n 3) 1667 0 [] ls st h)) ∧
  (∀ (ls : zL) (st : zS) (h : zH), zx 219 1667 ls st h = zgo 219 (zpure (.iconst 0) 1668 0 [] ls st h)) ∧
  (∀ (ls : zL) (st : zS) (h : zH), zx 219 1668 ls st h = zgo 219 (zpure .laload 1669 0 [] ls st h)) ∧
  (∀ (ls : zL) (st : zS) (h : zH), zx 219 1669 ls st h = zgo 219 (zpure (.iload 7) 1671 0 [] ls st h)) ∧
  (∀ (ls : zL) (st : zS) (h : zH), zx 219 1671 ls st h = zgo 219 (zpure .i2l 1672 0 [] ls st h)) ∧
  (∀ (ls : zL) (st : zS) (h : zH), zx 219 1672 ls st h = zgo 219 (zpure .lcmp 1673 0 [] ls st h)) ∧
  (∀ (ls : zL) (st : zS) (h : zH), zx 219 1673 ls st h = zgo 219 (zpure (.ifCond .eq 5) 1676 1678 [] ls st h)) ∧
  (∀ (ls : zL) (st : zS) (h : zH), zx 219 1676 ls st h = zgo 219 (zpure (.iconst 0) 1677 0 [] ls st h)) ∧
  (∀ (ls : zL) (st : zS) (h : zH), zx 219 1677 ls st h = zret 1 st h) ∧
  (∀ (ls : zL) (st : zS) (h : zH), zx 219 1678 ls st h = zgo 219 (zpure (.goto 590) 1681 2268 [] ls st h)) :=
  ⟨zx_0 rfl, zx_2c rfl, zx_0 rfl, zx_0 rfl, zx_0 rfl, zx_1 rfl, zx_0 rfl, zx_0 rfl, zx_0 rfl, zx_0 rfl, zx_0 rfl, zx_0 rfl, zx_0 rfl, zx_0 rfl, zx_0 rfl, zx_0 rfl, zx_1 rfl, zx_0 rfl⟩
set_option maxRecDepth 20000 in
theorem lA_24 {L : Nat} {xs : Nat → Int32} {H H1 : zH} {k I : Int} {x6 x7 x8 : Option Value} (hl : zl H 0 = L) (hm : ∀ n, n < L → zm H 0 n = .int (Int32.ofInt (xs n).toInt)) (hI : 0 ≤ I ∧ I + 6 ≤ (L : Int) ∧ (L : Int) ≤ 3072) (e : zc 209 3 [.ref 3, .ref 68] H = some (.inl (some (.int (Int32.ofInt k))), H1)) : zx 219 1637 [some (.ref 0), some (.ref 3), some (.ref 32), some (.ref 68), some (.ref 69), some (.int (Int32.ofInt I)), x6, x7, x8] [] H = zx 219 1644 [some (.ref 0), some (.ref 3), some (.ref 32), some (.ref 68), some (.ref 69), some (.int (Int32.ofInt I)), some (.int (Int32.ofInt k)), x7, x8] [] H1 := by
  simp (disch := omega) only [zentry, zs0, zs1, zs2, zs3, zg_lo, zg_st, zg_st2, zg_ald, zg_ast, zs_ia, zs_i0, zg_ii, zi_max, zi_min, zi_abi, zi_abf, zi_fb, zi_bf, lget, lst, lst2, lc2, Option.map_some, zso, if_true, if_false, zc1, and_true, true_and, and_self, List.length_nil, List.length_cons, Nat.zero_le, reduceIte, reduceCtorEq, false_and, and_false, Bool.false_eq_true, zca_some, zr0, zr100, Option.bind_some, zb_none, zb_some, zrc, or_true, true_or, eq_self, ne_eq, not_true_eq_false, not_false_eq_true, zrt_i, zrt_zb, zrt_b, zrt_c, zrt_l, zrt_f, zrt_r, zrt_n, zrt_v, zft_0, zft_1, zft_zb, zft_3, zft_4, zft_5, zft_7r, zft_7n, iI_t, zb_i, zb_0, zb_1, Nat.reduceAdd, Nat.reduceLeDiff, Nat.reduceEqDiff, Nat.reduceSub, Int.reduceNeg, iI_add, iI_sub, iI_mul, iI_neg, zbz, zin, if_pos, if_neg, Int.toNat_natCast, Int.natCast_zero, Int.reduceToNat, zt1, zt2, zt3, zt4, zt5, zt6, zt7, zt8, y219_24a, hl, hm, e]
set_option maxRecDepth 20000 in
theorem lB_24 {L : Nat} {xs : Nat → Int32} {H1 H2 : zH} {k I : Int} {x7 x8 : Option Value} {b : Int} (hl : zl H1 0 = L) (hm : ∀ n, n < L → zm H1 0 n = .int (Int32.ofInt (xs n).toInt)) (h32 : zk H1 32 = 6) (hI : 0 ≤ I ∧ I + 6 ≤ (L : Int) ∧ (L : Int) ≤ 3072) (e : zc 156 2 [.ref 32] H1 = some (.inl (some (.int (Int32.ofInt b))), H2)) : zx 219 1644 [some (.ref 0), some (.ref 3), some (.ref 32), some (.ref 68), some (.ref 69), some (.int (Int32.ofInt I)), some (.int (Int32.ofInt k)), x7, x8] [] H1 = zx 219 1650 [some (.ref 0), some (.ref 3), some (.ref 32), some (.ref 68), some (.ref 69), some (.int (Int32.ofInt I)), some (.int (Int32.ofInt k)), some (.int (Int32.ofInt b)), x8] [] H2 := by
  simp (disch := omega) only [zentry, zs0, zs1, zs2, zs3, zg_lo, zg_st, zg_st2, zg_ald, zg_ast, zs_ia, zs_i0, zg_ii, zi_max, zi_min, zi_abi, zi_abf, zi_fb, zi_bf, lget, lst, lst2, lc2, Option.map_some, zso, if_true, if_false, zc1, and_true, true_and, and_self, List.length_nil, List.length_cons, Nat.zero_le, reduceIte, reduceCtorEq, false_and, and_false, Bool.false_eq_true, zca_some, zr0, zr100, Option.bind_some, zb_none, zb_some, zrc, or_true, true_or, eq_self, ne_eq, not_true_eq_false, not_false_eq_true, zrt_i, zrt_zb, zrt_b, zrt_c, zrt_l, zrt_f, zrt_r, zrt_n, zrt_v, zft_0, zft_1, zft_zb, zft_3, zft_4, zft_5, zft_7r, zft_7n, iI_t, zb_i, zb_0, zb_1, Nat.reduceAdd, Nat.reduceLeDiff, Nat.reduceEqDiff, Nat.reduceSub, Int.reduceNeg, iI_add, iI_sub, iI_mul, iI_neg, zbz, zin, if_pos, if_neg, Int.toNat_natCast, Int.natCast_zero, Int.reduceToNat, zt1, zt2, zt3, zt4, zt5, zt6, zt7, zt8, y219_24b, hl, hm, h32, e]
set_option maxRecDepth 20000 in
theorem lC_24 {H2 : zH} {k I : Int} {x8 : Option Value} {b v : Int} (h32 : zk H2 32 = 6) (e : zc 103 1 [.ref 32] H2 = some (.inl (some (.int (Int32.ofInt k))), H2)) (rk : iR k) (rb : iR b) (k68 : zk H2 68 = 24) (l68 : zl H2 68 = 1) (m68 : zm H2 68 0 = .long (Int64.ofInt v)) (hv : k = 0 → v = b) : zx 219 1650 [some (.ref 0), some (.ref 3), some (.ref 32), some (.ref 68), some (.ref 69), some (.int (Int32.ofInt I)), some (.int (Int32.ofInt k)), some (.int (Int32.ofInt b)), x8] [] H2 = zx 219 2268 [some (.ref 0), some (.ref 3), some (.ref 32), some (.ref 68), some (.ref 69), some (.int (Int32.ofInt I)), some (.int (Int32.ofInt k)), some (.int (Int32.ofInt b)), x8] [] H2 := by
  by_cases g : k = 0
  · subst g
    have hb : v = b := hv rfl
    simp (disch := omega) only [zentry, zs0, zs1, zs2, zs3, zg_lo, zg_st, zg_st2, zg_ald, zg_ast, zs_ia, zs_i0, zg_ii, zi_max, zi_min, zi_abi, zi_abf, zi_fb, zi_bf, lget, lst, lst2, lc2, Option.map_some, zso, if_true, if_false, zc1, and_true, true_and, and_self, List.length_nil, List.length_cons, Nat.zero_le, reduceIte, reduceCtorEq, false_and, and_false, Bool.false_eq_true, zca_some, zr0, zr100, Option.bind_some, zb_none, zb_some, zrc, or_true, true_or, eq_self, ne_eq, not_true_eq_false, not_false_eq_true, zrt_i, zrt_zb, zrt_b, zrt_c, zrt_l, zrt_f, zrt_r, zrt_n, zrt_v, zft_0, zft_1, zft_zb, zft_3, zft_4, zft_5, zft_7r, zft_7n, iI_t, zb_i, zb_0, zb_1, Nat.reduceAdd, Nat.reduceLeDiff, Nat.reduceEqDiff, Nat.reduceSub, Int.reduceNeg, iI_add, iI_sub, iI_mul, iI_neg, zbz, zin, if_pos, if_neg, Int.toNat_natCast, Int.natCast_zero, Int.reduceToNat, zt1, zt2, zt3, zt4, zt5, zt6, zt7, zt8, y219_24c, h32, e, k68, l68, m68, hb, zl_ii, lw_l1]
  · simp (disch := omega) only [zentry, zs0, zs1, zs2, zs3, zg_lo, zg_st, zg_st2, zg_ald, zg_ast, zs_ia, zs_i0, zg_ii, zi_max, zi_min, zi_abi, zi_abf, zi_fb, zi_bf, lget, lst, lst2, lc2, Option.map_some, zso, if_true, if_false, zc1, and_true, true_and, and_self, List.length_nil, List.length_cons, Nat.zero_le, reduceIte, reduceCtorEq, false_and, and_false, Bool.false_eq_true, zca_some, zr0, zr100, Option.bind_some, zb_none, zb_some, zrc, or_true, true_or, eq_self, ne_eq, not_true_eq_false, not_false_eq_true, zrt_i, zrt_zb, zrt_b, zrt_c, zrt_l, zrt_f, zrt_r, zrt_n, zrt_v, zft_0, zft_1, zft_zb, zft_3, zft_4, zft_5, zft_7r, zft_7n, iI_t, zb_i, zb_0, zb_1, Nat.reduceAdd, Nat.reduceLeDiff, Nat.reduceEqDiff, Nat.reduceSub, Int.reduceNeg, iI_add, iI_sub, iI_mul, iI_neg, zbz, zin, if_pos, if_neg, Int.toNat_natCast, Int.natCast_zero, Int.reduceToNat, zt1, zt2, zt3, zt4, zt5, zt6, zt7, zt8, y219_24c, h32, e, g]
set_option maxRecDepth 4000 in
theorem y219_25a :
  (∀ (ls : zL) (st : zS) (h : zH), zx 219 1681 ls st h = zgo 219 (zpure (.aload_n 1) 1682 0 [] ls st h)) ∧
  (∀ (ls : zL) (st : zS) (h : zH), zx 219 1682 ls st h = zgo 219 (zpure (.aload_n 0) 1683 0 [] ls st h)) ∧
  (∀ (ls : zL) (st : zS) (h : zH), zx 219 1683 ls st h = zgo 219 (zpure (.iload 5) 1685 0 [] ls st h)) ∧
  (∀ (ls : zL) (st : zS) (h : zH), zx 219 1685 ls st h = zgo 219 (zpure (.iconst 1) 1686 0 [] ls st h)) ∧
  (∀ (ls : zL) (st : zS) (h : zH), zx 219 1686 ls st h = zgo 219 (zpure .iadd 1687 0 [] ls st h)) ∧
  (∀ (ls : zL) (st : zS) (h : zH), zx 219 1687 ls st h = zgo 219 (zpure .iaload 1688 0 [] ls st h)) ∧
  (∀ (ls : zL) (st : zS) (h : zH), zx 219 1688 ls st h = zgo 219 (zpure (.aload_n 0) 1689 0 [] ls st h)) ∧
  (∀ (ls : zL) (st : zS) (h : zH), zx 219 1689 ls st h = zgo 219 (zpure (.iload 5) 1691 0 [] ls st h)) ∧
  (∀ (ls : zL) (st : zS) (h : zH), zx 219 1691 ls st h = zgo 219 (zpure (.iconst 2) 1692 0 [] ls st h)) ∧
  (∀ (ls : zL) (st : zS) (h : zH), zx 219 1692 ls st h = zgo 219 (zpure .iadd 1693 0 [] ls st h)) ∧
  (∀ (ls : zL) (st : zS) (h : zH), zx 219 1693 ls st h = zgo 219 (zpure .iaload 1694 0 [] ls st h)) ∧
  (∀ (ls : zL) (st : zS) (h : zH), zx 219 1694 ls st h = zgo 219 (zpure (.aload_n 3) 1695 0 [] ls st h)) ∧
  (∀ (ls : zL) (st : zS) (h : zH), zx 219 1695 ls st h = zca 219 1695 1698 ls 210 5 0 (ztake 4 st) h) ∧
  (∀ (ls : zL) (st : zS) (h : zH), zx 219 1698 ls st h = zgo 219 (zpure (.istore 6) 1700 0 [] ls st h)) :=
  ⟨zx_0 rfl, zx_0 rfl, zx_0 rfl, zx_0 rfl, zx_0 rfl, zx_0 rfl, zx_0 rfl, zx_0 rfl, zx_0 rfl, zx_0 rfl, zx_0 rfl, zx_0 rfl, zx_2c rfl, zx_0 rfl⟩
set_option maxRecDepth 4000 in
theorem y219_25b :
  (∀ (ls : zL) (st : zS) (h : zH), zx 219 1700 ls st h = zgo 219 (zpure (.aload_n 2) 1701 0 [] ls st h)) ∧
  (∀ (ls : zL) (st : zS) (h : zH), zx 219 1701 ls st h = zgo 219 (zpure (.aload_n 0) 1702 0 [] ls st h)) ∧
  (∀ (ls : zL) (st : zS) (h : zH), zx 219 1702 ls st h = zgo 219 (zpure (.iload 5) 1704 0 [] ls st h)) ∧
  (∀ (ls : zL) (st : zS) (h : zH), zx 219 1704 ls st h = zgo 219 (zpure (.iconst 1) 1705 0 [] ls st h)) ∧
  (∀ (ls : zL) (st : zS) (h : zH), zx 219 1705 ls st h = zgo 219 (zpure .iadd 1706 0 [] ls st h)) ∧
  (∀ (ls : zL) (st : zS) (h : zH), zx 219 1706 ls st h = zgo 219 (zpure .iaload 1707 0 [] ls st h)) ∧
  (∀ (ls : zL) (st : zS) (h : zH), zx 219 1707 ls st h = zgo 219 (zpure (.aload_n 0) 1708 0 [] ls st h)) ∧
  (∀ (ls : zL) (st : zS) (h : zH), zx 219 1708 ls st h = zgo 219 (zpure (.iload 5) 1710 0 [] ls st h)) ∧
  (∀ (ls : zL) (st : zS) (h : zH), zx 219 1710 ls st h = zgo 219 (zpure (.iconst 2) 1711 0 [] ls st h)) ∧
  (∀ (ls : zL) (st : zS) (h : zH), zx 219 1711 ls st h = zgo 219 (zpure .iadd 1712 0 [] ls st h)) ∧
  (∀ (ls : zL) (st : zS) (h : zH), zx 219 1712 ls st h = zgo 219 (zpure .iaload 1713 0 [] ls st h)) ∧
  (∀ (ls : zL) (st : zS) (h : zH), zx 219 1713 ls st h = zca 219 1713 1716 ls 128 3 7 (ztake 3 st) h) ∧
  (∀ (ls : zL) (st : zS) (h : zH), zx 219 1716 ls st h = zgo 219 (zpure (.istore 7) 1718 0 [] ls st h)) :=
  ⟨zx_0 rfl, zx_0 rfl, zx_0 rfl, zx_0 rfl, zx_0 rfl, zx_0 rfl, zx_0 rfl, zx_0 rfl, zx_0 rfl, zx_0 rfl, zx_0 rfl, zx_2c rfl, zx_0 rfl⟩
set_option maxRecDepth 4000 in
theorem y219_25c :
  (∀ (ls : zL) (st : zS) (h : zH), zx 219 1718 ls st h = zgo 219 (zpure (.aload_n 2) 1719 0 [] ls st h)) ∧
  (∀ (ls : zL) (st : zS) (h : zH), zx 219 1719 ls st h = zca 219 1719 1722 ls 103 1 7 (ztake 1 st) h) ∧
  (∀ (ls : zL) (st : zS) (h : zH), zx 219 1722 ls st h = zgo 219 (zpure (.iload 6) 1724 0 [] ls st h)) ∧
  (∀ (ls : zL) (st : zS) (h : zH), zx 219 1724 ls st h = zgo 219 (zpure (.if_icmp .eq 5) 1727 1729 [] ls st h)) ∧
  (∀ (ls : zL) (st : zS) (h : zH), zx 219 1727 ls st h = zgo 219 (zpure (.iconst 0) 1728 0 [] ls st h)) ∧
  (∀ (ls : zL) (st : zS) (h : zH), zx 219 1728 ls st h = zret 1 st h) ∧
  (∀ (ls : zL) (st : zS) (h : zH), zx 219 1729 ls st h = zgo 219 (zpure (.iload 6) 1731 0 [] ls st h)) ∧
  (∀ (ls : zL) (st : zS) (h : zH), zx 219 1731 ls st h = zgo 219 (zpure (.ifCond .ne 15) 1734 1746 [] ls st h)) ∧
  (∀ (ls : zL) (st : zS) (h : zH), zx 219 1734 ls st h = zgo 219 (zpure (.aload_n 3) 1735 0 [] ls st h)) ∧
  (∀ (ls : zL) (st : zS) (h : zH), zx 219 1735 ls st h = zgo 219 (zpure (.iconst 0) 1736 0 [] ls st h)) ∧
  (∀ (ls : zL) (st : zS) (h : zH), zx 219 1736 ls st h = zgo 219 (zpure .laload 1737 0 [] ls st h)) ∧
  (∀ (ls : zL) (st : zS) (h : zH), zx 219 1737 ls st h = zgo 219 (zpure (.iload 7) 1739 0 [] ls st h)) ∧
  (∀ (ls : zL) (st : zS) (h : zH), zx 219 1739 ls st h = zgo 219 (zpure .i2l 1740 0 [] ls st h)) ∧
  (∀ (ls : zL) (st : zS) (h : zH), zx 219 1740 ls st h = zgo 219 (zpure .lcmp 1741 0 [] ls st h)) ∧
  (∀ (ls : zL) (st : zS) (h : zH), zx 219 1741 ls st h = zgo 219 (zpure (.ifCond .eq 5) 1744 1746 [] ls st h)) ∧
  (∀ (ls : zL) (st : zS) (h : zH), zx 219 1744 ls st h = zgo 219 (zpure (.iconst 0) 1745 0 [] ls st h)) ∧
  (∀ (ls : zL) (st : zS) (h : zH), zx 219 1745 ls st h = zret 1 st h) ∧
  (∀ (ls : zL) (st : zS) (h : zH), zx 219 1746 ls st h = zgo 219 (zpure (.goto 522) 1749 2268 [] ls st h)) :=
  ⟨zx_0 rfl, zx_2c rfl, zx_0 rfl, zx_0 rfl, zx_0 rfl, zx_1 rfl, zx_0 rfl, zx_0 rfl, zx_0 rfl, zx_0 rfl, zx_0 rfl, zx_0 rfl, zx_0 rfl, zx_0 rfl, zx_0 rfl, zx_0 rfl, zx_1 rfl, zx_0 rfl⟩
set_option maxRecDepth 20000 in
theorem lA_25 {L : Nat} {xs : Nat → Int32} {H H1 : zH} {k I : Int} {x6 x7 x8 : Option Value} (hl : zl H 0 = L) (hm : ∀ n, n < L → zm H 0 n = .int (Int32.ofInt (xs n).toInt)) (hI : 0 ≤ I ∧ I + 6 ≤ (L : Int) ∧ (L : Int) ≤ 3072) (e : zc 210 5 [.ref 3, .int (Int32.ofInt (xs (I + 1).toNat).toInt), .int (Int32.ofInt (xs (I + 2).toNat).toInt), .ref 68] H = some (.inl (some (.int (Int32.ofInt k))), H1)) : zx 219 1681 [some (.ref 0), some (.ref 3), some (.ref 32), some (.ref 68), some (.ref 69), some (.int (Int32.ofInt I)), x6, x7, x8] [] H = zx 219 1700 [some (.ref 0), some (.ref 3), some (.ref 32), some (.ref 68), some (.ref 69), some (.int (Int32.ofInt I)), some (.int (Int32.ofInt k)), x7, x8] [] H1 := by
  simp (disch := omega) only [zentry, zs0, zs1, zs2, zs3, zg_lo, zg_st, zg_st2, zg_ald, zg_ast, zs_ia, zs_i0, zg_ii, zi_max, zi_min, zi_abi, zi_abf, zi_fb, zi_bf, lget, lst, lst2, lc2, Option.map_some, zso, if_true, if_false, zc1, and_true, true_and, and_self, List.length_nil, List.length_cons, Nat.zero_le, reduceIte, reduceCtorEq, false_and, and_false, Bool.false_eq_true, zca_some, zr0, zr100, Option.bind_some, zb_none, zb_some, zrc, or_true, true_or, eq_self, ne_eq, not_true_eq_false, not_false_eq_true, zrt_i, zrt_zb, zrt_b, zrt_c, zrt_l, zrt_f, zrt_r, zrt_n, zrt_v, zft_0, zft_1, zft_zb, zft_3, zft_4, zft_5, zft_7r, zft_7n, iI_t, zb_i, zb_0, zb_1, Nat.reduceAdd, Nat.reduceLeDiff, Nat.reduceEqDiff, Nat.reduceSub, Int.reduceNeg, iI_add, iI_sub, iI_mul, iI_neg, zbz, zin, if_pos, if_neg, Int.toNat_natCast, Int.natCast_zero, Int.reduceToNat, zt1, zt2, zt3, zt4, zt5, zt6, zt7, zt8, y219_25a, hl, hm, e]
set_option maxRecDepth 20000 in
theorem lB_25 {L : Nat} {xs : Nat → Int32} {H1 H2 : zH} {k I : Int} {x7 x8 : Option Value} {b : Int} (hl : zl H1 0 = L) (hm : ∀ n, n < L → zm H1 0 n = .int (Int32.ofInt (xs n).toInt)) (h32 : zk H1 32 = 6) (hI : 0 ≤ I ∧ I + 6 ≤ (L : Int) ∧ (L : Int) ≤ 3072) (e : zc 128 3 [.ref 32, .int (Int32.ofInt (xs (I + 1).toNat).toInt), .int (Int32.ofInt (xs (I + 2).toNat).toInt)] H1 = some (.inl (some (.int (Int32.ofInt b))), H2)) : zx 219 1700 [some (.ref 0), some (.ref 3), some (.ref 32), some (.ref 68), some (.ref 69), some (.int (Int32.ofInt I)), some (.int (Int32.ofInt k)), x7, x8] [] H1 = zx 219 1718 [some (.ref 0), some (.ref 3), some (.ref 32), some (.ref 68), some (.ref 69), some (.int (Int32.ofInt I)), some (.int (Int32.ofInt k)), some (.int (Int32.ofInt b)), x8] [] H2 := by
  simp (disch := omega) only [zentry, zs0, zs1, zs2, zs3, zg_lo, zg_st, zg_st2, zg_ald, zg_ast, zs_ia, zs_i0, zg_ii, zi_max, zi_min, zi_abi, zi_abf, zi_fb, zi_bf, lget, lst, lst2, lc2, Option.map_some, zso, if_true, if_false, zc1, and_true, true_and, and_self, List.length_nil, List.length_cons, Nat.zero_le, reduceIte, reduceCtorEq, false_and, and_false, Bool.false_eq_true, zca_some, zr0, zr100, Option.bind_some, zb_none, zb_some, zrc, or_true, true_or, eq_self, ne_eq, not_true_eq_false, not_false_eq_true, zrt_i, zrt_zb, zrt_b, zrt_c, zrt_l, zrt_f, zrt_r, zrt_n, zrt_v, zft_0, zft_1, zft_zb, zft_3, zft_4, zft_5, zft_7r, zft_7n, iI_t, zb_i, zb_0, zb_1, Nat.reduceAdd, Nat.reduceLeDiff, Nat.reduceEqDiff, Nat.reduceSub, Int.reduceNeg, iI_add, iI_sub, iI_mul, iI_neg, zbz, zin, if_pos, if_neg, Int.toNat_natCast, Int.natCast_zero, Int.reduceToNat, zt1, zt2, zt3, zt4, zt5, zt6, zt7, zt8, y219_25b, hl, hm, h32, e]
set_option maxRecDepth 20000 in
theorem lC_25 {H2 : zH} {k I : Int} {x8 : Option Value} {b v : Int} (h32 : zk H2 32 = 6) (e : zc 103 1 [.ref 32] H2 = some (.inl (some (.int (Int32.ofInt k))), H2)) (rk : iR k) (rb : iR b) (k68 : zk H2 68 = 24) (l68 : zl H2 68 = 1) (m68 : zm H2 68 0 = .long (Int64.ofInt v)) (hv : k = 0 → v = b) : zx 219 1718 [some (.ref 0), some (.ref 3), some (.ref 32), some (.ref 68), some (.ref 69), some (.int (Int32.ofInt I)), some (.int (Int32.ofInt k)), some (.int (Int32.ofInt b)), x8] [] H2 = zx 219 2268 [some (.ref 0), some (.ref 3), some (.ref 32), some (.ref 68), some (.ref 69), some (.int (Int32.ofInt I)), some (.int (Int32.ofInt k)), some (.int (Int32.ofInt b)), x8] [] H2 := by
  by_cases g : k = 0
  · subst g
    have hb : v = b := hv rfl
    simp (disch := omega) only [zentry, zs0, zs1, zs2, zs3, zg_lo, zg_st, zg_st2, zg_ald, zg_ast, zs_ia, zs_i0, zg_ii, zi_max, zi_min, zi_abi, zi_abf, zi_fb, zi_bf, lget, lst, lst2, lc2, Option.map_some, zso, if_true, if_false, zc1, and_true, true_and, and_self, List.length_nil, List.length_cons, Nat.zero_le, reduceIte, reduceCtorEq, false_and, and_false, Bool.false_eq_true, zca_some, zr0, zr100, Option.bind_some, zb_none, zb_some, zrc, or_true, true_or, eq_self, ne_eq, not_true_eq_false, not_false_eq_true, zrt_i, zrt_zb, zrt_b, zrt_c, zrt_l, zrt_f, zrt_r, zrt_n, zrt_v, zft_0, zft_1, zft_zb, zft_3, zft_4, zft_5, zft_7r, zft_7n, iI_t, zb_i, zb_0, zb_1, Nat.reduceAdd, Nat.reduceLeDiff, Nat.reduceEqDiff, Nat.reduceSub, Int.reduceNeg, iI_add, iI_sub, iI_mul, iI_neg, zbz, zin, if_pos, if_neg, Int.toNat_natCast, Int.natCast_zero, Int.reduceToNat, zt1, zt2, zt3, zt4, zt5, zt6, zt7, zt8, y219_25c, h32, e, k68, l68, m68, hb, zl_ii, lw_l1]
  · simp (disch := omega) only [zentry, zs0, zs1, zs2, zs3, zg_lo, zg_st, zg_st2, zg_ald, zg_ast, zs_ia, zs_i0, zg_ii, zi_max, zi_min, zi_abi, zi_abf, zi_fb, zi_bf, lget, lst, lst2, lc2, Option.map_some, zso, if_true, if_false, zc1, and_true, true_and, and_self, List.length_nil, List.length_cons, Nat.zero_le, reduceIte, reduceCtorEq, false_and, and_false, Bool.false_eq_true, zca_some, zr0, zr100, Option.bind_some, zb_none, zb_some, zrc, or_true, true_or, eq_self, ne_eq, not_true_eq_false, not_false_eq_true, zrt_i, zrt_zb, zrt_b, zrt_c, zrt_l, zrt_f, zrt_r, zrt_n, zrt_v, zft_0, zft_1, zft_zb, zft_3, zft_4, zft_5, zft_7r, zft_7n, iI_t, zb_i, zb_0, zb_1, Nat.reduceAdd, Nat.reduceLeDiff, Nat.reduceEqDiff, Nat.reduceSub, Int.reduceNeg, iI_add, iI_sub, iI_mul, iI_neg, zbz, zin, if_pos, if_neg, Int.toNat_natCast, Int.natCast_zero, Int.reduceToNat, zt1, zt2, zt3, zt4, zt5, zt6, zt7, zt8, y219_25c, h32, e, g]
set_option maxRecDepth 4000 in
theorem y219_26a :
  (∀ (ls : zL) (st : zS) (h : zH), zx 219 1749 ls st h = zgo 219 (zpure (.aload_n 1) 1750 0 [] ls st h)) ∧
  (∀ (ls : zL) (st : zS) (h : zH), zx 219 1750 ls st h = zgo 219 (zpure (.aload_n 0) 1751 0 [] ls st h)) ∧
  (∀ (ls : zL) (st : zS) (h : zH), zx 219 1751 ls st h = zgo 219 (zpure (.iload 5) 1753 0 [] ls st h)) ∧
  (∀ (ls : zL) (st : zS) (h : zH), zx 219 1753 ls st h = zgo 219 (zpure (.iconst 1) 1754 0 [] ls st h)) ∧
  (∀ (ls : zL) (st : zS) (h : zH), zx 219 1754 ls st h = zgo 219 (zpure .iadd 1755 0 [] ls st h)) ∧
  (∀ (ls : zL) (st : zS) (h : zH), zx 219 1755 ls st h = zgo 219 (zpure .iaload 1756 0 [] ls st h)) ∧
  (∀ (ls : zL) (st : zS) (h : zH), zx 219 1756 ls st h = zgo 219 (zpure (.aload_n 0) 1757 0 [] ls st h)) ∧
  (∀ (ls : zL) (st : zS) (h : zH), zx 219 1757 ls st h = zgo 219 (zpure (.iload 5) 1759 0 [] ls st h)) ∧
  (∀ (ls : zL) (st : zS) (h : zH), zx 219 1759 ls st h = zgo 219 (zpure (.iconst 2) 1760 0 [] ls st h)) ∧
  (∀ (ls : zL) (st : zS) (h : zH), zx 219 1760 ls st h = zgo 219 (zpure .iadd 1761 0 [] ls st h)) ∧
  (∀ (ls : zL) (st : zS) (h : zH), zx 219 1761 ls st h = zgo 219 (zpure .iaload 1762 0 [] ls st h)) ∧
  (∀ (ls : zL) (st : zS) (h : zH), zx 219 1762 ls st h = zgo 219 (zpure (.aload_n 3) 1763 0 [] ls st h)) ∧
  (∀ (ls : zL) (st : zS) (h : zH), zx 219 1763 ls st h = zca 219 1763 1766 ls 211 5 0 (ztake 4 st) h) ∧
  (∀ (ls : zL) (st : zS) (h : zH), zx 219 1766 ls st h = zgo 219 (zpure (.istore 6) 1768 0 [] ls st h)) :=
  ⟨zx_0 rfl, zx_0 rfl, zx_0 rfl, zx_0 rfl, zx_0 rfl, zx_0 rfl, zx_0 rfl, zx_0 rfl, zx_0 rfl, zx_0 rfl, zx_0 rfl, zx_0 rfl, zx_2c rfl, zx_0 rfl⟩
set_option maxRecDepth 4000 in
theorem y219_26b :
  (∀ (ls : zL) (st : zS) (h : zH), zx 219 1768 ls st h = zgo 219 (zpure (.aload_n 2) 1769 0 [] ls st h)) ∧
  (∀ (ls : zL) (st : zS) (h : zH), zx 219 1769 ls st h = zgo 219 (zpure (.aload_n 0) 1770 0 [] ls st h)) ∧
  (∀ (ls : zL) (st : zS) (h : zH), zx 219 1770 ls st h = zgo 219 (zpure (.iload 5) 1772 0 [] ls st h)) ∧
  (∀ (ls : zL) (st : zS) (h : zH), zx 219 1772 ls st h = zgo 219 (zpure (.iconst 1) 1773 0 [] ls st h)) ∧
  (∀ (ls : zL) (st : zS) (h : zH), zx 219 1773 ls st h = zgo 219 (zpure .iadd 1774 0 [] ls st h)) ∧
  (∀ (ls : zL) (st : zS) (h : zH), zx 219 1774 ls st h = zgo 219 (zpure .iaload 1775 0 [] ls st h)) ∧
  (∀ (ls : zL) (st : zS) (h : zH), zx 219 1775 ls st h = zgo 219 (zpure (.aload_n 0) 1776 0 [] ls st h)) ∧
  (∀ (ls : zL) (st : zS) (h : zH), zx 219 1776 ls st h = zgo 219 (zpure (.iload 5) 1778 0 [] ls st h)) ∧
  (∀ (ls : zL) (st : zS) (h : zH), zx 219 1778 ls st h = zgo 219 (zpure (.iconst 2) 1779 0 [] ls st h)) ∧
  (∀ (ls : zL) (st : zS) (h : zH), zx 219 1779 ls st h = zgo 219 (zpure .iadd 1780 0 [] ls st h)) ∧
  (∀ (ls : zL) (st : zS) (h : zH), zx 219 1780 ls st h = zgo 219 (zpure .iaload 1781 0 [] ls st h)) ∧
  (∀ (ls : zL) (st : zS) (h : zH), zx 219 1781 ls st h = zca 219 1781 1784 ls 129 3 7 (ztake 3 st) h) ∧
  (∀ (ls : zL) (st : zS) (h : zH), zx 219 1784 ls st h = zgo 219 (zpure (.istore 7) 1786 0 [] ls st h)) :=
  ⟨zx_0 rfl, zx_0 rfl, zx_0 rfl, zx_0 rfl, zx_0 rfl, zx_0 rfl, zx_0 rfl, zx_0 rfl, zx_0 rfl, zx_0 rfl, zx_0 rfl, zx_2c rfl, zx_0 rfl⟩
set_option maxRecDepth 4000 in
theorem y219_26c :
  (∀ (ls : zL) (st : zS) (h : zH), zx 219 1786 ls st h = zgo 219 (zpure (.aload_n 2) 1787 0 [] ls st h)) ∧
  (∀ (ls : zL) (st : zS) (h : zH), zx 219 1787 ls st h = zca 219 1787 1790 ls 103 1 7 (ztake 1 st) h) ∧
  (∀ (ls : zL) (st : zS) (h : zH), zx 219 1790 ls st h = zgo 219 (zpure (.iload 6) 1792 0 [] ls st h)) ∧
  (∀ (ls : zL) (st : zS) (h : zH), zx 219 1792 ls st h = zgo 219 (zpure (.if_icmp .eq 5) 1795 1797 [] ls st h)) ∧
  (∀ (ls : zL) (st : zS) (h : zH), zx 219 1795 ls st h = zgo 219 (zpure (.iconst 0) 1796 0 [] ls st h)) ∧
  (∀ (ls : zL) (st : zS) (h : zH), zx 219 1796 ls st h = zret 1 st h) ∧
  (∀ (ls : zL) (st : zS) (h : zH), zx 219 1797 ls st h = zgo 219 (zpure (.iload 6) 1799 0 [] ls st h)) ∧
  (∀ (ls : zL) (st : zS) (h : zH), zx 219 1799 ls st h = zgo 219 (zpure (.ifCond .ne 15) 1802 1814 [] ls st h)) ∧
  (∀ (ls : zL) (st : zS) (h : zH), zx 219 1802 ls st h = zgo 219 (zpure (.aload_n 3) 1803 0 [] ls st h)) ∧
  (∀ (ls : zL) (st : zS) (h : zH), zx 219 1803 ls st h = zgo 219 (zpure (.iconst 0) 1804 0 [] ls st h)) ∧
  (∀ (ls : zL) (st : zS) (h : zH), zx 219 1804 ls st h = zgo 219 (zpure .laload 1805 0 [] ls st h)) ∧
  (∀ (ls : zL) (st : zS) (h : zH), zx 219 1805 ls st h = zgo 219 (zpure (.iload 7) 1807 0 [] ls st h)) ∧
  (∀ (ls : zL) (st : zS) (h : zH), zx 219 1807 ls st h = zgo 219 (zpure .i2l 1808 0 [] ls st h)) ∧
  (∀ (ls : zL) (st : zS) (h : zH), zx 219 1808 ls st h = zgo 219 (zpure .lcmp 1809 0 [] ls st h)) ∧
  (∀ (ls : zL) (st : zS) (h : zH), zx 219 1809 ls st h = zgo 219 (zpure (.ifCond .eq 5) 1812 1814 [] ls st h)) ∧
  (∀ (ls : zL) (st : zS) (h : zH), zx 219 1812 ls st h = zgo 219 (zpure (.iconst 0) 1813 0 [] ls st h)) ∧
  (∀ (ls : zL) (st : zS) (h : zH), zx 219 1813 ls st h = zret 1 st h) ∧
  (∀ (ls : zL) (st : zS) (h : zH), zx 219 1814 ls st h = zgo 219 (zpure (.goto 454) 1817 2268 [] ls st h)) :=
  ⟨zx_0 rfl, zx_2c rfl, zx_0 rfl, zx_0 rfl, zx_0 rfl, zx_1 rfl, zx_0 rfl, zx_0 rfl, zx_0 rfl, zx_0 rfl, zx_0 rfl, zx_0 rfl, zx_0 rfl, zx_0 rfl, zx_0 rfl, zx_0 rfl, zx_1 rfl, zx_0 rfl⟩
set_option maxRecDepth 20000 in
theorem lA_26 {L : Nat} {xs : Nat → Int32} {H H1 : zH} {k I : Int} {x6 x7 x8 : Option Value} (hl : zl H 0 = L) (hm : ∀ n, n < L → zm H 0 n = .int (Int32.ofInt (xs n).toInt)) (hI : 0 ≤ I ∧ I + 6 ≤ (L : Int) ∧ (L : Int) ≤ 3072) (e : zc 211 5 [.ref 3, .int (Int32.ofInt (xs (I + 1).toNat).toInt), .int (Int32.ofInt (xs (I + 2).toNat).toInt), .ref 68] H = some (.inl (some (.int (Int32.ofInt k))), H1)) : zx 219 1749 [some (.ref 0), some (.ref 3), some (.ref 32), some (.ref 68), some (.ref 69), some (.int (Int32.ofInt I)), x6, x7, x8] [] H = zx 219 1768 [some (.ref 0), some (.ref 3), some (.ref 32), some (.ref 68), some (.ref 69), some (.int (Int32.ofInt I)), some (.int (Int32.ofInt k)), x7, x8] [] H1 := by
  simp (disch := omega) only [zentry, zs0, zs1, zs2, zs3, zg_lo, zg_st, zg_st2, zg_ald, zg_ast, zs_ia, zs_i0, zg_ii, zi_max, zi_min, zi_abi, zi_abf, zi_fb, zi_bf, lget, lst, lst2, lc2, Option.map_some, zso, if_true, if_false, zc1, and_true, true_and, and_self, List.length_nil, List.length_cons, Nat.zero_le, reduceIte, reduceCtorEq, false_and, and_false, Bool.false_eq_true, zca_some, zr0, zr100, Option.bind_some, zb_none, zb_some, zrc, or_true, true_or, eq_self, ne_eq, not_true_eq_false, not_false_eq_true, zrt_i, zrt_zb, zrt_b, zrt_c, zrt_l, zrt_f, zrt_r, zrt_n, zrt_v, zft_0, zft_1, zft_zb, zft_3, zft_4, zft_5, zft_7r, zft_7n, iI_t, zb_i, zb_0, zb_1, Nat.reduceAdd, Nat.reduceLeDiff, Nat.reduceEqDiff, Nat.reduceSub, Int.reduceNeg, iI_add, iI_sub, iI_mul, iI_neg, zbz, zin, if_pos, if_neg, Int.toNat_natCast, Int.natCast_zero, Int.reduceToNat, zt1, zt2, zt3, zt4, zt5, zt6, zt7, zt8, y219_26a, hl, hm, e]
set_option maxRecDepth 20000 in
theorem lB_26 {L : Nat} {xs : Nat → Int32} {H1 H2 : zH} {k I : Int} {x7 x8 : Option Value} {b : Int} (hl : zl H1 0 = L) (hm : ∀ n, n < L → zm H1 0 n = .int (Int32.ofInt (xs n).toInt)) (h32 : zk H1 32 = 6) (hI : 0 ≤ I ∧ I + 6 ≤ (L : Int) ∧ (L : Int) ≤ 3072) (e : zc 129 3 [.ref 32, .int (Int32.ofInt (xs (I + 1).toNat).toInt), .int (Int32.ofInt (xs (I + 2).toNat).toInt)] H1 = some (.inl (some (.int (Int32.ofInt b))), H2)) : zx 219 1768 [some (.ref 0), some (.ref 3), some (.ref 32), some (.ref 68), some (.ref 69), some (.int (Int32.ofInt I)), some (.int (Int32.ofInt k)), x7, x8] [] H1 = zx 219 1786 [some (.ref 0), some (.ref 3), some (.ref 32), some (.ref 68), some (.ref 69), some (.int (Int32.ofInt I)), some (.int (Int32.ofInt k)), some (.int (Int32.ofInt b)), x8] [] H2 := by
  simp (disch := omega) only [zentry, zs0, zs1, zs2, zs3, zg_lo, zg_st, zg_st2, zg_ald, zg_ast, zs_ia, zs_i0, zg_ii, zi_max, zi_min, zi_abi, zi_abf, zi_fb, zi_bf, lget, lst, lst2, lc2, Option.map_some, zso, if_true, if_false, zc1, and_true, true_and, and_self, List.length_nil, List.length_cons, Nat.zero_le, reduceIte, reduceCtorEq, false_and, and_false, Bool.false_eq_true, zca_some, zr0, zr100, Option.bind_some, zb_none, zb_some, zrc, or_true, true_or, eq_self, ne_eq, not_true_eq_false, not_false_eq_true, zrt_i, zrt_zb, zrt_b, zrt_c, zrt_l, zrt_f, zrt_r, zrt_n, zrt_v, zft_0, zft_1, zft_zb, zft_3, zft_4, zft_5, zft_7r, zft_7n, iI_t, zb_i, zb_0, zb_1, Nat.reduceAdd, Nat.reduceLeDiff, Nat.reduceEqDiff, Nat.reduceSub, Int.reduceNeg, iI_add, iI_sub, iI_mul, iI_neg, zbz, zin, if_pos, if_neg, Int.toNat_natCast, Int.natCast_zero, Int.reduceToNat, zt1, zt2, zt3, zt4, zt5, zt6, zt7, zt8, y219_26b, hl, hm, h32, e]
set_option maxRecDepth 20000 in
theorem lC_26 {H2 : zH} {k I : Int} {x8 : Option Value} {b v : Int} (h32 : zk H2 32 = 6) (e : zc 103 1 [.ref 32] H2 = some (.inl (some (.int (Int32.ofInt k))), H2)) (rk : iR k) (rb : iR b) (k68 : zk H2 68 = 24) (l68 : zl H2 68 = 1) (m68 : zm H2 68 0 = .long (Int64.ofInt v)) (hv : k = 0 → v = b) : zx 219 1786 [some (.ref 0), some (.ref 3), some (.ref 32), some (.ref 68), some (.ref 69), some (.int (Int32.ofInt I)), some (.int (Int32.ofInt k)), some (.int (Int32.ofInt b)), x8] [] H2 = zx 219 2268 [some (.ref 0), some (.ref 3), some (.ref 32), some (.ref 68), some (.ref 69), some (.int (Int32.ofInt I)), some (.int (Int32.ofInt k)), some (.int (Int32.ofInt b)), x8] [] H2 := by
  by_cases g : k = 0
  · subst g
    have hb : v = b := hv rfl
    simp (disch := omega) only [zentry, zs0, zs1, zs2, zs3, zg_lo, zg_st, zg_st2, zg_ald, zg_ast, zs_ia, zs_i0, zg_ii, zi_max, zi_min, zi_abi, zi_abf, zi_fb, zi_bf, lget, lst, lst2, lc2, Option.map_some, zso, if_true, if_false, zc1, and_true, true_and, and_self, List.length_nil, List.length_cons, Nat.zero_le, reduceIte, reduceCtorEq, false_and, and_false, Bool.false_eq_true, zca_some, zr0, zr100, Option.bind_some, zb_none, zb_some, zrc, or_true, true_or, eq_self, ne_eq, not_true_eq_false, not_false_eq_true, zrt_i, zrt_zb, zrt_b, zrt_c, zrt_l, zrt_f, zrt_r, zrt_n, zrt_v, zft_0, zft_1, zft_zb, zft_3, zft_4, zft_5, zft_7r, zft_7n, iI_t, zb_i, zb_0, zb_1, Nat.reduceAdd, Nat.reduceLeDiff, Nat.reduceEqDiff, Nat.reduceSub, Int.reduceNeg, iI_add, iI_sub, iI_mul, iI_neg, zbz, zin, if_pos, if_neg, Int.toNat_natCast, Int.natCast_zero, Int.reduceToNat, zt1, zt2, zt3, zt4, zt5, zt6, zt7, zt8, y219_26c, h32, e, k68, l68, m68, hb, zl_ii, lw_l1]
  · simp (disch := omega) only [zentry, zs0, zs1, zs2, zs3, zg_lo, zg_st, zg_st2, zg_ald, zg_ast, zs_ia, zs_i0, zg_ii, zi_max, zi_min, zi_abi, zi_abf, zi_fb, zi_bf, lget, lst, lst2, lc2, Option.map_some, zso, if_true, if_false, zc1, and_true, true_and, and_self, List.length_nil, List.length_cons, Nat.zero_le, reduceIte, reduceCtorEq, false_and, and_false, Bool.false_eq_true, zca_some, zr0, zr100, Option.bind_some, zb_none, zb_some, zrc, or_true, true_or, eq_self, ne_eq, not_true_eq_false, not_false_eq_true, zrt_i, zrt_zb, zrt_b, zrt_c, zrt_l, zrt_f, zrt_r, zrt_n, zrt_v, zft_0, zft_1, zft_zb, zft_3, zft_4, zft_5, zft_7r, zft_7n, iI_t, zb_i, zb_0, zb_1, Nat.reduceAdd, Nat.reduceLeDiff, Nat.reduceEqDiff, Nat.reduceSub, Int.reduceNeg, iI_add, iI_sub, iI_mul, iI_neg, zbz, zin, if_pos, if_neg, Int.toNat_natCast, Int.natCast_zero, Int.reduceToNat, zt1, zt2, zt3, zt4, zt5, zt6, zt7, zt8, y219_26c, h32, e, g]
set_option maxRecDepth 4000 in
theorem y219_27a :
  (∀ (ls : zL) (st : zS) (h : zH), zx 219 1817 ls st h = zgo 219 (zpure (.aload_n 1) 1818 0 [] ls st h)) ∧
  (∀ (ls : zL) (st : zS) (h : zH), zx 219 1818 ls st h = zgo 219 (zpure (.aload_n 0) 1819 0 [] ls st h)) ∧
  (∀ (ls : zL) (st : zS) (h : zH), zx 219 1819 ls st h = zgo 219 (zpure (.iload 5) 1821 0 [] ls st h)) ∧
  (∀ (ls : zL) (st : zS) (h : zH), zx 219 1821 ls st h = zgo 219 (zpure (.iconst 1) 1822 0 [] ls st h)) ∧
  (∀ (ls : zL) (st : zS) (h : zH), zx 219 1822 ls st h = zgo 219 (zpure .iadd 1823 0 [] ls st h)) ∧
  (∀ (ls : zL) (st : zS) (h : zH), zx 219 1823 ls st h = zgo 219 (zpure .iaload 1824 0 [] ls st h)) ∧
  (∀ (ls : zL) (st : zS) (h : zH), zx 219 1824 ls st h = zgo 219 (zpure (.aload_n 0) 1825 0 [] ls st h)) ∧
  (∀ (ls : zL) (st : zS) (h : zH), zx 219 1825 ls st h = zgo 219 (zpure (.iload 5) 1827 0 [] ls st h)) ∧
  (∀ (ls : zL) (st : zS) (h : zH), zx 219 1827 ls st h = zgo 219 (zpure (.iconst 2) 1828 0 [] ls st h)) ∧
  (∀ (ls : zL) (st : zS) (h : zH), zx 219 1828 ls st h = zgo 219 (zpure .iadd 1829 0 [] ls st h)) ∧
  (∀ (ls : zL) (st : zS) (h : zH), zx 219 1829 ls st h = zgo 219 (zpure .iaload 1830 0 [] ls st h)) ∧
  (∀ (ls : zL) (st : zS) (h : zH), zx 219 1830 ls st h = zgo 219 (zpure (.aload_n 0) 1831 0 [] ls st h)) ∧
  (∀ (ls : zL) (st : zS) (h : zH), zx 219 1831 ls st h = zgo 219 (zpure (.iload 5) 1833 0 [] ls st h)) ∧
  (∀ (ls : zL) (st : zS) (h : zH), zx 219 1833 ls st h = zgo 219 (zpure (.iconst 3) 1834 0 [] ls st h)) ∧
  (∀ (ls : zL) (st : zS) (h : zH), zx 219 1834 ls st h = zgo 219 (zpure .iadd 1835 0 [] ls st h)) ∧
  (∀ (ls : zL) (st : zS) (h : zH), zx 219 1835 ls st h = zgo 219 (zpure .iaload 1836 0 [] ls st h)) ∧
  (∀ (ls : zL) (st : zS) (h : zH), zx 219 1836 ls st h = zgo 219 (zpure (.aload_n 3) 1837 0 [] ls st h)) ∧
  (∀ (ls : zL) (st : zS) (h : zH), zx 219 1837 ls st h = zca 219 1837 1840 ls 212 6 0 (ztake 5 st) h) ∧
  (∀ (ls : zL) (st : zS) (h : zH), zx 219 1840 ls st h = zgo 219 (zpure (.istore 6) 1842 0 [] ls st h)) :=
  ⟨zx_0 rfl, zx_0 rfl, zx_0 rfl, zx_0 rfl, zx_0 rfl, zx_0 rfl, zx_0 rfl, zx_0 rfl, zx_0 rfl, zx_0 rfl, zx_0 rfl, zx_0 rfl, zx_0 rfl, zx_0 rfl, zx_0 rfl, zx_0 rfl, zx_0 rfl, zx_2c rfl, zx_0 rfl⟩
set_option maxRecDepth 4000 in
theorem y219_27b :
  (∀ (ls : zL) (st : zS) (h : zH), zx 219 1842 ls st h = zgo 219 (zpure (.aload_n 2) 1843 0 [] ls st h)) ∧
  (∀ (ls : zL) (st : zS) (h : zH), zx 219 1843 ls st h = zgo 219 (zpure (.aload_n 0) 1844 0 [] ls st h)) ∧
  (∀ (ls : zL) (st : zS) (h : zH), zx 219 1844 ls st h = zgo 219 (zpure (.iload 5) 1846 0 [] ls st h)) ∧
  (∀ (ls : zL) (st : zS) (h : zH), zx 219 1846 ls st h = zgo 219 (zpure (.iconst 1) 1847 0 [] ls st h)) ∧
  (∀ (ls : zL) (st : zS) (h : zH), zx 219 1847 ls st h = zgo 219 (zpure .iadd 1848 0 [] ls st h)) ∧
  (∀ (ls : zL) (st : zS) (h : zH), zx 219 1848 ls st h = zgo 219 (zpure .iaload 1849 0 [] ls st h)) ∧
  (∀ (ls : zL) (st : zS) (h : zH), zx 219 1849 ls st h = zgo 219 (zpure (.aload_n 0) 1850 0 [] ls st h)) ∧
  (∀ (ls : zL) (st : zS) (h : zH), zx 219 1850 ls st h = zgo 219 (zpure (.iload 5) 1852 0 [] ls st h)) ∧
  (∀ (ls : zL) (st : zS) (h : zH), zx 219 1852 ls st h = zgo 219 (zpure (.iconst 2) 1853 0 [] ls st h)) ∧
  (∀ (ls : zL) (st : zS) (h : zH), zx 219 1853 ls st h = zgo 219 (zpure .iadd 1854 0 [] ls st h)) ∧
  (∀ (ls : zL) (st : zS) (h : zH), zx 219 1854 ls st h = zgo 219 (zpure .iaload 1855 0 [] ls st h)) ∧
  (∀ (ls : zL) (st : zS) (h : zH), zx 219 1855 ls st h = zgo 219 (zpure (.aload_n 0) 1856 0 [] ls st h)) ∧
  (∀ (ls : zL) (st : zS) (h : zH), zx 219 1856 ls st h = zgo 219 (zpure (.iload 5) 1858 0 [] ls st h)) ∧
  (∀ (ls : zL) (st : zS) (h : zH), zx 219 1858 ls st h = zgo 219 (zpure (.iconst 3) 1859 0 [] ls st h)) ∧
  (∀ (ls : zL) (st : zS) (h : zH), zx 219 1859 ls st h = zgo 219 (zpure .iadd 1860 0 [] ls st h)) ∧
  (∀ (ls : zL) (st : zS) (h : zH), zx 219 1860 ls st h = zgo 219 (zpure .iaload 1861 0 [] ls st h)) ∧
  (∀ (ls : zL) (st : zS) (h : zH), zx 219 1861 ls st h = zca 219 1861 1864 ls 130 6 7 (ztake 4 st) h) ∧
  (∀ (ls : zL) (st : zS) (h : zH), zx 219 1864 ls st h = zgo 219 (zpure (.istore 7) 1866 0 [] ls st h)) :=
  ⟨zx_0 rfl, zx_0 rfl, zx_0 rfl, zx_0 rfl, zx_0 rfl, zx_0 rfl, zx_0 rfl, zx_0 rfl, zx_0 rfl, zx_0 rfl, zx_0 rfl, zx_0 rfl, zx_0 rfl, zx_0 rfl, zx_0 rfl, zx_0 rfl, zx_2c rfl, zx_0 rfl⟩
set_option maxRecDepth 4000 in
theorem y219_27c :
  (∀ (ls : zL) (st : zS) (h : zH), zx 219 1866 ls st h = zgo 219 (zpure (.aload_n 2) 1867 0 [] ls st h)) ∧
  (∀ (ls : zL) (st : zS) (h : zH), zx 219 1867 ls st h = zca 219 1867 1870 ls 103 1 7 (ztake 1 st) h) ∧
  (∀ (ls : zL) (st : zS) (h : zH), zx 219 1870 ls st h = zgo 219 (zpure (.iload 6) 1872 0 [] ls st h)) ∧
  (∀ (ls : zL) (st : zS) (h : zH), zx 219 1872 ls st h = zgo 219 (zpure (.if_icmp .eq 5) 1875 1877 [] ls st h)) ∧
  (∀ (ls : zL) (st : zS) (h : zH), zx 219 1875 ls st h = zgo 219 (zpure (.iconst 0) 1876 0 [] ls st h)) ∧
  (∀ (ls : zL) (st : zS) (h : zH), zx 219 1876 ls st h = zret 1 st h) ∧
  (∀ (ls : zL) (st : zS) (h : zH), zx 219 1877 ls st h = zgo 219 (zpure (.iload 6) 1879 0 [] ls st h)) ∧
  (∀ (ls : zL) (st : zS) (h : zH), zx 219 1879 ls st h = zgo 219 (zpure (.ifCond .ne 15) 1882 1894 [] ls st h)) ∧
  (∀ (ls : zL) (st : zS) (h : zH), zx 219 1882 ls st h = zgo 219 (zpure (.aload_n 3) 1883 0 [] ls st h)) ∧
  (∀ (ls : zL) (st : zS) (h : zH), zx 219 1883 ls st h = zgo 219 (zpure (.iconst 0) 1884 0 [] ls st h)) ∧
  (∀ (ls : zL) (st : zS) (h : zH), zx 219 1884 ls st h = zgo 219 (zpure .laload 1885 0 [] ls st h)) ∧
  (∀ (ls : zL) (st : zS) (h : zH), zx 219 1885 ls st h = zgo 219 (zpure (.iload 7) 1887 0 [] ls st h)) ∧
  (∀ (ls : zL) (st : zS) (h : zH), zx 219 1887 ls st h = zgo 219 (zpure .i2l 1888 0 [] ls st h)) ∧
  (∀ (ls : zL) (st : zS) (h : zH), zx 219 1888 ls st h = zgo 219 (zpure .lcmp 1889 0 [] ls st h)) ∧
  (∀ (ls : zL) (st : zS) (h : zH), zx 219 1889 ls st h = zgo 219 (zpure (.ifCond .eq 5) 1892 1894 [] ls st h)) ∧
  (∀ (ls : zL) (st : zS) (h : zH), zx 219 1892 ls st h = zgo 219 (zpure (.iconst 0) 1893 0 [] ls st h)) ∧
  (∀ (ls : zL) (st : zS) (h : zH), zx 219 1893 ls st h = zret 1 st h) ∧
  (∀ (ls : zL) (st : zS) (h : zH), zx 219 1894 ls st h = zgo 219 (zpure (.goto 374) 1897 2268 [] ls st h)) :=
  ⟨zx_0 rfl, zx_2c rfl, zx_0 rfl, zx_0 rfl, zx_0 rfl, zx_1 rfl, zx_0 rfl, zx_0 rfl, zx_0 rfl, zx_0 rfl, zx_0 rfl, zx_0 rfl, zx_0 rfl, zx_0 rfl, zx_0 rfl, zx_0 rfl, zx_1 rfl, zx_0 rfl⟩
set_option maxRecDepth 20000 in
theorem lA_27 {L : Nat} {xs : Nat → Int32} {H H1 : zH} {k I : Int} {x6 x7 x8 : Option Value} (hl : zl H 0 = L) (hm : ∀ n, n < L → zm H 0 n = .int (Int32.ofInt (xs n).toInt)) (hI : 0 ≤ I ∧ I + 6 ≤ (L : Int) ∧ (L : Int) ≤ 3072) (e : zc 212 6 [.ref 3, .int (Int32.ofInt (xs (I + 1).toNat).toInt), .int (Int32.ofInt (xs (I + 2).toNat).toInt), .int (Int32.ofInt (xs (I + 3).toNat).toInt), .ref 68] H = some (.inl (some (.int (Int32.ofInt k))), H1)) : zx 219 1817 [some (.ref 0), some (.ref 3), some (.ref 32), some (.ref 68), some (.ref 69), some (.int (Int32.ofInt I)), x6, x7, x8] [] H = zx 219 1842 [some (.ref 0), some (.ref 3), some (.ref 32), some (.ref 68), some (.ref 69), some (.int (Int32.ofInt I)), some (.int (Int32.ofInt k)), x7, x8] [] H1 := by
  simp (disch := omega) only [zentry, zs0, zs1, zs2, zs3, zg_lo, zg_st, zg_st2, zg_ald, zg_ast, zs_ia, zs_i0, zg_ii, zi_max, zi_min, zi_abi, zi_abf, zi_fb, zi_bf, lget, lst, lst2, lc2, Option.map_some, zso, if_true, if_false, zc1, and_true, true_and, and_self, List.length_nil, List.length_cons, Nat.zero_le, reduceIte, reduceCtorEq, false_and, and_false, Bool.false_eq_true, zca_some, zr0, zr100, Option.bind_some, zb_none, zb_some, zrc, or_true, true_or, eq_self, ne_eq, not_true_eq_false, not_false_eq_true, zrt_i, zrt_zb, zrt_b, zrt_c, zrt_l, zrt_f, zrt_r, zrt_n, zrt_v, zft_0, zft_1, zft_zb, zft_3, zft_4, zft_5, zft_7r, zft_7n, iI_t, zb_i, zb_0, zb_1, Nat.reduceAdd, Nat.reduceLeDiff, Nat.reduceEqDiff, Nat.reduceSub, Int.reduceNeg, iI_add, iI_sub, iI_mul, iI_neg, zbz, zin, if_pos, if_neg, Int.toNat_natCast, Int.natCast_zero, Int.reduceToNat, zt1, zt2, zt3, zt4, zt5, zt6, zt7, zt8, y219_27a, hl, hm, e]
set_option maxRecDepth 20000 in
theorem lB_27 {L : Nat} {xs : Nat → Int32} {H1 H2 : zH} {k I : Int} {x7 x8 : Option Value} {b : Int} (hl : zl H1 0 = L) (hm : ∀ n, n < L → zm H1 0 n = .int (Int32.ofInt (xs n).toInt)) (h32 : zk H1 32 = 6) (hI : 0 ≤ I ∧ I + 6 ≤ (L : Int) ∧ (L : Int) ≤ 3072) (e : zc 130 6 [.ref 32, .int (Int32.ofInt (xs (I + 1).toNat).toInt), .int (Int32.ofInt (xs (I + 2).toNat).toInt), .int (Int32.ofInt (xs (I + 3).toNat).toInt)] H1 = some (.inl (some (.int (Int32.ofInt b))), H2)) : zx 219 1842 [some (.ref 0), some (.ref 3), some (.ref 32), some (.ref 68), some (.ref 69), some (.int (Int32.ofInt I)), some (.int (Int32.ofInt k)), x7, x8] [] H1 = zx 219 1866 [some (.ref 0), some (.ref 3), some (.ref 32), some (.ref 68), some (.ref 69), some (.int (Int32.ofInt I)), some (.int (Int32.ofInt k)), some (.int (Int32.ofInt b)), x8] [] H2 := by
  simp (disch := omega) only [zentry, zs0, zs1, zs2, zs3, zg_lo, zg_st, zg_st2, zg_ald, zg_ast, zs_ia, zs_i0, zg_ii, zi_max, zi_min, zi_abi, zi_abf, zi_fb, zi_bf, lget, lst, lst2, lc2, Option.map_some, zso, if_true, if_false, zc1, and_true, true_and, and_self, List.length_nil, List.length_cons, Nat.zero_le, reduceIte, reduceCtorEq, false_and, and_false, Bool.false_eq_true, zca_some, zr0, zr100, Option.bind_some, zb_none, zb_some, zrc, or_true, true_or, eq_self, ne_eq, not_true_eq_false, not_false_eq_true, zrt_i, zrt_zb, zrt_b, zrt_c, zrt_l, zrt_f, zrt_r, zrt_n, zrt_v, zft_0, zft_1, zft_zb, zft_3, zft_4, zft_5, zft_7r, zft_7n, iI_t, zb_i, zb_0, zb_1, Nat.reduceAdd, Nat.reduceLeDiff, Nat.reduceEqDiff, Nat.reduceSub, Int.reduceNeg, iI_add, iI_sub, iI_mul, iI_neg, zbz, zin, if_pos, if_neg, Int.toNat_natCast, Int.natCast_zero, Int.reduceToNat, zt1, zt2, zt3, zt4, zt5, zt6, zt7, zt8, y219_27b, hl, hm, h32, e]
set_option maxRecDepth 20000 in
theorem lC_27 {H2 : zH} {k I : Int} {x8 : Option Value} {b v : Int} (h32 : zk H2 32 = 6) (e : zc 103 1 [.ref 32] H2 = some (.inl (some (.int (Int32.ofInt k))), H2)) (rk : iR k) (rb : iR b) (k68 : zk H2 68 = 24) (l68 : zl H2 68 = 1) (m68 : zm H2 68 0 = .long (Int64.ofInt v)) (hv : k = 0 → v = b) : zx 219 1866 [some (.ref 0), some (.ref 3), some (.ref 32), some (.ref 68), some (.ref 69), some (.int (Int32.ofInt I)), some (.int (Int32.ofInt k)), some (.int (Int32.ofInt b)), x8] [] H2 = zx 219 2268 [some (.ref 0), some (.ref 3), some (.ref 32), some (.ref 68), some (.ref 69), some (.int (Int32.ofInt I)), some (.int (Int32.ofInt k)), some (.int (Int32.ofInt b)), x8] [] H2 := by
  by_cases g : k = 0
  · subst g
    have hb : v = b := hv rfl
    simp (disch := omega) only [zentry, zs0, zs1, zs2, zs3, zg_lo, zg_st, zg_st2, zg_ald, zg_ast, zs_ia, zs_i0, zg_ii, zi_max, zi_min, zi_abi, zi_abf, zi_fb, zi_bf, lget, lst, lst2, lc2, Option.map_some, zso, if_true, if_false, zc1, and_true, true_and, and_self, List.length_nil, List.length_cons, Nat.zero_le, reduceIte, reduceCtorEq, false_and, and_false, Bool.false_eq_true, zca_some, zr0, zr100, Option.bind_some, zb_none, zb_some, zrc, or_true, true_or, eq_self, ne_eq, not_true_eq_false, not_false_eq_true, zrt_i, zrt_zb, zrt_b, zrt_c, zrt_l, zrt_f, zrt_r, zrt_n, zrt_v, zft_0, zft_1, zft_zb, zft_3, zft_4, zft_5, zft_7r, zft_7n, iI_t, zb_i, zb_0, zb_1, Nat.reduceAdd, Nat.reduceLeDiff, Nat.reduceEqDiff, Nat.reduceSub, Int.reduceNeg, iI_add, iI_sub, iI_mul, iI_neg, zbz, zin, if_pos, if_neg, Int.toNat_natCast, Int.natCast_zero, Int.reduceToNat, zt1, zt2, zt3, zt4, zt5, zt6, zt7, zt8, y219_27c, h32, e, k68, l68, m68, hb, zl_ii, lw_l1]
  · simp (disch := omega) only [zentry, zs0, zs1, zs2, zs3, zg_lo, zg_st, zg_st2, zg_ald, zg_ast, zs_ia, zs_i0, zg_ii, zi_max, zi_min, zi_abi, zi_abf, zi_fb, zi_bf, lget, lst, lst2, lc2, Option.map_some, zso, if_true, if_false, zc1, and_true, true_and, and_self, List.length_nil, List.length_cons, Nat.zero_le, reduceIte, reduceCtorEq, false_and, and_false, Bool.false_eq_true, zca_some, zr0, zr100, Option.bind_some, zb_none, zb_some, zrc, or_true, true_or, eq_self, ne_eq, not_true_eq_false, not_false_eq_true, zrt_i, zrt_zb, zrt_b, zrt_c, zrt_l, zrt_f, zrt_r, zrt_n, zrt_v, zft_0, zft_1, zft_zb, zft_3, zft_4, zft_5, zft_7r, zft_7n, iI_t, zb_i, zb_0, zb_1, Nat.reduceAdd, Nat.reduceLeDiff, Nat.reduceEqDiff, Nat.reduceSub, Int.reduceNeg, iI_add, iI_sub, iI_mul, iI_neg, zbz, zin, if_pos, if_neg, Int.toNat_natCast, Int.natCast_zero, Int.reduceToNat, zt1, zt2, zt3, zt4, zt5, zt6, zt7, zt8, y219_27c, h32, e, g]
set_option maxRecDepth 4000 in
theorem y219_28a :
  (∀ (ls : zL) (st : zS) (h : zH), zx 219 1897 ls st h = zgo 219 (zpure (.aload_n 1) 1898 0 [] ls st h)) ∧
  (∀ (ls : zL) (st : zS) (h : zH), zx 219 1898 ls st h = zgo 219 (zpure (.aload_n 0) 1899 0 [] ls st h)) ∧
  (∀ (ls : zL) (st : zS) (h : zH), zx 219 1899 ls st h = zgo 219 (zpure (.iload 5) 1901 0 [] ls st h)) ∧
  (∀ (ls : zL) (st : zS) (h : zH), zx 219 1901 ls st h = zgo 219 (zpure (.iconst 1) 1902 0 [] ls st h)) ∧
  (∀ (ls : zL) (st : zS) (h : zH), zx 219 1902 ls st h = zgo 219 (zpure .iadd 1903 0 [] ls st h)) ∧
  (∀ (ls : zL) (st : zS) (h : zH), zx 219 1903 ls st h = zgo 219 (zpure .iaload 1904 0 [] ls st h)) ∧
  (∀ (ls : zL) (st : zS) (h : zH), zx 219 1904 ls st h = zgo 219 (zpure (.aload_n 0) 1905 0 [] ls st h)) ∧
  (∀ (ls : zL) (st : zS) (h : zH), zx 219 1905 ls st h = zgo 219 (zpure (.iload 5) 1907 0 [] ls st h)) ∧
  (∀ (ls : zL) (st : zS) (h : zH), zx 219 1907 ls st h = zgo 219 (zpure (.iconst 2) 1908 0 [] ls st h)) ∧
  (∀ (ls : zL) (st : zS) (h : zH), zx 219 1908 ls st h = zgo 219 (zpure .iadd 1909 0 [] ls st h)) ∧
  (∀ (ls : zL) (st : zS) (h : zH), zx 219 1909 ls st h = zgo 219 (zpure .iaload 1910 0 [] ls st h)) ∧
  (∀ (ls : zL) (st : zS) (h : zH), zx 219 1910 ls st h = zgo 219 (zpure (.aload 4) 1912 0 [] ls st h)) ∧
  (∀ (ls : zL) (st : zS) (h : zH), zx 219 1912 ls st h = zca 219 1912 1915 ls 213 5 0 (ztake 4 st) h) ∧
  (∀ (ls : zL) (st : zS) (h : zH), zx 219 1915 ls st h = zgo 219 (zpure (.istore 6) 1917 0 [] ls st h)) :=
  ⟨zx_0 rfl, zx_0 rfl, zx_0 rfl, zx_0 rfl, zx_0 rfl, zx_0 rfl, zx_0 rfl, zx_0 rfl, zx_0 rfl, zx_0 rfl, zx_0 rfl, zx_0 rfl, zx_2c rfl, zx_0 rfl⟩
set_option maxRecDepth 4000 in
theorem y219_28b :
  (∀ (ls : zL) (st : zS) (h : zH), zx 219 1917 ls st h = zgo 219 (zpure (.aload_n 2) 1918 0 [] ls st h)) ∧
  (∀ (ls : zL) (st : zS) (h : zH), zx 219 1918 ls st h = zgo 219 (zpure (.aload_n 0) 1919 0 [] ls st h)) ∧
  (∀ (ls : zL) (st : zS) (h : zH), zx 219 1919 ls st h = zgo 219 (zpure (.iload 5) 1921 0 [] ls st h)) ∧
  (∀ (ls : zL) (st : zS) (h : zH), zx 219 1921 ls st h = zgo 219 (zpure (.iconst 1) 1922 0 [] ls st h)) ∧
  (∀ (ls : zL) (st : zS) (h : zH), zx 219 1922 ls st h = zgo 219 (zpure .iadd 1923 0 [] ls st h)) ∧
  (∀ (ls : zL) (st : zS) (h : zH), zx 219 1923 ls st h = zgo 219 (zpure .iaload 1924 0 [] ls st h)) ∧
  (∀ (ls : zL) (st : zS) (h : zH), zx 219 1924 ls st h = zgo 219 (zpure (.aload_n 0) 1925 0 [] ls st h)) ∧
  (∀ (ls : zL) (st : zS) (h : zH), zx 219 1925 ls st h = zgo 219 (zpure (.iload 5) 1927 0 [] ls st h)) ∧
  (∀ (ls : zL) (st : zS) (h : zH), zx 219 1927 ls st h = zgo 219 (zpure (.iconst 2) 1928 0 [] ls st h)) ∧
  (∀ (ls : zL) (st : zS) (h : zH), zx 219 1928 ls st h = zgo 219 (zpure .iadd 1929 0 [] ls st h)) ∧
  (∀ (ls : zL) (st : zS) (h : zH), zx 219 1929 ls st h = zgo 219 (zpure .iaload 1930 0 [] ls st h)) ∧
  (∀ (ls : zL) (st : zS) (h : zH), zx 219 1930 ls st h = zca 219 1930 1933 ls 131 3 7 (ztake 3 st) h) ∧
  (∀ (ls : zL) (st : zS) (h : zH), zx 219 1933 ls st h = zgo 219 (zpure (.fstore 7) 1935 0 [] ls st h)) :=
  ⟨zx_0 rfl, zx_0 rfl, zx_0 rfl, zx_0 rfl, zx_0 rfl, zx_0 rfl, zx_0 rfl, zx_0 rfl, zx_0 rfl, zx_0 rfl, zx_0 rfl, zx_2c rfl, zx_0 rfl⟩
set_option maxRecDepth 4000 in
theorem y219_28c :
  (∀ (ls : zL) (st : zS) (h : zH), zx 219 1935 ls st h = zgo 219 (zpure (.aload_n 2) 1936 0 [] ls st h)) ∧
  (∀ (ls : zL) (st : zS) (h : zH), zx 219 1936 ls st h = zca 219 1936 1939 ls 103 1 7 (ztake 1 st) h) ∧
  (∀ (ls : zL) (st : zS) (h : zH), zx 219 1939 ls st h = zgo 219 (zpure (.iload 6) 1941 0 [] ls st h)) ∧
  (∀ (ls : zL) (st : zS) (h : zH), zx 219 1941 ls st h = zgo 219 (zpure (.if_icmp .eq 5) 1944 1946 [] ls st h)) ∧
  (∀ (ls : zL) (st : zS) (h : zH), zx 219 1944 ls st h = zgo 219 (zpure (.iconst 0) 1945 0 [] ls st h)) ∧
  (∀ (ls : zL) (st : zS) (h : zH), zx 219 1945 ls st h = zret 1 st h) ∧
  (∀ (ls : zL) (st : zS) (h : zH), zx 219 1946 ls st h = zgo 219 (zpure (.iload 6) 1948 0 [] ls st h)) ∧
  (∀ (ls : zL) (st : zS) (h : zH), zx 219 1948 ls st h = zgo 219 (zpure (.ifCond .ne 36) 1951 1984 [] ls st h)) ∧
  (∀ (ls : zL) (st : zS) (h : zH), zx 219 1951 ls st h = zgo 219 (zpure (.aload 4) 1953 0 [] ls st h)) ∧
  (∀ (ls : zL) (st : zS) (h : zH), zx 219 1953 ls st h = zgo 219 (zpure (.iconst 0) 1954 0 [] ls st h)) ∧
  (∀ (ls : zL) (st : zS) (h : zH), zx 219 1954 ls st h = zgo 219 (zpure .daload 1955 0 [] ls st h)) ∧
  (∀ (ls : zL) (st : zS) (h : zH), zx 219 1955 ls st h = zgo 219 (zpure (.fload 7) 1957 0 [] ls st h)) ∧
  (∀ (ls : zL) (st : zS) (h : zH), zx 219 1957 ls st h = zgo 219 (zpure .f2d 1958 0 [] ls st h)) ∧
  (∀ (ls : zL) (st : zS) (h : zH), zx 219 1958 ls st h = zgo 219 (zpure (.dcmp .l) 1959 0 [] ls st h)) ∧
  (∀ (ls : zL) (st : zS) (h : zH), zx 219 1959 ls st h = zgo 219 (zpure (.ifCond .eq 25) 1962 1984 [] ls st h)) ∧
  (∀ (ls : zL) (st : zS) (h : zH), zx 219 1962 ls st h = zgo 219 (zpure (.aload 4) 1964 0 [] ls st h)) ∧
  (∀ (ls : zL) (st : zS) (h : zH), zx 219 1964 ls st h = zgo 219 (zpure (.iconst 0) 1965 0 [] ls st h)) ∧
  (∀ (ls : zL) (st : zS) (h : zH), zx 219 1965 ls st h = zgo 219 (zpure .daload 1966 0 [] ls st h)) ∧
  (∀ (ls : zL) (st : zS) (h : zH), zx 219 1966 ls st h = zgo 219 (zpure (.aload 4) 1968 0 [] ls st h)) ∧
  (∀ (ls : zL) (st : zS) (h : zH), zx 219 1968 ls st h = zgo 219 (zpure (.iconst 0) 1969 0 [] ls st h)) ∧
  (∀ (ls : zL) (st : zS) (h : zH), zx 219 1969 ls st h = zgo 219 (zpure .daload 1970 0 [] ls st h)) ∧
  (∀ (ls : zL) (st : zS) (h : zH), zx 219 1970 ls st h = zgo 219 (zpure (.dcmp .l) 1971 0 [] ls st h)) ∧
  (∀ (ls : zL) (st : zS) (h : zH), zx 219 1971 ls st h = zgo 219 (zpure (.ifCond .eq 11) 1974 1982 [] ls st h)) ∧
  (∀ (ls : zL) (st : zS) (h : zH), zx 219 1974 ls st h = zgo 219 (zpure (.fload 7) 1976 0 [] ls st h)) ∧
  (∀ (ls : zL) (st : zS) (h : zH), zx 219 1976 ls st h = zgo 219 (zpure (.fload 7) 1978 0 [] ls st h)) ∧
  (∀ (ls : zL) (st : zS) (h : zH), zx 219 1978 ls st h = zgo 219 (zpure (.fcmp .l) 1979 0 [] ls st h)) ∧
  (∀ (ls : zL) (st : zS) (h : zH), zx 219 1979 ls st h = zgo 219 (zpure (.ifCond .ne 5) 1982 1984 [] ls st h)) ∧
  (∀ (ls : zL) (st : zS) (h : zH), zx 219 1982 ls st h = zgo 219 (zpure (.iconst 0) 1983 0 [] ls st h)) ∧
  (∀ (ls : zL) (st : zS) (h : zH), zx 219 1983 ls st h = zret 1 st h) ∧
  (∀ (ls : zL) (st : zS) (h : zH), zx 219 1984 ls st h = zgo 219 (zpure (.goto 284) 1987 2268 [] ls st h)) :=
  ⟨zx_0 rfl, zx_2c rfl, zx_0 rfl, zx_0 rfl, zx_0 rfl, zx_1 rfl, zx_0 rfl, zx_0 rfl, zx_0 rfl, zx_0 rfl, zx_0 rfl, zx_0 rfl, zx_0 rfl, zx_0 rfl, zx_0 rfl, zx_0 rfl, zx_0 rfl, zx_0 rfl, zx_0 rfl, zx_0 rfl, zx_0 rfl, zx_0 rfl, zx_0 rfl, zx_0 rfl, zx_0 rfl, zx_0 rfl, zx_0 rfl, zx_0 rfl, zx_1 rfl, zx_0 rfl⟩
set_option maxRecDepth 20000 in
theorem lA_28 {L : Nat} {xs : Nat → Int32} {H H1 : zH} {k I : Int} {x6 x7 x8 : Option Value} (hl : zl H 0 = L) (hm : ∀ n, n < L → zm H 0 n = .int (Int32.ofInt (xs n).toInt)) (hI : 0 ≤ I ∧ I + 6 ≤ (L : Int) ∧ (L : Int) ≤ 3072) (e : zc 213 5 [.ref 3, .int (Int32.ofInt (xs (I + 1).toNat).toInt), .int (Int32.ofInt (xs (I + 2).toNat).toInt), .ref 69] H = some (.inl (some (.int (Int32.ofInt k))), H1)) : zx 219 1897 [some (.ref 0), some (.ref 3), some (.ref 32), some (.ref 68), some (.ref 69), some (.int (Int32.ofInt I)), x6, x7, x8] [] H = zx 219 1917 [some (.ref 0), some (.ref 3), some (.ref 32), some (.ref 68), some (.ref 69), some (.int (Int32.ofInt I)), some (.int (Int32.ofInt k)), x7, x8] [] H1 := by
  simp (disch := omega) only [zentry, zs0, zs1, zs2, zs3, zg_lo, zg_st, zg_st2, zg_ald, zg_ast, zs_ia, zs_i0, zg_ii, zi_max, zi_min, zi_abi, zi_abf, zi_fb, zi_bf, lget, lst, lst2, lc2, Option.map_some, zso, if_true, if_false, zc1, and_true, true_and, and_self, List.length_nil, List.length_cons, Nat.zero_le, reduceIte, reduceCtorEq, false_and, and_false, Bool.false_eq_true, zca_some, zr0, zr100, Option.bind_some, zb_none, zb_some, zrc, or_true, true_or, eq_self, ne_eq, not_true_eq_false, not_false_eq_true, zrt_i, zrt_zb, zrt_b, zrt_c, zrt_l, zrt_f, zrt_r, zrt_n, zrt_v, zft_0, zft_1, zft_zb, zft_3, zft_4, zft_5, zft_7r, zft_7n, iI_t, zb_i, zb_0, zb_1, Nat.reduceAdd, Nat.reduceLeDiff, Nat.reduceEqDiff, Nat.reduceSub, Int.reduceNeg, iI_add, iI_sub, iI_mul, iI_neg, zbz, zin, if_pos, if_neg, Int.toNat_natCast, Int.natCast_zero, Int.reduceToNat, zt1, zt2, zt3, zt4, zt5, zt6, zt7, zt8, y219_28a, hl, hm, e]
set_option maxRecDepth 20000 in
theorem lB_28 {L : Nat} {xs : Nat → Int32} {H1 H2 : zH} {k I : Int} {x7 x8 : Option Value} {f : UInt32} (hl : zl H1 0 = L) (hm : ∀ n, n < L → zm H1 0 n = .int (Int32.ofInt (xs n).toInt)) (h32 : zk H1 32 = 6) (hI : 0 ≤ I ∧ I + 6 ≤ (L : Int) ∧ (L : Int) ≤ 3072) (e : zc 131 3 [.ref 32, .int (Int32.ofInt (xs (I + 1).toNat).toInt), .int (Int32.ofInt (xs (I + 2).toNat).toInt)] H1 = some (.inl (some (.float f)), H2)) : zx 219 1917 [some (.ref 0), some (.ref 3), some (.ref 32), some (.ref 68), some (.ref 69), some (.int (Int32.ofInt I)), some (.int (Int32.ofInt k)), x7, x8] [] H1 = zx 219 1935 [some (.ref 0), some (.ref 3), some (.ref 32), some (.ref 68), some (.ref 69), some (.int (Int32.ofInt I)), some (.int (Int32.ofInt k)), some (.float f), x8] [] H2 := by
  simp (disch := omega) only [zentry, zs0, zs1, zs2, zs3, zg_lo, zg_st, zg_st2, zg_ald, zg_ast, zs_ia, zs_i0, zg_ii, zi_max, zi_min, zi_abi, zi_abf, zi_fb, zi_bf, lget, lst, lst2, lc2, Option.map_some, zso, if_true, if_false, zc1, and_true, true_and, and_self, List.length_nil, List.length_cons, Nat.zero_le, reduceIte, reduceCtorEq, false_and, and_false, Bool.false_eq_true, zca_some, zr0, zr100, Option.bind_some, zb_none, zb_some, zrc, or_true, true_or, eq_self, ne_eq, not_true_eq_false, not_false_eq_true, zrt_i, zrt_zb, zrt_b, zrt_c, zrt_l, zrt_f, zrt_r, zrt_n, zrt_v, zft_0, zft_1, zft_zb, zft_3, zft_4, zft_5, zft_7r, zft_7n, iI_t, zb_i, zb_0, zb_1, Nat.reduceAdd, Nat.reduceLeDiff, Nat.reduceEqDiff, Nat.reduceSub, Int.reduceNeg, iI_add, iI_sub, iI_mul, iI_neg, zbz, zin, if_pos, if_neg, Int.toNat_natCast, Int.natCast_zero, Int.reduceToNat, zt1, zt2, zt3, zt4, zt5, zt6, zt7, zt8, y219_28b, hl, hm, h32, e]
set_option maxRecDepth 20000 in
theorem lC_28 {H2 : zH} {k I : Int} {x8 : Option Value} {f : UInt32} {d : UInt64} (h32 : zk H2 32 = 6) (e : zc 103 1 [.ref 32] H2 = some (.inl (some (.int (Int32.ofInt k))), H2)) (rk : iR k) (k68 : zk H2 69 = 25) (l68 : zl H2 69 = 1) (m68 : zm H2 69 0 = .double d) (hv : k = 0 → FP.Core.fIsNaN f = false ∧ FP.dcmp d (FP.f2d f) = some .eq) : zx 219 1935 [some (.ref 0), some (.ref 3), some (.ref 32), some (.ref 68), some (.ref 69), some (.int (Int32.ofInt I)), some (.int (Int32.ofInt k)), some (.float f), x8] [] H2 = zx 219 2268 [some (.ref 0), some (.ref 3), some (.ref 32), some (.ref 68), some (.ref 69), some (.int (Int32.ofInt I)), some (.int (Int32.ofInt k)), some (.float f), x8] [] H2 := by
  by_cases g : k = 0
  · subst g
    have n64 := (fl_d2 (hv rfl).1).1
    have dc := (hv rfl).2
    simp (disch := omega) only [zentry, zs0, zs1, zs2, zs3, zg_lo, zg_st, zg_st2, zg_ald, zg_ast, zs_ia, zs_i0, zg_ii, zi_max, zi_min, zi_abi, zi_abf, zi_fb, zi_bf, lget, lst, lst2, lc2, Option.map_some, zso, if_true, if_false, zc1, and_true, true_and, and_self, List.length_nil, List.length_cons, Nat.zero_le, reduceIte, reduceCtorEq, false_and, and_false, Bool.false_eq_true, zca_some, zr0, zr100, Option.bind_some, zb_none, zb_some, zrc, or_true, true_or, eq_self, ne_eq, not_true_eq_false, not_false_eq_true, zrt_i, zrt_zb, zrt_b, zrt_c, zrt_l, zrt_f, zrt_r, zrt_n, zrt_v, zft_0, zft_1, zft_zb, zft_3, zft_4, zft_5, zft_7r, zft_7n, iI_t, zb_i, zb_0, zb_1, Nat.reduceAdd, Nat.reduceLeDiff, Nat.reduceEqDiff, Nat.reduceSub, Int.reduceNeg, iI_add, iI_sub, iI_mul, iI_neg, zbz, zin, if_pos, if_neg, Int.toNat_natCast, Int.natCast_zero, Int.reduceToNat, zt1, zt2, zt3, zt4, zt5, zt6, zt7, zt8, y219_28c, h32, e, k68, l68, m68, n64, dc, lw_c0]
  · simp (disch := omega) only [zentry, zs0, zs1, zs2, zs3, zg_lo, zg_st, zg_st2, zg_ald, zg_ast, zs_ia, zs_i0, zg_ii, zi_max, zi_min, zi_abi, zi_abf, zi_fb, zi_bf, lget, lst, lst2, lc2, Option.map_some, zso, if_true, if_false, zc1, and_true, true_and, and_self, List.length_nil, List.length_cons, Nat.zero_le, reduceIte, reduceCtorEq, false_and, and_false, Bool.false_eq_true, zca_some, zr0, zr100, Option.bind_some, zb_none, zb_some, zrc, or_true, true_or, eq_self, ne_eq, not_true_eq_false, not_false_eq_true, zrt_i, zrt_zb, zrt_b, zrt_c, zrt_l, zrt_f, zrt_r, zrt_n, zrt_v, zft_0, zft_1, zft_zb, zft_3, zft_4, zft_5, zft_7r, zft_7n, iI_t, zb_i, zb_0, zb_1, Nat.reduceAdd, Nat.reduceLeDiff, Nat.reduceEqDiff, Nat.reduceSub, Int.reduceNeg, iI_add, iI_sub, iI_mul, iI_neg, zbz, zin, if_pos, if_neg, Int.toNat_natCast, Int.natCast_zero, Int.reduceToNat, zt1, zt2, zt3, zt4, zt5, zt6, zt7, zt8, y219_28c, h32, e, g]
set_option maxRecDepth 4000 in
theorem y219_29a :
  (∀ (ls : zL) (st : zS) (h : zH), zx 219 1987 ls st h = zgo 219 (zpure (.aload_n 1) 1988 0 [] ls st h)) ∧
  (∀ (ls : zL) (st : zS) (h : zH), zx 219 1988 ls st h = zgo 219 (zpure (.aload_n 3) 1989 0 [] ls st h)) ∧
  (∀ (ls : zL) (st : zS) (h : zH), zx 219 1989 ls st h = zca 219 1989 1992 ls 214 3 0 (ztake 2 st) h) ∧
  (∀ (ls : zL) (st : zS) (h : zH), zx 219 1992 ls st h = zgo 219 (zpure (.istore 6) 1994 0 [] ls st h)) :=
  ⟨zx_0 rfl, zx_0 rfl, zx_2c rfl, zx_0 rfl⟩
set_option maxRecDepth 4000 in
theorem y219_29b :
  (∀ (ls : zL) (st : zS) (h : zH), zx 219 1994 ls st h = zgo 219 (zpure (.aload_n 2) 1995 0 [] ls st h)) ∧
  (∀ (ls : zL) (st : zS) (h : zH), zx 219 1995 ls st h = zca 219 1995 1998 ls 157 2 7 (ztake 1 st) h) ∧
  (∀ (ls : zL) (st : zS) (h : zH), zx 219 1998 ls st h = zgo 219 (zpure (.istore 7) 2000 0 [] ls st h)) :=
  ⟨zx_0 rfl, zx_2c rfl, zx_0 rfl⟩
set_option maxRecDepth 4000 in
theorem y219_29c :
  (∀ (ls : zL) (st : zS) (h : zH), zx 219 2000 ls st h = zgo 219 (zpure (.aload_n 2) 2001 0 [] ls st h)) ∧
  (∀ (ls : zL) (st : zS) (h : zH), zx 219 2001 ls st h = zca 219 2001 2004 ls 103 1 7 (ztake 1 st) h) ∧
  (∀ (ls : zL) (st : zS) (h : zH), zx 219 2004 ls st h = zgo 219 (zpure (.iload 6) 2006 0 [] ls st h)) ∧
  (∀ (ls : zL) (st : zS) (h : zH), zx 219 2006 ls st h = zgo 219 (zpure (.if_icmp .eq 5) 2009 2011 [] ls st h)) ∧
  (∀ (ls : zL) (st : zS) (h : zH), zx 219 2009 ls st h = zgo 219 (zpure (.iconst 0) 2010 0 [] ls st h)) ∧
  (∀ (ls : zL) (st : zS) (h : zH), zx 219 2010 ls st h = zret 1 st h) ∧
  (∀ (ls : zL) (st : zS) (h : zH), zx 219 2011 ls st h = zgo 219 (zpure (.iload 6) 2013 0 [] ls st h)) ∧
  (∀ (ls : zL) (st : zS) (h : zH), zx 219 2013 ls st h = zgo 219 (zpure (.ifCond .ne 15) 2016 2028 [] ls st h)) ∧
  (∀ (ls : zL) (st : zS) (h : zH), zx 219 2016 ls st h = zgo 219 (zpure (.aload_n 3) 2017 0 [] ls st h)) ∧
  (∀ (ls : zL) (st : zS) (h : zH), zx 219 2017 ls st h = zgo 219 (zpure (.iconst 0) 2018 0 [] ls st h)) ∧
  (∀ (ls : zL) (st : zS) (h : zH), zx 219 2018 ls st h = zgo 219 (zpure .laload 2019 0 [] ls st h)) ∧
  (∀ (ls : zL) (st : zS) (h : zH), zx 219 2019 ls st h = zgo 219 (zpure (.iload 7) 2021 0 [] ls st h)) ∧
  (∀ (ls : zL) (st : zS) (h : zH), zx 219 2021 ls st h = zgo 219 (zpure .i2l 2022 0 [] ls st h)) ∧
  (∀ (ls : zL) (st : zS) (h : zH), zx 219 2022 ls st h = zgo 219 (zpure .lcmp 2023 0 [] ls st h)) ∧
  (∀ (ls : zL) (st : zS) (h : zH), zx 219 2023 ls st h = zgo 219 (zpure (.ifCond .eq 5) 2026 2028 [] ls st h)) ∧
  (∀ (ls : zL) (st : zS) (h : zH), zx 219 2026 ls st h = zgo 219 (zpure (.iconst 0) 2027 0 [] ls st h)) ∧
  (∀ (ls : zL) (st : zS) (h : zH), zx 219 2027 ls st h = zret 1 st h) ∧
  (∀ (ls : zL) (st : zS) (h : zH), zx 219 2028 ls st h = zgo 219 (zpure (.goto 240) 2031 2268 [] ls st h)) :=
  ⟨zx_0 rfl, zx_2c rfl, zx_0 rfl, zx_0 rfl, zx_0 rfl, zx_1 rfl, zx_0 rfl, zx_0 rfl, zx_0 rfl, zx_0 rfl, zx_0 rfl, zx_0 rfl, zx_0 rfl, zx_0 rfl, zx_0 rfl, zx_0 rfl, zx_1 rfl, zx_0 rfl⟩
set_option maxRecDepth 20000 in
theorem lA_29 {L : Nat} {xs : Nat → Int32} {H H1 : zH} {k I : Int} {x6 x7 x8 : Option Value} (hl : zl H 0 = L) (hm : ∀ n, n < L → zm H 0 n = .int (Int32.ofInt (xs n).toInt)) (hI : 0 ≤ I ∧ I + 6 ≤ (L : Int) ∧ (L : Int) ≤ 3072) (e : zc 214 3 [.ref 3, .ref 68] H = some (.inl (some (.int (Int32.ofInt k))), H1)) : zx 219 1987 [some (.ref 0), some (.ref 3), some (.ref 32), some (.ref 68), some (.ref 69), some (.int (Int32.ofInt I)), x6, x7, x8] [] H = zx 219 1994 [some (.ref 0), some (.ref 3), some (.ref 32), some (.ref 68), some (.ref 69), some (.int (Int32.ofInt I)), some (.int (Int32.ofInt k)), x7, x8] [] H1 := by
  simp (disch := omega) only [zentry, zs0, zs1, zs2, zs3, zg_lo, zg_st, zg_st2, zg_ald, zg_ast, zs_ia, zs_i0, zg_ii, zi_max, zi_min, zi_abi, zi_abf, zi_fb, zi_bf, lget, lst, lst2, lc2, Option.map_some, zso, if_true, if_false, zc1, and_true, true_and, and_self, List.length_nil, List.length_cons, Nat.zero_le, reduceIte, reduceCtorEq, false_and, and_false, Bool.false_eq_true, zca_some, zr0, zr100, Option.bind_some, zb_none, zb_some, zrc, or_true, true_or, eq_self, ne_eq, not_true_eq_false, not_false_eq_true, zrt_i, zrt_zb, zrt_b, zrt_c, zrt_l, zrt_f, zrt_r, zrt_n, zrt_v, zft_0, zft_1, zft_zb, zft_3, zft_4, zft_5, zft_7r, zft_7n, iI_t, zb_i, zb_0, zb_1, Nat.reduceAdd, Nat.reduceLeDiff, Nat.reduceEqDiff, Nat.reduceSub, Int.reduceNeg, iI_add, iI_sub, iI_mul, iI_neg, zbz, zin, if_pos, if_neg, Int.toNat_natCast, Int.natCast_zero, Int.reduceToNat, zt1, zt2, zt3, zt4, zt5, zt6, zt7, zt8, y219_29a, hl, hm, e]
set_option maxRecDepth 20000 in
theorem lB_29 {L : Nat} {xs : Nat → Int32} {H1 H2 : zH} {k I : Int} {x7 x8 : Option Value} {b : Int} (hl : zl H1 0 = L) (hm : ∀ n, n < L → zm H1 0 n = .int (Int32.ofInt (xs n).toInt)) (h32 : zk H1 32 = 6) (hI : 0 ≤ I ∧ I + 6 ≤ (L : Int) ∧ (L : Int) ≤ 3072) (e : zc 157 2 [.ref 32] H1 = some (.inl (some (.int (Int32.ofInt b))), H2)) : zx 219 1994 [some (.ref 0), some (.ref 3), some (.ref 32), some (.ref 68), some (.ref 69), some (.int (Int32.ofInt I)), some (.int (Int32.ofInt k)), x7, x8] [] H1 = zx 219 2000 [some (.ref 0), some (.ref 3), some (.ref 32), some (.ref 68), some (.ref 69), some (.int (Int32.ofInt I)), some (.int (Int32.ofInt k)), some (.int (Int32.ofInt b)), x8] [] H2 := by
  simp (disch := omega) only [zentry, zs0, zs1, zs2, zs3, zg_lo, zg_st, zg_st2, zg_ald, zg_ast, zs_ia, zs_i0, zg_ii, zi_max, zi_min, zi_abi, zi_abf, zi_fb, zi_bf, lget, lst, lst2, lc2, Option.map_some, zso, if_true, if_false, zc1, and_true, true_and, and_self, List.length_nil, List.length_cons, Nat.zero_le, reduceIte, reduceCtorEq, false_and, and_false, Bool.false_eq_true, zca_some, zr0, zr100, Option.bind_some, zb_none, zb_some, zrc, or_true, true_or, eq_self, ne_eq, not_true_eq_false, not_false_eq_true, zrt_i, zrt_zb, zrt_b, zrt_c, zrt_l, zrt_f, zrt_r, zrt_n, zrt_v, zft_0, zft_1, zft_zb, zft_3, zft_4, zft_5, zft_7r, zft_7n, iI_t, zb_i, zb_0, zb_1, Nat.reduceAdd, Nat.reduceLeDiff, Nat.reduceEqDiff, Nat.reduceSub, Int.reduceNeg, iI_add, iI_sub, iI_mul, iI_neg, zbz, zin, if_pos, if_neg, Int.toNat_natCast, Int.natCast_zero, Int.reduceToNat, zt1, zt2, zt3, zt4, zt5, zt6, zt7, zt8, y219_29b, hl, hm, h32, e]
set_option maxRecDepth 20000 in
theorem lC_29 {H2 : zH} {k I : Int} {x8 : Option Value} {b v : Int} (h32 : zk H2 32 = 6) (e : zc 103 1 [.ref 32] H2 = some (.inl (some (.int (Int32.ofInt k))), H2)) (rk : iR k) (rb : iR b) (k68 : zk H2 68 = 24) (l68 : zl H2 68 = 1) (m68 : zm H2 68 0 = .long (Int64.ofInt v)) (hv : k = 0 → v = b) : zx 219 2000 [some (.ref 0), some (.ref 3), some (.ref 32), some (.ref 68), some (.ref 69), some (.int (Int32.ofInt I)), some (.int (Int32.ofInt k)), some (.int (Int32.ofInt b)), x8] [] H2 = zx 219 2268 [some (.ref 0), some (.ref 3), some (.ref 32), some (.ref 68), some (.ref 69), some (.int (Int32.ofInt I)), some (.int (Int32.ofInt k)), some (.int (Int32.ofInt b)), x8] [] H2 := by
  by_cases g : k = 0
  · subst g
    have hb : v = b := hv rfl
    simp (disch := omega) only [zentry, zs0, zs1, zs2, zs3, zg_lo, zg_st, zg_st2, zg_ald, zg_ast, zs_ia, zs_i0, zg_ii, zi_max, zi_min, zi_abi, zi_abf, zi_fb, zi_bf, lget, lst, lst2, lc2, Option.map_some, zso, if_true, if_false, zc1, and_true, true_and, and_self, List.length_nil, List.length_cons, Nat.zero_le, reduceIte, reduceCtorEq, false_and, and_false, Bool.false_eq_true, zca_some, zr0, zr100, Option.bind_some, zb_none, zb_some, zrc, or_true, true_or, eq_self, ne_eq, not_true_eq_false, not_false_eq_true, zrt_i, zrt_zb, zrt_b, zrt_c, zrt_l, zrt_f, zrt_r, zrt_n, zrt_v, zft_0, zft_1, zft_zb, zft_3, zft_4, zft_5, zft_7r, zft_7n, iI_t, zb_i, zb_0, zb_1, Nat.reduceAdd, Nat.reduceLeDiff, Nat.reduceEqDiff, Nat.reduceSub, Int.reduceNeg, iI_add, iI_sub, iI_mul, iI_neg, zbz, zin, if_pos, if_neg, Int.toNat_natCast, Int.natCast_zero, Int.reduceToNat, zt1, zt2, zt3, zt4, zt5, zt6, zt7, zt8, y219_29c, h32, e, k68, l68, m68, hb, zl_ii, lw_l1]
  · simp (disch := omega) only [zentry, zs0, zs1, zs2, zs3, zg_lo, zg_st, zg_st2, zg_ald, zg_ast, zs_ia, zs_i0, zg_ii, zi_max, zi_min, zi_abi, zi_abf, zi_fb, zi_bf, lget, lst, lst2, lc2, Option.map_some, zso, if_true, if_false, zc1, and_true, true_and, and_self, List.length_nil, List.length_cons, Nat.zero_le, reduceIte, reduceCtorEq, false_and, and_false, Bool.false_eq_true, zca_some, zr0, zr100, Option.bind_some, zb_none, zb_some, zrc, or_true, true_or, eq_self, ne_eq, not_true_eq_false, not_false_eq_true, zrt_i, zrt_zb, zrt_b, zrt_c, zrt_l, zrt_f, zrt_r, zrt_n, zrt_v, zft_0, zft_1, zft_zb, zft_3, zft_4, zft_5, zft_7r, zft_7n, iI_t, zb_i, zb_0, zb_1, Nat.reduceAdd, Nat.reduceLeDiff, Nat.reduceEqDiff, Nat.reduceSub, Int.reduceNeg, iI_add, iI_sub, iI_mul, iI_neg, zbz, zin, if_pos, if_neg, Int.toNat_natCast, Int.natCast_zero, Int.reduceToNat, zt1, zt2, zt3, zt4, zt5, zt6, zt7, zt8, y219_29c, h32, e, g]

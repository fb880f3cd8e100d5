/-! the law, case by case (a program has written them) -/
set_option maxRecDepth 4000 in
theorem y219_6a :
  (∀ (ls : zL) (st : zS) (h : zH), zx 219 674 ls st h = zgo 219 (zpure (.aload_n 1) 675 0 [] ls st h)) ∧
  (∀ (ls : zL) (st : zS) (h : zH), zx 219 675 ls st h = zgo 219 (zpure (.aload_n 0) 676 0 [] ls st h)) ∧
  (∀ (ls : zL) (st : zS) (h : zH), zx 219 676 ls st h = zgo 219 (zpure (.iload 5) 678 0 [] ls st h)) ∧
  (∀ (ls : zL) (st : zS) (h : zH), zx 219 678 ls st h = zgo 219 (zpure (.iconst 1) 679 0 [] ls st h)) ∧
  (∀ (ls : zL) (st : zS) (h : zH), zx 219 679 ls st h = zgo 219 (zpure .iadd 680 0 [] ls st h)) ∧
  (∀ (ls : zL) (st : zS) (h : zH), zx 219 680 ls st h = zgo 219 (zpure .iaload 681 0 [] ls st h)) ∧
  (∀ (ls : zL) (st : zS) (h : zH), zx 219 681 ls st h = zgo 219 (zpure (.aload_n 0) 682 0 [] ls st h)) ∧
  (∀ (ls : zL) (st : zS) (h : zH), zx 219 682 ls st h = zgo 219 (zpure (.iload 5) 684 0 [] ls st h)) ∧
  (∀ (ls : zL) (st : zS) (h : zH), zx 219 684 ls st h = zgo 219 (zpure (.iconst 2) 685 0 [] ls st h)) ∧
  (∀ (ls : zL) (st : zS) (h : zH), zx 219 685 ls st h = zgo 219 (zpure .iadd 686 0 [] ls st h)) ∧
  (∀ (ls : zL) (st : zS) (h : zH), zx 219 686 ls st h = zgo 219 (zpure .iaload 687 0 [] ls st h)) ∧
  (∀ (ls : zL) (st : zS) (h : zH), zx 219 687 ls st h = zgo 219 (zpure (.aload_n 3) 688 0 [] ls st h)) ∧
  (∀ (ls : zL) (st : zS) (h : zH), zx 219 688 ls st h = zca 219 688 691 ls 194 5 0 (ztake 4 st) h) ∧
  (∀ (ls : zL) (st : zS) (h : zH), zx 219 691 ls st h = zgo 219 (zpure (.istore 6) 693 0 [] ls st h)) :=
  ⟨zx_0 rfl, zx_0 rfl, zx_0 rfl, zx_0 rfl, zx_0 rfl, zx_0 rfl, zx_0 rfl, zx_0 rfl, zx_0 rfl, zx_0 rfl, zx_0 rfl, zx_0 rfl, zx_2c rfl, zx_0 rfl⟩
set_option maxRecDepth 4000 in
theorem y219_6b :
  (∀ (ls : zL) (st : zS) (h : zH), zx 219 693 ls st h = zgo 219 (zpure (.aload_n 2) 694 0 [] ls st h)) ∧
  (∀ (ls : zL) (st : zS) (h : zH), zx 219 694 ls st h = zgo 219 (zpure (.aload_n 0) 695 0 [] ls st h)) ∧
  (∀ (ls : zL) (st : zS) (h : zH), zx 219 695 ls st h = zgo 219 (zpure (.iload 5) 697 0 [] ls st h)) ∧
  (∀ (ls : zL) (st : zS) (h : zH), zx 219 697 ls st h = zgo 219 (zpure (.iconst 1) 698 0 [] ls st h)) ∧
  (∀ (ls : zL) (st : zS) (h : zH), zx 219 698 ls st h = zgo 219 (zpure .iadd 699 0 [] ls st h)) ∧
  (∀ (ls : zL) (st : zS) (h : zH), zx 219 699 ls st h = zgo 219 (zpure .iaload 700 0 [] ls st h)) ∧
  (∀ (ls : zL) (st : zS) (h : zH), zx 219 700 ls st h = zgo 219 (zpure (.aload_n 0) 701 0 [] ls st h)) ∧
  (∀ (ls : zL) (st : zS) (h : zH), zx 219 701 ls st h = zgo 219 (zpure (.iload 5) 703 0 [] ls st h)) ∧
  (∀ (ls : zL) (st : zS) (h : zH), zx 219 703 ls st h = zgo 219 (zpure (.iconst 2) 704 0 [] ls st h)) ∧
  (∀ (ls : zL) (st : zS) (h : zH), zx 219 704 ls st h = zgo 219 (zpure .iadd 705 0 [] ls st h)) ∧
  (∀ (ls : zL) (st : zS) (h : zH), zx 219 705 ls st h = zgo 219 (zpure .iaload 706 0 [] ls st h)) ∧
  (∀ (ls : zL) (st : zS) (h : zH), zx 219 706 ls st h = zca 219 706 709 ls 117 7 7 (ztake 3 st) h) ∧
  (∀ (ls : zL) (st : zS) (h : zH), zx 219 709 ls st h = zgo 219 (zpure (.istore 7) 711 0 [] ls st h)) :=
  ⟨zx_0 rfl, zx_0 rfl, zx_0 rfl, zx_0 rfl, zx_0 rfl, zx_0 rfl, zx_0 rfl, zx_0 rfl, zx_0 rfl, zx_0 rfl, zx_0 rfl, zx_2c rfl, zx_0 rfl⟩
set_option maxRecDepth 4000 in
theorem y219_6c :
  (∀ (ls : zL) (st : zS) (h : zH), zx 219 711 ls st h = zgo 219 (zpure (.aload_n 2) 712 0 [] ls st h)) ∧
  (∀ (ls : zL) (st : zS) (h : zH), zx 219 712 ls st h = zca 219 712 715 ls 103 1 7 (ztake 1 st) h) ∧
  (∀ (ls : zL) (st : zS) (h : zH), zx 219 715 ls st h = zgo 219 (zpure (.iload 6) 717 0 [] ls st h)) ∧
  (∀ (ls : zL) (st : zS) (h : zH), zx 219 717 ls st h = zgo 219 (zpure (.if_icmp .eq 5) 720 722 [] ls st h)) ∧
  (∀ (ls : zL) (st : zS) (h : zH), zx 219 720 ls st h = zgo 219 (zpure (.iconst 0) 721 0 [] ls st h)) ∧
  (∀ (ls : zL) (st : zS) (h : zH), zx 219 721 ls st h = zret 1 st h) ∧
  (∀ (ls : zL) (st : zS) (h : zH), zx 219 722 ls st h = zgo 219 (zpure (.iload 6) 724 0 [] ls st h)) ∧
  (∀ (ls : zL) (st : zS) (h : zH), zx 219 724 ls st h = zgo 219 (zpure (.ifCond .ne 15) 727 739 [] ls st h)) ∧
  (∀ (ls : zL) (st : zS) (h : zH), zx 219 727 ls st h = zgo 219 (zpure (.aload_n 3) 728 0 [] ls st h)) ∧
  (∀ (ls : zL) (st : zS) (h : zH), zx 219 728 ls st h = zgo 219 (zpure (.iconst 0) 729 0 [] ls st h)) ∧
  (∀ (ls : zL) (st : zS) (h : zH), zx 219 729 ls st h = zgo 219 (zpure .laload 730 0 [] ls st h)) ∧
  (∀ (ls : zL) (st : zS) (h : zH), zx 219 730 ls st h = zgo 219 (zpure (.iload 7) 732 0 [] ls st h)) ∧
  (∀ (ls : zL) (st : zS) (h : zH), zx 219 732 ls st h = zgo 219 (zpure .i2l 733 0 [] ls st h)) ∧
  (∀ (ls : zL) (st : zS) (h : zH), zx 219 733 ls st h = zgo 219 (zpure .lcmp 734 0 [] ls st h)) ∧
  (∀ (ls : zL) (st : zS) (h : zH), zx 219 734 ls st h = zgo 219 (zpure (.ifCond .eq 5) 737 739 [] ls st h)) ∧
  (∀ (ls : zL) (st : zS) (h : zH), zx 219 737 ls st h = zgo 219 (zpure (.iconst 0) 738 0 [] ls st h)) ∧
  (∀ (ls : zL) (st : zS) (h : zH), zx 219 738 ls st h = zret 1 st h) ∧
  (∀ (ls : zL) (st : zS) (h : zH), zx 219 739 ls st h = zgo 219 (zpure (.goto 1529) 742 2268 [] ls st h)) :=
  ⟨zx_0 rfl, zx_2c rfl, zx_0 rfl, zx_0 rfl, zx_0 rfl, zx_1 rfl, zx_0 rfl, zx_0 rfl, zx_0 rfl, zx_0 rfl, zx_0 rfl, zx_0 rfl, zx_0 rfl, zx_0 rfl, zx_0 rfl, zx_0 rfl, zx_1 rfl, zx_0 rfl⟩
set_option maxRecDepth 20000 in
theorem lA_6 {L : Nat} {xs : Nat → Int32} {H H1 : zH} {k I : Int} {x6 x7 x8 : Option Value} (hl : zl H 0 = L) (hm : ∀ n, n < L → zm H 0 n = .int (Int32.ofInt (xs n).toInt)) (hI : 0 ≤ I ∧ I + 6 ≤ (L : Int) ∧ (L : Int) ≤ 3072) (e : zc 194 5 [.ref 3, .int (Int32.ofInt (xs (I + 1).toNat).toInt), .int (Int32.ofInt (xs (I + 2).toNat).toInt), .ref 68] H = some (.inl (some (.int (Int32.ofInt k))), H1)) : zx 219 674 [some (.ref 0), some (.ref 3), some (.ref 32), some (.ref 68), some (.ref 69), some (.int (Int32.ofInt I)), x6, x7, x8] [] H = zx 219 693 [some (.ref 0), some (.ref 3), some (.ref 32), some (.ref 68), some (.ref 69), some (.int (Int32.ofInt I)), some (.int (Int32.ofInt k)), x7, x8] [] H1 := by
  simp (disch := omega) only [zentry, zs0, zs1, zs2, zs3, zg_lo, zg_st, zg_st2, zg_ald, zg_ast, zs_ia, zs_i0, zg_ii, zi_max, zi_min, zi_abi, zi_abf, zi_fb, zi_bf, lget, lst, lst2, lc2, Option.map_some, zso, if_true, if_false, zc1, and_true, true_and, and_self, List.length_nil, List.length_cons, Nat.zero_le, reduceIte, reduceCtorEq, false_and, and_false, Bool.false_eq_true, zca_some, zr0, zr100, Option.bind_some, zb_none, zb_some, zrc, or_true, true_or, eq_self, ne_eq, not_true_eq_false, not_false_eq_true, zrt_i, zrt_zb, zrt_b, zrt_c, zrt_l, zrt_f, zrt_r, zrt_n, zrt_v, zft_0, zft_1, zft_zb, zft_3, zft_4, zft_5, zft_7r, zft_7n, iI_t, zb_i, zb_0, zb_1, Nat.reduceAdd, Nat.reduceLeDiff, Nat.reduceEqDiff, Nat.reduceSub, Int.reduceNeg, iI_add, iI_sub, iI_mul, iI_neg, zbz, zin, if_pos, if_neg, Int.toNat_natCast, Int.natCast_zero, Int.reduceToNat, zt1, zt2, zt3, zt4, zt5, zt6, zt7, zt8, y219_6a, hl, hm, e]
set_option maxRecDepth 20000 in
theorem lB_6 {L : Nat} {xs : Nat → Int32} {H1 H2 : zH} {k I : Int} {x7 x8 : Option Value} {b : Int} (hl : zl H1 0 = L) (hm : ∀ n, n < L → zm H1 0 n = .int (Int32.ofInt (xs n).toInt)) (h32 : zk H1 32 = 6) (hI : 0 ≤ I ∧ I + 6 ≤ (L : Int) ∧ (L : Int) ≤ 3072) (e : zc 117 7 [.ref 32, .int (Int32.ofInt (xs (I + 1).toNat).toInt), .int (Int32.ofInt (xs (I + 2).toNat).toInt)] H1 = some (.inl (some (.int (Int32.ofInt b))), H2)) : zx 219 693 [some (.ref 0), some (.ref 3), some (.ref 32), some (.ref 68), some (.ref 69), some (.int (Int32.ofInt I)), some (.int (Int32.ofInt k)), x7, x8] [] H1 = zx 219 711 [some (.ref 0), some (.ref 3), some (.ref 32), some (.ref 68), some (.ref 69), some (.int (Int32.ofInt I)), some (.int (Int32.ofInt k)), some (.int (Int32.ofInt b)), x8] [] H2 := by
  simp (disch := omega) only [zentry, zs0, zs1, zs2, zs3, zg_lo, zg_st, zg_st2, zg_ald, zg_ast, zs_ia, zs_i0, zg_ii, zi_max, zi_min, zi_abi, zi_abf, zi_fb, zi_bf, lget, lst, lst2, lc2, Option.map_some, zso, if_true, if_false, zc1, and_true, true_and, and_self, List.length_nil, List.length_cons, Nat.zero_le, reduceIte, reduceCtorEq, false_and, and_false, Bool.false_eq_true, zca_some, zr0, zr100, Option.bind_some, zb_none, zb_some, zrc, or_true, true_or, eq_self, ne_eq, not_true_eq_false, not_false_eq_true, zrt_i, zrt_zb, zrt_b, zrt_c, zrt_l, zrt_f, zrt_r, zrt_n, zrt_v, zft_0, zft_1, zft_zb, zft_3, zft_4, zft_5, zft_7r, zft_7n, iI_t, zb_i, zb_0, zb_1, Nat.reduceAdd, Nat.reduceLeDiff, Nat.reduceEqDiff, Nat.reduceSub, Int.reduceNeg, iI_add, iI_sub, iI_mul, iI_neg, zbz, zin, if_pos, if_neg, Int.toNat_natCast, Int.natCast_zero, Int.reduceToNat, zt1, zt2, zt3, zt4, zt5, zt6, zt7, zt8, y219_6b, hl, hm, h32, e]
set_option maxRecDepth 20000 in
theorem lC_6 {H2 : zH} {k I : Int} {x8 : Option Value} {b v : Int} (h32 : zk H2 32 = 6) (e : zc 103 1 [.ref 32] H2 = some (.inl (some (.int (Int32.ofInt k))), H2)) (rk : iR k) (rb : iR b) (k68 : zk H2 68 = 24) (l68 : zl H2 68 = 1) (m68 : zm H2 68 0 = .long (Int64.ofInt v)) (hv : k = 0 → v = b) : zx 219 711 [some (.ref 0), some (.ref 3), some (.ref 32), some (.ref 68), some (.ref 69), some (.int (Int32.ofInt I)), some (.int (Int32.ofInt k)), some (.int (Int32.ofInt b)), x8] [] H2 = zx 219 2268 [some (.ref 0), some (.ref 3), some (.ref 32), some (.ref 68), some (.ref 69), some (.int (Int32.ofInt I)), some (.int (Int32.ofInt k)), some (.int (Int32.ofInt b)), x8] [] H2 := by
  by_cases g : k = 0
  · subst g
    have hb : v = b := hv rfl
    simp (disch := omega) only [zentry, zs0, zs1, zs2, zs3, zg_lo, zg_st, zg_st2, zg_ald, zg_ast, zs_ia, zs_i0, zg_ii, zi_max, zi_min, zi_abi, zi_abf, zi_fb, zi_bf, lget, lst, lst2, lc2, Option.map_some, zso, if_true, if_false, zc1, and_true, true_and, and_self, List.length_nil, List.length_cons, Nat.zero_le, reduceIte, reduceCtorEq, false_and, and_false, Bool.false_eq_true, zca_some, zr0, zr100, Option.bind_some, zb_none, zb_some, zrc, or_true, true_or, eq_self, ne_eq, not_true_eq_false, not_false_eq_true, zrt_i, zrt_zb, zrt_b, zrt_c, zrt_l, zrt_f, zrt_r, zrt_n, zrt_v, zft_0, zft_1, zft_zb, zft_3, zft_4, zft_5, zft_7r, zft_7n, iI_t, zb_i, zb_0, zb_1, Nat.reduceAdd, Nat.reduceLeDiff, Nat.reduceEqDiff, Nat.reduceSub, Int.reduceNeg, iI_add, iI_sub, iI_mul, iI_neg, zbz, zin, if_pos, if_neg, Int.toNat_natCast, Int.natCast_zero, Int.reduceToNat, zt1, zt2, zt3, zt4, zt5, zt6, zt7, zt8, y219_6c, h32, e, k68, l68, m68, hb, zl_ii, lw_l1]
  · simp (disch := omega) only [zentry, zs0, zs1, zs2, zs3, zg_lo, zg_st, zg_st2, zg_ald, zg_ast, zs_ia, zs_i0, zg_ii, zi_max, zi_min, zi_abi, zi_abf, zi_fb, zi_bf, lget, lst, lst2, lc2, Option.map_some, zso, if_true, if_false, zc1, and_true, true_and, and_self, List.length_nil, List.length_cons, Nat.zero_le, reduceIte, reduceCtorEq, false_and, and_false, Bool.false_eq_true, zca_some, zr0, zr100, Option.bind_some, zb_none, zb_some, zrc, or_true, true_or, eq_self, ne_eq, not_true_eq_false, not_false_eq_true, zrt_i, zrt_zb, zrt_b, zrt_c, zrt_l, zrt_f, zrt_r, zrt_n, zrt_v, zft_0, zft_1, zft_zb, zft_3, zft_4, zft_5, zft_7r, zft_7n, iI_t, zb_i, zb_0, zb_1, Nat.reduceAdd, Nat.reduceLeDiff, Nat.reduceEqDiff, Nat.reduceSub, Int.reduceNeg, iI_add, iI_sub, iI_mul, iI_neg, zbz, zin, if_pos, if_neg, Int.toNat_natCast, Int.natCast_zero, Int.reduceToNat, zt1, zt2, zt3, zt4, zt5, zt6, zt7, zt8, y219_6c, h32, e, g]
set_option maxRecDepth 4000 in
theorem y219_7a :
  (∀ (ls : zL) (st : zS) (h : zH), zx 219 742 ls st h = zgo 219 (zpure (.aload_n 1) 743 0 [] ls st h)) ∧
  (∀ (ls : zL) (st : zS) (h : zH), zx 219 743 ls st h = zgo 219 (zpure (.aload_n 0) 744 0 [] ls st h)) ∧
  (∀ (ls : zL) (st : zS) (h : zH), zx 219 744 ls st h = zgo 219 (zpure (.iload 5) 746 0 [] ls st h)) ∧
  (∀ (ls : zL) (st : zS) (h : zH), zx 219 746 ls st h = zgo 219 (zpure (.iconst 1) 747 0 [] ls st h)) ∧
  (∀ (ls : zL) (st : zS) (h : zH), zx 219 747 ls st h = zgo 219 (zpure .iadd 748 0 [] ls st h)) ∧
  (∀ (ls : zL) (st : zS) (h : zH), zx 219 748 ls st h = zgo 219 (zpure .iaload 749 0 [] ls st h)) ∧
  (∀ (ls : zL) (st : zS) (h : zH), zx 219 749 ls st h = zgo 219 (zpure (.aload_n 0) 750 0 [] ls st h)) ∧
  (∀ (ls : zL) (st : zS) (h : zH), zx 219 750 ls st h = zgo 219 (zpure (.iload 5) 752 0 [] ls st h)) ∧
  (∀ (ls : zL) (st : zS) (h : zH), zx 219 752 ls st h = zgo 219 (zpure (.iconst 2) 753 0 [] ls st h)) ∧
  (∀ (ls : zL) (st : zS) (h : zH), zx 219 753 ls st h = zgo 219 (zpure .iadd 754 0 [] ls st h)) ∧
  (∀ (ls : zL) (st : zS) (h : zH), zx 219 754 ls st h = zgo 219 (zpure .iaload 755 0 [] ls st h)) ∧
  (∀ (ls : zL) (st : zS) (h : zH), zx 219 755 ls st h = zgo 219 (zpure (.aload_n 3) 756 0 [] ls st h)) ∧
  (∀ (ls : zL) (st : zS) (h : zH), zx 219 756 ls st h = zca 219 756 759 ls 195 5 0 (ztake 4 st) h) ∧
  (∀ (ls : zL) (st : zS) (h : zH), zx 219 759 ls st h = zgo 219 (zpure (.istore 6) 761 0 [] ls st h)) :=
  ⟨zx_0 rfl, zx_0 rfl, zx_0 rfl, zx_0 rfl, zx_0 rfl, zx_0 rfl, zx_0 rfl, zx_0 rfl, zx_0 rfl, zx_0 rfl, zx_0 rfl, zx_0 rfl, zx_2c rfl, zx_0 rfl⟩
set_option maxRecDepth 4000 in
theorem y219_7b :
  (∀ (ls : zL) (st : zS) (h : zH), zx 219 761 ls st h = zgo 219 (zpure (.aload_n 2) 762 0 [] ls st h)) ∧
  (∀ (ls : zL) (st : zS) (h : zH), zx 219 762 ls st h = zgo 219 (zpure (.aload_n 0) 763 0 [] ls st h)) ∧
  (∀ (ls : zL) (st : zS) (h : zH), zx 219 763 ls st h = zgo 219 (zpure (.iload 5) 765 0 [] ls st h)) ∧
  (∀ (ls : zL) (st : zS) (h : zH), zx 219 765 ls st h = zgo 219 (zpure (.iconst 1) 766 0 [] ls st h)) ∧
  (∀ (ls : zL) (st : zS) (h : zH), zx 219 766 ls st h = zgo 219 (zpure .iadd 767 0 [] ls st h)) ∧
  (∀ (ls : zL) (st : zS) (h : zH), zx 219 767 ls st h = zgo 219 (zpure .iaload 768 0 [] ls st h)) ∧
  (∀ (ls : zL) (st : zS) (h : zH), zx 219 768 ls st h = zgo 219 (zpure (.aload_n 0) 769 0 [] ls st h)) ∧
  (∀ (ls : zL) (st : zS) (h : zH), zx 219 769 ls st h = zgo 219 (zpure (.iload 5) 771 0 [] ls st h)) ∧
  (∀ (ls : zL) (st : zS) (h : zH), zx 219 771 ls st h = zgo 219 (zpure (.iconst 2) 772 0 [] ls st h)) ∧
  (∀ (ls : zL) (st : zS) (h : zH), zx 219 772 ls st h = zgo 219 (zpure .iadd 773 0 [] ls st h)) ∧
  (∀ (ls : zL) (st : zS) (h : zH), zx 219 773 ls st h = zgo 219 (zpure .iaload 774 0 [] ls st h)) ∧
  (∀ (ls : zL) (st : zS) (h : zH), zx 219 774 ls st h = zca 219 774 777 ls 118 4 7 (ztake 3 st) h) ∧
  (∀ (ls : zL) (st : zS) (h : zH), zx 219 777 ls st h = zgo 219 (zpure (.istore 7) 779 0 [] ls st h)) :=
  ⟨zx_0 rfl, zx_0 rfl, zx_0 rfl, zx_0 rfl, zx_0 rfl, zx_0 rfl, zx_0 rfl, zx_0 rfl, zx_0 rfl, zx_0 rfl, zx_0 rfl, zx_2c rfl, zx_0 rfl⟩
set_option maxRecDepth 4000 in
theorem y219_7c :
  (∀ (ls : zL) (st : zS) (h : zH), zx 219 779 ls st h = zgo 219 (zpure (.aload_n 2) 780 0 [] ls st h)) ∧
  (∀ (ls : zL) (st : zS) (h : zH), zx 219 780 ls st h = zca 219 780 783 ls 103 1 7 (ztake 1 st) h) ∧
  (∀ (ls : zL) (st : zS) (h : zH), zx 219 783 ls st h = zgo 219 (zpure (.iload 6) 785 0 [] ls st h)) ∧
  (∀ (ls : zL) (st : zS) (h : zH), zx 219 785 ls st h = zgo 219 (zpure (.if_icmp .eq 5) 788 790 [] ls st h)) ∧
  (∀ (ls : zL) (st : zS) (h : zH), zx 219 788 ls st h = zgo 219 (zpure (.iconst 0) 789 0 [] ls st h)) ∧
  (∀ (ls : zL) (st : zS) (h : zH), zx 219 789 ls st h = zret 1 st h) ∧
  (∀ (ls : zL) (st : zS) (h : zH), zx 219 790 ls st h = zgo 219 (zpure (.iload 6) 792 0 [] ls st h)) ∧
  (∀ (ls : zL) (st : zS) (h : zH), zx 219 792 ls st h = zgo 219 (zpure (.ifCond .ne 15) 795 807 [] ls st h)) ∧
  (∀ (ls : zL) (st : zS) (h : zH), zx 219 795 ls st h = zgo 219 (zpure (.aload_n 3) 796 0 [] ls st h)) ∧
  (∀ (ls : zL) (st : zS) (h : zH), zx 219 796 ls st h = zgo 219 (zpure (.iconst 0) 797 0 [] ls st h)) ∧
  (∀ (ls : zL) (st : zS) (h : zH), zx 219 797 ls st h = zgo 219 (zpure .laload 798 0 [] ls st h)) ∧
  (∀ (ls : zL) (st : zS) (h : zH), zx 219 798 ls st h = zgo 219 (zpure (.iload 7) 800 0 [] ls st h)) ∧
  (∀ (ls : zL) (st : zS) (h : zH), zx 219 800 ls st h = zgo 219 (zpure .i2l 801 0 [] ls st h)) ∧
  (∀ (ls : zL) (st : zS) (h : zH), zx 219 801 ls st h = zgo 219 (zpure .lcmp 802 0 [] ls st h)) ∧
  (∀ (ls : zL) (st : zS) (h : zH), zx 219 802 ls st h = zgo 219 (zpure (.ifCond .eq 5) 805 807 [] ls st h)) ∧
  (∀ (ls : zL) (st : zS) (h : zH), zx 219 805 ls st h = zgo 219 (zpure (.iconst 0) 806 0 [] ls st h)) ∧
  (∀ (ls : zL) (st : zS) (h : zH), zx 219 806 ls st h = zret 1 st h) ∧
  (∀ (ls : zL) (st : zS) (h : zH), zx 219 807 ls st h = zgo 219 (zpure (.goto 1461) 810 2268 [] ls st h)) :=
  ⟨zx_0 rfl, zx_2c rfl, zx_0 rfl, zx_0 rfl, zx_0 rfl, zx_1 rfl, zx_0 rfl, zx_0 rfl, zx_0 rfl, zx_0 rfl, zx_0 rfl, zx_0 rfl, zx_0 rfl, zx_0 rfl, zx_0 rfl, zx_0 rfl, zx_1 rfl, zx_0 rfl⟩
set_option maxRecDepth 20000 in
theorem lA_7 {L : Nat} {xs : Nat → Int32} {H H1 : zH} {k I : Int} {x6 x7 x8 : Option Value} (hl : zl H 0 = L) (hm : ∀ n, n < L → zm H 0 n = .int (Int32.ofInt (xs n).toInt)) (hI : 0 ≤ I ∧ I + 6 ≤ (L : Int) ∧ (L : Int) ≤ 3072) (e : zc 195 5 [.ref 3, .int (Int32.ofInt (xs (I + 1).toNat).toInt), .int (Int32.ofInt (xs (I + 2).toNat).toInt), .ref 68] H = some (.inl (some (.int (Int32.ofInt k))), H1)) : zx 219 742 [some (.ref 0), some (.ref 3), some (.ref 32), some (.ref 68), some (.ref 69), some (.int (Int32.ofInt I)), x6, x7, x8] [] H = zx 219 761 [some (.ref 0), some (.ref 3), some (.ref 32), some (.ref 68), some (.ref 69), some (.int (Int32.ofInt I)), some (.int (Int32.ofInt k)), x7, x8] [] H1 := by
  simp (disch := omega) only [zentry, zs0, zs1, zs2, zs3, zg_lo, zg_st, zg_st2, zg_ald, zg_ast, zs_ia, zs_i0, zg_ii, zi_max, zi_min, zi_abi, zi_abf, zi_fb, zi_bf, lget, lst, lst2, lc2, Option.map_some, zso, if_true, if_false, zc1, and_true, true_and, and_self, List.length_nil, List.length_cons, Nat.zero_le, reduceIte, reduceCtorEq, false_and, and_false, Bool.false_eq_true, zca_some, zr0, zr100, Option.bind_some, zb_none, zb_some, zrc, or_true, true_or, eq_self, ne_eq, not_true_eq_false, not_false_eq_true, zrt_i, zrt_zb, zrt_b, zrt_c, zrt_l, zrt_f, zrt_r, zrt_n, zrt_v, zft_0, zft_1, zft_zb, zft_3, zft_4, zft_5, zft_7r, zft_7n, iI_t, zb_i, zb_0, zb_1, Nat.reduceAdd, Nat.reduceLeDiff, Nat.reduceEqDiff, Nat.reduceSub, Int.reduceNeg, iI_add, iI_sub, iI_mul, iI_neg, zbz, zin, if_pos, if_neg, Int.toNat_natCast, Int.natCast_zero, Int.reduceToNat, zt1, zt2, zt3, zt4, zt5, zt6, zt7, zt8, y219_7a, hl, hm, e]
set_option maxRecDepth 20000 in
theorem lB_7 {L : Nat} {xs : Nat → Int32} {H1 H2 : zH} {k I : Int} {x7 x8 : Option Value} {b : Int} (hl : zl H1 0 = L) (hm : ∀ n, n < L → zm H1 0 n = .int (Int32.ofInt (xs n).toInt)) (h32 : zk H1 32 = 6) (hI : 0 ≤ I ∧ I + 6 ≤ (L : Int) ∧ (L : Int) ≤ 3072) (e : zc 118 4 [.ref 32, .int (Int32.ofInt (xs (I + 1).toNat).toInt), .int (Int32.ofInt (xs (I + 2).toNat).toInt)] H1 = some (.inl (some (.int (Int32.ofInt b))), H2)) : zx 219 761 [some (.ref 0), some (.ref 3), some (.ref 32), some (.ref 68), some (.ref 69), some (.int (Int32.ofInt I)), some (.int (Int32.ofInt k)), x7, x8] [] H1 = zx 219 779 [some (.ref 0), some (.ref 3), some (.ref 32), some (.ref 68), some (.ref 69), some (.int (Int32.ofInt I)), some (.int (Int32.ofInt k)), some (.int (Int32.ofInt b)), x8] [] H2 := by
  simp (disch := omega) only [zentry, zs0, zs1, zs2, zs3, zg_lo, zg_st, zg_st2, zg_ald, zg_ast, zs_ia, zs_i0, zg_ii, zi_max, zi_min, zi_abi, zi_abf, zi_fb, zi_bf, lget, lst, lst2, lc2, Option.map_some, zso, if_true, if_false, zc1, and_true, true_and, and_self, List.length_nil, List.length_cons, Nat.zero_le, reduceIte, reduceCtorEq, false_and, and_false, Bool.false_eq_true, zca_some, zr0, zr100, Option.bind_some, zb_none, zb_some, zrc, or_true, true_or, eq_self, ne_eq, not_true_eq_false, not_false_eq_true, zrt_i, zrt_zb, zrt_b, zrt_c, zrt_l, zrt_f, zrt_r, zrt_n, zrt_v, zft_0, zft_1, zft_zb, zft_3, zft_4, zft_5, zft_7r, zft_7n, iI_t, zb_i, zb_0, zb_1, Nat.reduceAdd, Nat.reduceLeDiff, Nat.reduceEqDiff, Nat.reduceSub, Int.reduceNeg, iI_add, iI_sub, iI_mul, iI_neg, zbz, zin, if_pos, if_neg, Int.toNat_natCast, Int.natCast_zero, Int.reduceToNat, zt1, zt2, zt3, zt4, zt5, zt6, zt7, zt8, y219_7b, hl, hm, h32, e]
set_option maxRecDepth 20000 in
theorem lC_7 {H2 : zH} {k I : Int} {x8 : Option Value} {b v : Int} (h32 : zk H2 32 = 6) (e : zc 103 1 [.ref 32] H2 = some (.inl (some (.int (Int32.ofInt k))), H2)) (rk : iR k) (rb : iR b) (k68 : zk H2 68 = 24) (l68 : zl H2 68 = 1) (m68 : zm H2 68 0 = .long (Int64.ofInt v)) (hv : k = 0 → v = b) : zx 219 779 [some (.ref 0), some (.ref 3), some (.ref 32), some (.ref 68), some (.ref 69), some (.int (Int32.ofInt I)), some (.int (Int32.ofInt k)), some (.int (Int32.ofInt b)), x8] [] H2 = zx 219 2268 [some (.ref 0), some (.ref 3), some (.ref 32), some (.ref 68), some (.ref 69), some (.int (Int32.ofInt I)), some (.int (Int32.ofInt k)), some (.int (Int32.ofInt b)), x8] [] H2 := by
  by_cases g : k = 0
  · subst g
    have hb : v = b := hv rfl
    simp (disch := omega) only [zentry, zs0, zs1, zs2, zs3, zg_lo, zg_st, zg_st2, zg_ald, zg_ast, zs_ia, zs_i0, zg_ii, zi_max, zi_min, zi_abi, zi_abf, zi_fb, zi_bf, lget, lst, lst2, lc2, Option.map_some, zso, if_true, if_false, zc1, and_true, true_and, and_self, List.length_nil, List.length_cons, Nat.zero_le, reduceIte, reduceCtorEq, false_and, and_false, Bool.false_eq_true, zca_some, zr0, zr100, Option.bind_some, zb_none, zb_some, zrc, or_true, true_or, eq_self, ne_eq, not_true_eq_false, not_false_eq_true, zrt_i, zrt_zb, zrt_b, zrt_c, zrt_l, zrt_f, zrt_r, zrt_n, zrt_v, zft_0, zft_1, zft_zb, zft_3, zft_4, zft_5, zft_7r, zft_7n, iI_t, zb_i, zb_0, zb_1, Nat.reduceAdd, Nat.reduceLeDiff, Nat.reduceEqDiff, Nat.reduceSub, Int.reduceNeg, iI_add, iI_sub, iI_mul, iI_neg, zbz, zin, if_pos, if_neg, Int.toNat_natCast, Int.natCast_zero, Int.reduceToNat, zt1, zt2, zt3, zt4, zt5, zt6, zt7, zt8, y219_7c, h32, e, k68, l68, m68, hb, zl_ii, lw_l1]
  · simp (disch := omega) only [zentry, zs0, zs1, zs2, zs3, zg_lo, zg_st, zg_st2, zg_ald, zg_ast, zs_ia, zs_i0, zg_ii, zi_max, zi_min, zi_abi, zi_abf, zi_fb, zi_bf, lget, lst, lst2, lc2, Option.map_some, zso, if_true, if_false, zc1, and_true, true_and, and_self, List.length_nil, List.length_cons, Nat.zero_le, reduceIte, reduceCtorEq, false_and, and_false, Bool.false_eq_true, zca_some, zr0, zr100, Option.bind_some, zb_none, zb_some, zrc, or_true, true_or, eq_self, ne_eq, not_true_eq_false, not_false_eq_true, zrt_i, zrt_zb, zrt_b, zrt_c, zrt_l, zrt_f, zrt_r, zrt_n, zrt_v, zft_0, zft_1, zft_zb, zft_3, zft_4, zft_5, zft_7r, zft_7n, iI_t, zb_i, zb_0, zb_1, Nat.reduceAdd, Nat.reduceLeDiff, Nat.reduceEqDiff, Nat.reduceSub, Int.reduceNeg, iI_add, iI_sub, iI_mul, iI_neg, zbz, zin, if_pos, if_neg, Int.toNat_natCast, Int.natCast_zero, Int.reduceToNat, zt1, zt2, zt3, zt4, zt5, zt6, zt7, zt8, y219_7c, h32, e, g]
set_option maxRecDepth 4000 in
theorem y219_8a :
  (∀ (ls : zL) (st : zS) (h : zH), zx 219 810 ls st h = zgo 219 (zpure (.aload_n 1) 811 0 [] ls st h)) ∧
  (∀ (ls : zL) (st : zS) (h : zH), zx 219 811 ls st h = zgo 219 (zpure (.aload_n 0) 812 0 [] ls st h)) ∧
  (∀ (ls : zL) (st : zS) (h : zH), zx 219 812 ls st h = zgo 219 (zpure (.iload 5) 814 0 [] ls st h)) ∧
  (∀ (ls : zL) (st : zS) (h : zH), zx 219 814 ls st h = zgo 219 (zpure (.iconst 1) 815 0 [] ls st h)) ∧
  (∀ (ls : zL) (st : zS) (h : zH), zx 219 815 ls st h = zgo 219 (zpure .iadd 816 0 [] ls st h)) ∧
  (∀ (ls : zL) (st : zS) (h : zH), zx 219 816 ls st h = zgo 219 (zpure .iaload 817 0 [] ls st h)) ∧
  (∀ (ls : zL) (st : zS) (h : zH), zx 219 817 ls st h = zgo 219 (zpure (.aload_n 0) 818 0 [] ls st h)) ∧
  (∀ (ls : zL) (st : zS) (h : zH), zx 219 818 ls st h = zgo 219 (zpure (.iload 5) 820 0 [] ls st h)) ∧
  (∀ (ls : zL) (st : zS) (h : zH), zx 219 820 ls st h = zgo 219 (zpure (.iconst 2) 821 0 [] ls st h)) ∧
  (∀ (ls : zL) (st : zS) (h : zH), zx 219 821 ls st h = zgo 219 (zpure .iadd 822 0 [] ls st h)) ∧
  (∀ (ls : zL) (st : zS) (h : zH), zx 219 822 ls st h = zgo 219 (zpure .iaload 823 0 [] ls st h)) ∧
  (∀ (ls : zL) (st : zS) (h : zH), zx 219 823 ls st h = zgo 219 (zpure .i2c 824 0 [] ls st h)) ∧
  (∀ (ls : zL) (st : zS) (h : zH), zx 219 824 ls st h = zgo 219 (zpure (.aload_n 0) 825 0 [] ls st h)) ∧
  (∀ (ls : zL) (st : zS) (h : zH), zx 219 825 ls st h = zgo 219 (zpure (.iload 5) 827 0 [] ls st h)) ∧
  (∀ (ls : zL) (st : zS) (h : zH), zx 219 827 ls st h = zgo 219 (zpure (.iconst 3) 828 0 [] ls st h)) ∧
  (∀ (ls : zL) (st : zS) (h : zH), zx 219 828 ls st h = zgo 219 (zpure .iadd 829 0 [] ls st h)) ∧
  (∀ (ls : zL) (st : zS) (h : zH), zx 219 829 ls st h = zgo 219 (zpure .iaload 830 0 [] ls st h)) ∧
  (∀ (ls : zL) (st : zS) (h : zH), zx 219 830 ls st h = zgo 219 (zpure (.aload_n 0) 831 0 [] ls st h)) ∧
  (∀ (ls : zL) (st : zS) (h : zH), zx 219 831 ls st h = zgo 219 (zpure (.iload 5) 833 0 [] ls st h)) ∧
  (∀ (ls : zL) (st : zS) (h : zH), zx 219 833 ls st h = zgo 219 (zpure (.iconst 4) 834 0 [] ls st h)) ∧
  (∀ (ls : zL) (st : zS) (h : zH), zx 219 834 ls st h = zgo 219 (zpure .iadd 835 0 [] ls st h)) ∧
  (∀ (ls : zL) (st : zS) (h : zH), zx 219 835 ls st h = zgo 219 (zpure .iaload 836 0 [] ls st h)) ∧
  (∀ (ls : zL) (st : zS) (h : zH), zx 219 836 ls st h = zgo 219 (zpure (.aload_n 3) 837 0 [] ls st h)) ∧
  (∀ (ls : zL) (st : zS) (h : zH), zx 219 837 ls st h = zca 219 837 840 ls 196 7 0 (ztake 6 st) h) ∧
  (∀ (ls : zL) (st : zS) (h : zH), zx 219 840 ls st h = zgo 219 (zpure (.istore 6) 842 0 [] ls st h)) :=
  ⟨zx_0 rfl, zx_0 rfl, zx_0 rfl, zx_0 rfl, zx_0 rfl, zx_0 rfl, zx_0 rfl, zx_0 rfl, zx_0 rfl, zx_0 rfl, zx_0 rfl, zx_0 rfl, zx_0 rfl, zx_0 rfl, zx_0 rfl, zx_0 rfl, zx_0 rfl, zx_0 rfl, zx_0 rfl, zx_0 rfl, zx_0 rfl, zx_0 rfl, zx_0 rfl, zx_2c rfl, zx_0 rfl⟩
set_option maxRecDepth 4000 in
theorem y219_8b :
  (∀ (ls : zL) (st : zS) (h : zH), zx 219 842 ls st h = zgo 219 (zpure (.aload_n 2) 843 0 [] ls st h)) ∧
  (∀ (ls : zL) (st : zS) (h : zH), zx 219 843 ls st h = zgo 219 (zpure (.aload_n 0) 844 0 [] ls st h)) ∧
  (∀ (ls : zL) (st : zS) (h : zH), zx 219 844 ls st h = zgo 219 (zpure (.iload 5) 846 0 [] ls st h)) ∧
  (∀ (ls : zL) (st : zS) (h : zH), zx 219 846 ls st h = zgo 219 (zpure (.iconst 1) 847 0 [] ls st h)) ∧
  (∀ (ls : zL) (st : zS) (h : zH), zx 219 847 ls st h = zgo 219 (zpure .iadd 848 0 [] ls st h)) ∧
  (∀ (ls : zL) (st : zS) (h : zH), zx 219 848 ls st h = zgo 219 (zpure .iaload 849 0 [] ls st h)) ∧
  (∀ (ls : zL) (st : zS) (h : zH), zx 219 849 ls st h = zgo 219 (zpure (.aload_n 0) 850 0 [] ls st h)) ∧
  (∀ (ls : zL) (st : zS) (h : zH), zx 219 850 ls st h = zgo 219 (zpure (.iload 5) 852 0 [] ls st h)) ∧
  (∀ (ls : zL) (st : zS) (h : zH), zx 219 852 ls st h = zgo 219 (zpure (.iconst 2) 853 0 [] ls st h)) ∧
  (∀ (ls : zL) (st : zS) (h : zH), zx 219 853 ls st h = zgo 219 (zpure .iadd 854 0 [] ls st h)) ∧
  (∀ (ls : zL) (st : zS) (h : zH), zx 219 854 ls st h = zgo 219 (zpure .iaload 855 0 [] ls st h)) ∧
  (∀ (ls : zL) (st : zS) (h : zH), zx 219 855 ls st h = zgo 219 (zpure .i2c 856 0 [] ls st h)) ∧
  (∀ (ls : zL) (st : zS) (h : zH), zx 219 856 ls st h = zgo 219 (zpure (.aload_n 0) 857 0 [] ls st h)) ∧
  (∀ (ls : zL) (st : zS) (h : zH), zx 219 857 ls st h = zgo 219 (zpure (.iload 5) 859 0 [] ls st h)) ∧
  (∀ (ls : zL) (st : zS) (h : zH), zx 219 859 ls st h = zgo 219 (zpure (.iconst 3) 860 0 [] ls st h)) ∧
  (∀ (ls : zL) (st : zS) (h : zH), zx 219 860 ls st h = zgo 219 (zpure .iadd 861 0 [] ls st h)) ∧
  (∀ (ls : zL) (st : zS) (h : zH), zx 219 861 ls st h = zgo 219 (zpure .iaload 862 0 [] ls st h)) ∧
  (∀ (ls : zL) (st : zS) (h : zH), zx 219 862 ls st h = zgo 219 (zpure (.aload_n 0) 863 0 [] ls st h)) ∧
  (∀ (ls : zL) (st : zS) (h : zH), zx 219 863 ls st h = zgo 219 (zpure (.iload 5) 865 0 [] ls st h)) ∧
  (∀ (ls : zL) (st : zS) (h : zH), zx 219 865 ls st h = zgo 219 (zpure (.iconst 4) 866 0 [] ls st h)) ∧
  (∀ (ls : zL) (st : zS) (h : zH), zx 219 866 ls st h = zgo 219 (zpure .iadd 867 0 [] ls st h)) ∧
  (∀ (ls : zL) (st : zS) (h : zH), zx 219 867 ls st h = zgo 219 (zpure .iaload 868 0 [] ls st h)) ∧
  (∀ (ls : zL) (st : zS) (h : zH), zx 219 868 ls st h = zca 219 868 871 ls 119 7 7 (ztake 5 st) h) ∧
  (∀ (ls : zL) (st : zS) (h : zH), zx 219 871 ls st h = zgo 219 (zpure (.istore 7) 873 0 [] ls st h)) :=
  ⟨zx_0 rfl, zx_0 rfl, zx_0 rfl, zx_0 rfl, zx_0 rfl, zx_0 rfl, zx_0 rfl, zx_0 rfl, zx_0 rfl, zx_0 rfl, zx_0 rfl, zx_0 rfl, zx_0 rfl, zx_0 rfl, zx_0 rfl, zx_0 rfl, zx_0 rfl, zx_0 rfl, zx_0 rfl, zx_0 rfl, zx_0 rfl, zx_0 rfl, zx_2c rfl, zx_0 rfl⟩
set_option maxRecDepth 4000 in
theorem y219_8c :
  (∀ (ls : zL) (st : zS) (h : zH), zx 219 873 ls st h = zgo 219 (zpure (.aload_n 2) 874 0 [] ls st h)) ∧
  (∀ (ls : zL) (st : zS) (h : zH), zx 219 874 ls st h = zca 219 874 877 ls 103 1 7 (ztake 1 st) h) ∧
  (∀ (ls : zL) (st : zS) (h : zH), zx 219 877 ls st h = zgo 219 (zpure (.iload 6) 879 0 [] ls st h)) ∧
  (∀ (ls : zL) (st : zS) (h : zH), zx 219 879 ls st h = zgo 219 (zpure (.if_icmp .eq 5) 882 884 [] ls st h)) ∧
  (∀ (ls : zL) (st : zS) (h : zH), zx 219 882 ls st h = zgo 219 (zpure (.iconst 0) 883 0 [] ls st h)) ∧
  (∀ (ls : zL) (st : zS) (h : zH), zx 219 883 ls st h = zret 1 st h) ∧
  (∀ (ls : zL) (st : zS) (h : zH), zx 219 884 ls st h = zgo 219 (zpure (.iload 6) 886 0 [] ls st h)) ∧
  (∀ (ls : zL) (st : zS) (h : zH), zx 219 886 ls st h = zgo 219 (zpure (.ifCond .ne 15) 889 901 [] ls st h)) ∧
  (∀ (ls : zL) (st : zS) (h : zH), zx 219 889 ls st h = zgo 219 (zpure (.aload_n 3) 890 0 [] ls st h)) ∧
  (∀ (ls : zL) (st : zS) (h : zH), zx 219 890 ls st h = zgo 219 (zpure (.iconst 0) 891 0 [] ls st h)) ∧
  (∀ (ls : zL) (st : zS) (h : zH), zx 219 891 ls st h = zgo 219 (zpure .laload 892 0 [] ls st h)) ∧
  (∀ (ls : zL) (st : zS) (h : zH), zx 219 892 ls st h = zgo 219 (zpure (.iload 7) 894 0 [] ls st h)) ∧
  (∀ (ls : zL) (st : zS) (h : zH), zx 219 894 ls st h = zgo 219 (zpure .i2l 895 0 [] ls st h)) ∧
  (∀ (ls : zL) (st : zS) (h : zH), zx 219 895 ls st h = zgo 219 (zpure .lcmp 896 0 [] ls st h)) ∧
  (∀ (ls : zL) (st : zS) (h : zH), zx 219 896 ls st h = zgo 219 (zpure (.ifCond .eq 5) 899 901 [] ls st h)) ∧
  (∀ (ls : zL) (st : zS) (h : zH), zx 219 899 ls st h = zgo 219 (zpure (.iconst 0) 900 0 [] ls st h)) ∧
  (∀ (ls : zL) (st : zS) (h : zH), zx 219 900 ls st h = zret 1 st h) ∧
  (∀ (ls : zL) (st : zS) (h : zH), zx 219 901 ls st h = zgo 219 (zpure (.goto 1367) 904 2268 [] ls st h)) :=
  ⟨zx_0 rfl, zx_2c rfl, zx_0 rfl, zx_0 rfl, zx_0 rfl, zx_1 rfl, zx_0 rfl, zx_0 rfl, zx_0 rfl, zx_0 rfl, zx_0 rfl, zx_0 rfl, zx_0 rfl, zx_0 rfl, zx_0 rfl, zx_0 rfl, zx_1 rfl, zx_0 rfl⟩
set_option maxRecDepth 20000 in
theorem lA_8 {L : Nat} {xs : Nat → Int32} {H H1 : zH} {k I : Int} {x6 x7 x8 : Option Value} {md : Int} (hl : zl H 0 = L) (hm : ∀ n, n < L → zm H 0 n = .int (Int32.ofInt (xs n).toInt)) (hI : 0 ≤ I ∧ I + 6 ≤ (L : Int) ∧ (L : Int) ≤ 3072) (ec : zchar (Int32.ofInt (xs (I + 2).toNat).toInt) = Int32.ofInt md) (e : zc 196 7 [.ref 3, .int (Int32.ofInt (xs (I + 1).toNat).toInt), .int (Int32.ofInt md), .int (Int32.ofInt (xs (I + 3).toNat).toInt), .int (Int32.ofInt (xs (I + 4).toNat).toInt), .ref 68] H = some (.inl (some (.int (Int32.ofInt k))), H1)) : zx 219 810 [some (.ref 0), some (.ref 3), some (.ref 32), some (.ref 68), some (.ref 69), some (.int (Int32.ofInt I)), x6, x7, x8] [] H = zx 219 842 [some (.ref 0), some (.ref 3), some (.ref 32), some (.ref 68), some (.ref 69), some (.int (Int32.ofInt I)), some (.int (Int32.ofInt k)), x7, x8] [] H1 := by
  simp (disch := omega) only [zentry, zs0, zs1, zs2, zs3, zg_lo, zg_st, zg_st2, zg_ald, zg_ast, zs_ia, zs_i0, zg_ii, zi_max, zi_min, zi_abi, zi_abf, zi_fb, zi_bf, lget, lst, lst2, lc2, Option.map_some, zso, if_true, if_false, zc1, and_true, true_and, and_self, List.length_nil, List.length_cons, Nat.zero_le, reduceIte, reduceCtorEq, false_and, and_false, Bool.false_eq_true, zca_some, zr0, zr100, Option.bind_some, zb_none, zb_some, zrc, or_true, true_or, eq_self, ne_eq, not_true_eq_false, not_false_eq_true, zrt_i, zrt_zb, zrt_b, zrt_c, zrt_l, zrt_f, zrt_r, zrt_n, zrt_v, zft_0, zft_1, zft_zb, zft_3, zft_4, zft_5, zft_7r, zft_7n, iI_t, zb_i, zb_0, zb_1, Nat.reduceAdd, Nat.reduceLeDiff, Nat.reduceEqDiff, Nat.reduceSub, Int.reduceNeg, iI_add, iI_sub, iI_mul, iI_neg, zbz, zin, if_pos, if_neg, Int.toNat_natCast, Int.natCast_zero, Int.reduceToNat, zt1, zt2, zt3, zt4, zt5, zt6, zt7, zt8, y219_8a, hl, hm, e, ec]
set_option maxRecDepth 20000 in
theorem lB_8 {L : Nat} {xs : Nat → Int32} {H1 H2 : zH} {k I : Int} {x7 x8 : Option Value} {b : Int} {md : Int} (hl : zl H1 0 = L) (hm : ∀ n, n < L → zm H1 0 n = .int (Int32.ofInt (xs n).toInt)) (h32 : zk H1 32 = 6) (hI : 0 ≤ I ∧ I + 6 ≤ (L : Int) ∧ (L : Int) ≤ 3072) (ec : zchar (Int32.ofInt (xs (I + 2).toNat).toInt) = Int32.ofInt md) (e : zc 119 7 [.ref 32, .int (Int32.ofInt (xs (I + 1).toNat).toInt), .int (Int32.ofInt md), .int (Int32.ofInt (xs (I + 3).toNat).toInt), .int (Int32.ofInt (xs (I + 4).toNat).toInt)] H1 = some (.inl (some (.int (Int32.ofInt b))), H2)) : zx 219 842 [some (.ref 0), some (.ref 3), some (.ref 32), some (.ref 68), some (.ref 69), some (.int (Int32.ofInt I)), some (.int (Int32.ofInt k)), x7, x8] [] H1 = zx 219 873 [some (.ref 0), some (.ref 3), some (.ref 32), some (.ref 68), some (.ref 69), some (.int (Int32.ofInt I)), some (.int (Int32.ofInt k)), some (.int (Int32.ofInt b)), x8] [] H2 := by
  simp (disch := omega) only [zentry, zs0, zs1, zs2, zs3, zg_lo, zg_st, zg_st2, zg_ald, zg_ast, zs_ia, zs_i0, zg_ii, zi_max, zi_min, zi_abi, zi_abf, zi_fb, zi_bf, lget, lst, lst2, lc2, Option.map_some, zso, if_true, if_false, zc1, and_true, true_and, and_self, List.length_nil, List.length_cons, Nat.zero_le, reduceIte, reduceCtorEq, false_and, and_false, Bool.false_eq_true, zca_some, zr0, zr100, Option.bind_some, zb_none, zb_some, zrc, or_true, true_or, eq_self, ne_eq, not_true_eq_false, not_false_eq_true, zrt_i, zrt_zb, zrt_b, zrt_c, zrt_l, zrt_f, zrt_r, zrt_n, zrt_v, zft_0, zft_1, zft_zb, zft_3, zft_4, zft_5, zft_7r, zft_7n, iI_t, zb_i, zb_0, zb_1, Nat.reduceAdd, Nat.reduceLeDiff, Nat.reduceEqDiff, Nat.reduceSub, Int.reduceNeg, iI_add, iI_sub, iI_mul, iI_neg, zbz, zin, if_pos, if_neg, Int.toNat_natCast, Int.natCast_zero, Int.reduceToNat, zt1, zt2, zt3, zt4, zt5, zt6, zt7, zt8, y219_8b, hl, hm, h32, e, ec]
set_option maxRecDepth 20000 in
theorem lC_8 {H2 : zH} {k I : Int} {x8 : Option Value} {b v : Int} (h32 : zk H2 32 = 6) (e : zc 103 1 [.ref 32] H2 = some (.inl (some (.int (Int32.ofInt k))), H2)) (rk : iR k) (rb : iR b) (k68 : zk H2 68 = 24) (l68 : zl H2 68 = 1) (m68 : zm H2 68 0 = .long (Int64.ofInt v)) (hv : k = 0 → v = b) : zx 219 873 [some (.ref 0), some (.ref 3), some (.ref 32), some (.ref 68), some (.ref 69), some (.int (Int32.ofInt I)), some (.int (Int32.ofInt k)), some (.int (Int32.ofInt b)), x8] [] H2 = zx 219 2268 [some (.ref 0), some (.ref 3), some (.ref 32), some (.ref 68), some (.ref 69), some (.int (Int32.ofInt I)), some (.int (Int32.ofInt k)), some (.int (Int32.ofInt b)), x8] [] H2 := by
  by_cases g : k = 0
  · subst g
    have hb : v = b := hv rfl
    simp (disch := omega) only [zentry, zs0, zs1, zs2, zs3, zg_lo, zg_st, zg_st2, zg_ald, zg_ast, zs_ia, zs_i0, zg_ii, zi_max, zi_min, zi_abi, zi_abf, zi_fb, zi_bf, lget, lst, lst2, lc2, Option.map_some, zso, if_true, if_false, zc1, and_true, true_and, and_self, List.length_nil, List.length_cons, Nat.zero_le, reduceIte, reduceCtorEq, false_and, and_false, Bool.false_eq_true, zca_some, zr0, zr100, Option.bind_some, zb_none, zb_some, zrc, or_true, true_or, eq_self, ne_eq, not_true_eq_false, not_false_eq_true, zrt_i, zrt_zb, zrt_b, zrt_c, zrt_l, zrt_f, zrt_r, zrt_n, zrt_v, zft_0, zft_1, zft_zb, zft_3, zft_4, zft_5, zft_7r, zft_7n, iI_t, zb_i, zb_0, zb_1, Nat.reduceAdd, Nat.reduceLeDiff, Nat.reduceEqDiff, Nat.reduceSub, Int.reduceNeg, iI_add, iI_sub, iI_mul, iI_neg, zbz, zin, if_pos, if_neg, Int.toNat_natCast, Int.natCast_zero, Int.reduceToNat, zt1, zt2, zt3, zt4, zt5, zt6, zt7, zt8, y219_8c, h32, e, k68, l68, m68, hb, zl_ii, lw_l1]
  · simp (disch := omega) only [zentry, zs0, zs1, zs2, zs3, zg_lo, zg_st, zg_st2, zg_ald, zg_ast, zs_ia, zs_i0, zg_ii, zi_max, zi_min, zi_abi, zi_abf, zi_fb, zi_bf, lget, lst, lst2, lc2, Option.map_some, zso, if_true, if_false, zc1, and_true, true_and, and_self, List.length_nil, List.length_cons, Nat.zero_le, reduceIte, reduceCtorEq, false_and, and_false, Bool.false_eq_true, zca_some, zr0, zr100, Option.bind_some, zb_none, zb_some, zrc, or_true, true_or, eq_self, ne_eq, not_true_eq_false, not_false_eq_true, zrt_i, zrt_zb, zrt_b, zrt_c, zrt_l, zrt_f, zrt_r, zrt_n, zrt_v, zft_0, zft_1, zft_zb, zft_3, zft_4, zft_5, zft_7r, zft_7n, iI_t, zb_i, zb_0, zb_1, Nat.reduceAdd, Nat.reduceLeDiff, Nat.reduceEqDiff, Nat.reduceSub, Int.reduceNeg, iI_add, iI_sub, iI_mul, iI_neg, zbz, zin, if_pos, if_neg, Int.toNat_natCast, Int.natCast_zero, Int.reduceToNat, zt1, zt2, zt3, zt4, zt5, zt6, zt7, zt8, y219_8c, h32, e, g]
set_option maxRecDepth 4000 in
theorem y219_9 :
  (∀ (ls : zL) (st : zS) (h : zH), zx 219 904 ls st h = zgo 219 (zpure (.aload_n 1) 905 0 [] ls st h)) ∧
  (∀ (ls : zL) (st : zS) (h : zH), zx 219 905 ls st h = zca 219 905 908 ls 51 1 6 (ztake 1 st) h) ∧
  (∀ (ls : zL) (st : zS) (h : zH), zx 219 908 ls st h = zgo 219 (zpure (.aload_n 2) 909 0 [] ls st h)) ∧
  (∀ (ls : zL) (st : zS) (h : zH), zx 219 909 ls st h = zca 219 909 912 ls 120 1 7 (ztake 1 st) h) ∧
  (∀ (ls : zL) (st : zS) (h : zH), zx 219 912 ls st h = zgo 219 (zpure (.if_icmp .eq 1356) 915 2268 [] ls st h)) ∧
  (∀ (ls : zL) (st : zS) (h : zH), zx 219 915 ls st h = zgo 219 (zpure (.iconst 0) 916 0 [] ls st h)) ∧
  (∀ (ls : zL) (st : zS) (h : zH), zx 219 916 ls st h = zret 1 st h) :=
  ⟨zx_0 rfl, zx_2c rfl, zx_0 rfl, zx_2c rfl, zx_0 rfl, zx_0 rfl, zx_1 rfl⟩
set_option maxRecDepth 20000 in
theorem lN_9 {H H1 H2 : zH} {k I : Int} {x6 x7 x8 : Option Value} (h3 : zk H 3 = 5) (h32 : zk H1 32 = 6) (e : zc 51 1 [.ref 3] H = some (.inl (some (.int (Int32.ofInt k))), H1)) (e2 : zc 120 1 [.ref 32] H1 = some (.inl (some (.int (Int32.ofInt k))), H2)) : zx 219 904 [some (.ref 0), some (.ref 3), some (.ref 32), some (.ref 68), some (.ref 69), some (.int (Int32.ofInt I)), x6, x7, x8] [] H = zx 219 2268 [some (.ref 0), some (.ref 3), some (.ref 32), some (.ref 68), some (.ref 69), some (.int (Int32.ofInt I)), x6, x7, x8] [] H2 := by
  simp (disch := omega) only [zentry, zs0, zs1, zs2, zs3, zg_lo, zg_st, zg_st2, zg_ald, zg_ast, zs_ia, zs_i0, zg_ii, zi_max, zi_min, zi_abi, zi_abf, zi_fb, zi_bf, lget, lst, lst2, lc2, Option.map_some, zso, if_true, if_false, zc1, and_true, true_and, and_self, List.length_nil, List.length_cons, Nat.zero_le, reduceIte, reduceCtorEq, false_and, and_false, Bool.false_eq_true, zca_some, zr0, zr100, Option.bind_some, zb_none, zb_some, zrc, or_true, true_or, eq_self, ne_eq, not_true_eq_false, not_false_eq_true, zrt_i, zrt_zb, zrt_b, zrt_c, zrt_l, zrt_f, zrt_r, zrt_n, zrt_v, zft_0, zft_1, zft_zb, zft_3, zft_4, zft_5, zft_7r, zft_7n, iI_t, zb_i, zb_0, zb_1, Nat.reduceAdd, Nat.reduceLeDiff, Nat.reduceEqDiff, Nat.reduceSub, Int.reduceNeg, iI_add, iI_sub, iI_mul, iI_neg, zbz, zin, if_pos, if_neg, Int.toNat_natCast, Int.natCast_zero, Int.reduceToNat, zt1, zt2, zt3, zt4, zt5, zt6, zt7, zt8, y219_9, h3, h32, e, e2]
set_option maxRecDepth 4000 in
theorem y219_10a :
  (∀ (ls : zL) (st : zS) (h : zH), zx 219 917 ls st h = zgo 219 (zpure (.aload_n 1) 918 0 [] ls st h)) ∧
  (∀ (ls : zL) (st : zS) (h : zH), zx 219 918 ls st h = zgo 219 (zpure (.aload_n 0) 919 0 [] ls st h)) ∧
  (∀ (ls : zL) (st : zS) (h : zH), zx 219 919 ls st h = zgo 219 (zpure (.iload 5) 921 0 [] ls st h)) ∧
  (∀ (ls : zL) (st : zS) (h : zH), zx 219 921 ls st h = zgo 219 (zpure (.iconst 1) 922 0 [] ls st h)) ∧
  (∀ (ls : zL) (st : zS) (h : zH), zx 219 922 ls st h = zgo 219 (zpure .iadd 923 0 [] ls st h)) ∧
  (∀ (ls : zL) (st : zS) (h : zH), zx 219 923 ls st h = zgo 219 (zpure .iaload 924 0 [] ls st h)) ∧
  (∀ (ls : zL) (st : zS) (h : zH), zx 219 924 ls st h = zgo 219 (zpure (.aload_n 3) 925 0 [] ls st h)) ∧
  (∀ (ls : zL) (st : zS) (h : zH), zx 219 925 ls st h = zca 219 925 928 ls 197 4 0 (ztake 3 st) h) ∧
  (∀ (ls : zL) (st : zS) (h : zH), zx 219 928 ls st h = zgo 219 (zpure (.istore 6) 930 0 [] ls st h)) :=
  ⟨zx_0 rfl, zx_0 rfl, zx_0 rfl, zx_0 rfl, zx_0 rfl, zx_0 rfl, zx_0 rfl, zx_2c rfl, zx_0 rfl⟩
set_option maxRecDepth 4000 in
theorem y219_10b :
  (∀ (ls : zL) (st : zS) (h : zH), zx 219 930 ls st h = zgo 219 (zpure (.aload_n 2) 931 0 [] ls st h)) ∧
  (∀ (ls : zL) (st : zS) (h : zH), zx 219 931 ls st h = zgo 219 (zpure (.aload_n 0) 932 0 [] ls st h)) ∧
  (∀ (ls : zL) (st : zS) (h : zH), zx 219 932 ls st h = zgo 219 (zpure (.iload 5) 934 0 [] ls st h)) ∧
  (∀ (ls : zL) (st : zS) (h : zH), zx 219 934 ls st h = zgo 219 (zpure (.iconst 1) 935 0 [] ls st h)) ∧
  (∀ (ls : zL) (st : zS) (h : zH), zx 219 935 ls st h = zgo 219 (zpure .iadd 936 0 [] ls st h)) ∧
  (∀ (ls : zL) (st : zS) (h : zH), zx 219 936 ls st h = zgo 219 (zpure .iaload 937 0 [] ls st h)) ∧
  (∀ (ls : zL) (st : zS) (h : zH), zx 219 937 ls st h = zca 219 937 940 ls 121 2 7 (ztake 2 st) h) ∧
  (∀ (ls : zL) (st : zS) (h : zH), zx 219 940 ls st h = zgo 219 (zpure (.istore 7) 942 0 [] ls st h)) :=
  ⟨zx_0 rfl, zx_0 rfl, zx_0 rfl, zx_0 rfl, zx_0 rfl, zx_0 rfl, zx_2c rfl, zx_0 rfl⟩
set_option maxRecDepth 4000 in
theorem y219_10c :
  (∀ (ls : zL) (st : zS) (h : zH), zx 219 942 ls st h = zgo 219 (zpure (.aload_n 2) 943 0 [] ls st h)) ∧
  (∀ (ls : zL) (st : zS) (h : zH), zx 219 943 ls st h = zca 219 943 946 ls 103 1 7 (ztake 1 st) h) ∧
  (∀ (ls : zL) (st : zS) (h : zH), zx 219 946 ls st h = zgo 219 (zpure (.iload 6) 948 0 [] ls st h)) ∧
  (∀ (ls : zL) (st : zS) (h : zH), zx 219 948 ls st h = zgo 219 (zpure (.if_icmp .eq 5) 951 953 [] ls st h)) ∧
  (∀ (ls : zL) (st : zS) (h : zH), zx 219 951 ls st h = zgo 219 (zpure (.iconst 0) 952 0 [] ls st h)) ∧
  (∀ (ls : zL) (st : zS) (h : zH), zx 219 952 ls st h = zret 1 st h) ∧
  (∀ (ls : zL) (st : zS) (h : zH), zx 219 953 ls st h = zgo 219 (zpure (.iload 6) 955 0 [] ls st h)) ∧
  (∀ (ls : zL) (st : zS) (h : zH), zx 219 955 ls st h = zgo 219 (zpure (.ifCond .ne 15) 958 970 [] ls st h)) ∧
  (∀ (ls : zL) (st : zS) (h : zH), zx 219 958 ls st h = zgo 219 (zpure (.aload_n 3) 959 0 [] ls st h)) ∧
  (∀ (ls : zL) (st : zS) (h : zH), zx 219 959 ls st h = zgo 219 (zpure (.iconst 0) 960 0 [] ls st h)) ∧
  (∀ (ls : zL) (st : zS) (h : zH), zx 219 960 ls st h = zgo 219 (zpure .laload 961 0 [] ls st h)) ∧
  (∀ (ls : zL) (st : zS) (h : zH), zx 219 961 ls st h = zgo 219 (zpure (.iload 7) 963 0 [] ls st h)) ∧
  (∀ (ls : zL) (st : zS) (h : zH), zx 219 963 ls st h = zgo 219 (zpure .i2l 964 0 [] ls st h)) ∧
  (∀ (ls : zL) (st : zS) (h : zH), zx 219 964 ls st h = zgo 219 (zpure .lcmp 965 0 [] ls st h)) ∧
  (∀ (ls : zL) (st : zS) (h : zH), zx 219 965 ls st h = zgo 219 (zpure (.ifCond .eq 5) 968 970 [] ls st h)) ∧
  (∀ (ls : zL) (st : zS) (h : zH), zx 219 968 ls st h = zgo 219 (zpure (.iconst 0) 969 0 [] ls st h)) ∧
  (∀ (ls : zL) (st : zS) (h : zH), zx 219 969 ls st h = zret 1 st h) ∧
  (∀ (ls : zL) (st : zS) (h : zH), zx 219 970 ls st h = zgo 219 (zpure (.goto 1298) 973 2268 [] ls st h)) :=
  ⟨zx_0 rfl, zx_2c rfl, zx_0 rfl, zx_0 rfl, zx_0 rfl, zx_1 rfl, zx_0 rfl, zx_0 rfl, zx_0 rfl, zx_0 rfl, zx_0 rfl, zx_0 rfl, zx_0 rfl, zx_0 rfl, zx_0 rfl, zx_0 rfl, zx_1 rfl, zx_0 rfl⟩
set_option maxRecDepth 20000 in
theorem lA_10 {L : Nat} {xs : Nat → Int32} {H H1 : zH} {k I : Int} {x6 x7 x8 : Option Value} (hl : zl H 0 = L) (hm : ∀ n, n < L → zm H 0 n = .int (Int32.ofInt (xs n).toInt)) (hI : 0 ≤ I ∧ I + 6 ≤ (L : Int) ∧ (L : Int) ≤ 3072) (e : zc 197 4 [.ref 3, .int (Int32.ofInt (xs (I + 1).toNat).toInt), .ref 68] H = some (.inl (some (.int (Int32.ofInt k))), H1)) : zx 219 917 [some (.ref 0), some (.ref 3), some (.ref 32), some (.ref 68), some (.ref 69), some (.int (Int32.ofInt I)), x6, x7, x8] [] H = zx 219 930 [some (.ref 0), some (.ref 3), some (.ref 32), some (.ref 68), some (.ref 69), some (.int (Int32.ofInt I)), some (.int (Int32.ofInt k)), x7, x8] [] H1 := by
  simp (disch := omega) only [zentry, zs0, zs1, zs2, zs3, zg_lo, zg_st, zg_st2, zg_ald, zg_ast, zs_ia, zs_i0, zg_ii, zi_max, zi_min, zi_abi, zi_abf, zi_fb, zi_bf, lget, lst, lst2, lc2, Option.map_some, zso, if_true, if_false, zc1, and_true, true_and, and_self, List.length_nil, List.length_cons, Nat.zero_le, reduceIte, reduceCtorEq, false_and, and_false, Bool.false_eq_true, zca_some, zr0, zr100, Option.bind_some, zb_none, zb_some, zrc, or_true, true_or, eq_self, ne_eq, not_true_eq_false, not_false_eq_true, zrt_i, zrt_zb, zrt_b, zrt_c, zrt_l, zrt_f, zrt_r, zrt_n, zrt_v, zft_0, zft_1, zft_zb, zft_3, zft_4, zft_5, zft_7r, zft_7n, iI_t, zb_i, zb_0, zb_1, Nat.reduceAdd, Nat.reduceLeDiff, Nat.reduceEqDiff, Nat.reduceSub, Int.reduceNeg, iI_add, iI_sub, iI_mul, iI_neg, zbz, zin, if_pos, if_neg, Int.toNat_natCast, Int.natCast_zero, Int.reduceToNat, zt1, zt2, zt3, zt4, zt5, zt6, zt7, zt8, y219_10a, hl, hm, e]
set_option maxRecDepth 20000 in
theorem lB_10 {L : Nat} {xs : Nat → Int32} {H1 H2 : zH} {k I : Int} {x7 x8 : Option Value} {b : Int} (hl : zl H1 0 = L) (hm : ∀ n, n < L → zm H1 0 n = .int (Int32.ofInt (xs n).toInt)) (h32 : zk H1 32 = 6) (hI : 0 ≤ I ∧ I + 6 ≤ (L : Int) ∧ (L : Int) ≤ 3072) (e : zc 121 2 [.ref 32, .int (Int32.ofInt (xs (I + 1).toNat).toInt)] H1 = some (.inl (some (.int (Int32.ofInt b))), H2)) : zx 219 930 [some (.ref 0), some (.ref 3), some (.ref 32), some (.ref 68), some (.ref 69), some (.int (Int32.ofInt I)), some (.int (Int32.ofInt k)), x7, x8] [] H1 = zx 219 942 [some (.ref 0), some (.ref 3), some (.ref 32), some (.ref 68), some (.ref 69), some (.int (Int32.ofInt I)), some (.int (Int32.ofInt k)), some (.int (Int32.ofInt b)), x8] [] H2 := by
  simp (disch := omega) only [zentry, zs0, zs1, zs2, zs3, zg_lo, zg_st, zg_st2, zg_ald, zg_ast, zs_ia, zs_i0, zg_ii, zi_max, zi_min, zi_abi, zi_abf, zi_fb, zi_bf, lget, lst, lst2, lc2, Option.map_some, zso, if_true, if_false, zc1, and_true, true_and, and_self, List.length_nil, List.length_cons, Nat.zero_le, reduceIte, reduceCtorEq, false_and, and_false, Bool.false_eq_true, zca_some, zr0, zr100, Option.bind_some, zb_none, zb_some, zrc, or_true, true_or, eq_self, ne_eq, not_true_eq_false, not_false_eq_true, zrt_i, zrt_zb, zrt_b, zrt_c, zrt_l, zrt_f, zrt_r, zrt_n, zrt_v, zft_0, zft_1, zft_zb, zft_3, zft_4, zft_5, zft_7r, zft_7n, iI_t, zb_i, zb_0, zb_1, Nat.reduceAdd, Nat.reduceLeDiff, Nat.reduceEqDiff, Nat.reduceSub, Int.reduceNeg, iI_add, iI_sub, iI_mul, iI_neg, zbz, zin, if_pos, if_neg, Int.toNat_natCast, Int.natCast_zero, Int.reduceToNat, zt1, zt2, zt3, zt4, zt5, zt6, zt7, zt8, y219_10b, hl, hm, h32, e]
set_option maxRecDepth 20000 in
theorem lC_10 {H2 : zH} {k I : Int} {x8 : Option Value} {b v : Int} (h32 : zk H2 32 = 6) (e : zc 103 1 [.ref 32] H2 = some (.inl (some (.int (Int32.ofInt k))), H2)) (rk : iR k) (rb : iR b) (k68 : zk H2 68 = 24) (l68 : zl H2 68 = 1) (m68 : zm H2 68 0 = .long (Int64.ofInt v)) (hv : k = 0 → v = b) : zx 219 942 [some (.ref 0), some (.ref 3), some (.ref 32), some (.ref 68), some (.ref 69), some (.int (Int32.ofInt I)), some (.int (Int32.ofInt k)), some (.int (Int32.ofInt b)), x8] [] H2 = zx 219 2268 [some (.ref 0), some (.ref 3), some (.ref 32), some (.ref 68), some (.ref 69), some (.int (Int32.ofInt I)), some (.int (Int32.ofInt k)), some (.int (Int32.ofInt b)), x8] [] H2 := by
  by_cases g : k = 0
  · subst g
    have hb : v = b := hv rfl
    simp (disch := omega) only [zentry, zs0, zs1, zs2, zs3, zg_lo, zg_st, zg_st2, zg_ald, zg_ast, zs_ia, zs_i0, zg_ii, zi_max, zi_min, zi_abi, zi_abf, zi_fb, zi_bf, lget, lst, lst2, lc2, Option.map_some, zso, if_true, if_false, zc1, and_true, true_and, and_self, List.length_nil, List.length_cons, Nat.zero_le, reduceIte, reduceCtorEq, false_and, and_false, Bool.false_eq_true, zca_some, zr0, zr100, Option.bind_some, zb_none, zb_some, zrc, or_true, true_or, eq_self, ne_eq, not_true_eq_false, not_false_eq_true, zrt_i, zrt_zb, zrt_b, zrt_c, zrt_l, zrt_f, zrt_r, zrt_n, zrt_v, zft_0, zft_1, zft_zb, zft_3, zft_4, zft_5, zft_7r, zft_7n, iI_t, zb_i, zb_0, zb_1, Nat.reduceAdd, Nat.reduceLeDiff, Nat.reduceEqDiff, Nat.reduceSub, Int.reduceNeg, iI_add, iI_sub, iI_mul, iI_neg, zbz, zin, if_pos, if_neg, Int.toNat_natCast, Int.natCast_zero, Int.reduceToNat, zt1, zt2, zt3, zt4, zt5, zt6, zt7, zt8, y219_10c, h32, e, k68, l68, m68, hb, zl_ii, lw_l1]
  · simp (disch := omega) only [zentry, zs0, zs1, zs2, zs3, zg_lo, zg_st, zg_st2, zg_ald, zg_ast, zs_ia, zs_i0, zg_ii, zi_max, zi_min, zi_abi, zi_abf, zi_fb, zi_bf, lget, lst, lst2, lc2, Option.map_some, zso, if_true, if_false, zc1, and_true, true_and, and_self, List.length_nil, List.length_cons, Nat.zero_le, reduceIte, reduceCtorEq, false_and, and_false, Bool.false_eq_true, zca_some, zr0, zr100, Option.bind_some, zb_none, zb_some, zrc, or_true, true_or, eq_self, ne_eq, not_true_eq_false, not_false_eq_true, zrt_i, zrt_zb, zrt_b, zrt_c, zrt_l, zrt_f, zrt_r, zrt_n, zrt_v, zft_0, zft_1, zft_zb, zft_3, zft_4, zft_5, zft_7r, zft_7n, iI_t, zb_i, zb_0, zb_1, Nat.reduceAdd, Nat.reduceLeDiff, Nat.reduceEqDiff, Nat.reduceSub, Int.reduceNeg, iI_add, iI_sub, iI_mul, iI_neg, zbz, zin, if_pos, if_neg, Int.toNat_natCast, Int.natCast_zero, Int.reduceToNat, zt1, zt2, zt3, zt4, zt5, zt6, zt7, zt8, y219_10c, h32, e, g]
set_option maxRecDepth 4000 in
theorem y219_11a :
  (∀ (ls : zL) (st : zS) (h : zH), zx 219 973 ls st h = zgo 219 (zpure (.aload_n 1) 974 0 [] ls st h)) ∧
  (∀ (ls : zL) (st : zS) (h : zH), zx 219 974 ls st h = zgo 219 (zpure (.aload_n 0) 975 0 [] ls st h)) ∧
  (∀ (ls : zL) (st : zS) (h : zH), zx 219 975 ls st h = zgo 219 (zpure (.iload 5) 977 0 [] ls st h)) ∧
  (∀ (ls : zL) (st : zS) (h : zH), zx 219 977 ls st h = zgo 219 (zpure (.iconst 1) 978 0 [] ls st h)) ∧
  (∀ (ls : zL) (st : zS) (h : zH), zx 219 978 ls st h = zgo 219 (zpure .iadd 979 0 [] ls st h)) ∧
  (∀ (ls : zL) (st : zS) (h : zH), zx 219 979 ls st h = zgo 219 (zpure .iaload 980 0 [] ls st h)) ∧
  (∀ (ls : zL) (st : zS) (h : zH), zx 219 980 ls st h = zgo 219 (zpure (.aload_n 3) 981 0 [] ls st h)) ∧
  (∀ (ls : zL) (st : zS) (h : zH), zx 219 981 ls st h = zca 219 981 984 ls 198 4 0 (ztake 3 st) h) ∧
  (∀ (ls : zL) (st : zS) (h : zH), zx 219 984 ls st h = zgo 219 (zpure (.istore 6) 986 0 [] ls st h)) :=
  ⟨zx_0 rfl, zx_0 rfl, zx_0 rfl, zx_0 rfl, zx_0 rfl, zx_0 rfl, zx_0 rfl, zx_2c rfl, zx_0 rfl⟩
set_option maxRecDepth 4000 in
theorem y219_11b :
  (∀ (ls : zL) (st : zS) (h : zH), zx 219 986 ls st h = zgo 219 (zpure (.aload_n 2) 987 0 [] ls st h)) ∧
  (∀ (ls : zL) (st : zS) (h : zH), zx 219 987 ls st h = zgo 219 (zpure (.aload_n 0) 988 0 [] ls st h)) ∧
  (∀ (ls : zL) (st : zS) (h : zH), zx 219 988 ls st h = zgo 219 (zpure (.iload 5) 990 0 [] ls st h)) ∧
  (∀ (ls : zL) (st : zS) (h : zH), zx 219 990 ls st h = zgo 219 (zpure (.iconst 1) 991 0 [] ls st h)) ∧
  (∀ (ls : zL) (st : zS) (h : zH), zx 219 991 ls st h = zgo 219 (zpure .iadd 992 0 [] ls st h)) ∧
  (∀ (ls : zL) (st : zS) (h : zH), zx 219 992 ls st h = zgo 219 (zpure .iaload 993 0 [] ls st h)) ∧
  (∀ (ls : zL) (st : zS) (h : zH), zx 219 993 ls st h = zca 219 993 996 ls 139 2 7 (ztake 2 st) h) ∧
  (∀ (ls : zL) (st : zS) (h : zH), zx 219 996 ls st h = zgo 219 (zpure (.istore 7) 998 0 [] ls st h)) :=
  ⟨zx_0 rfl, zx_0 rfl, zx_0 rfl, zx_0 rfl, zx_0 rfl, zx_0 rfl, zx_2c rfl, zx_0 rfl⟩
set_option maxRecDepth 4000 in
theorem y219_11c :
  (∀ (ls : zL) (st : zS) (h : zH), zx 219 998 ls st h = zgo 219 (zpure (.aload_n 2) 999 0 [] ls st h)) ∧
  (∀ (ls : zL) (st : zS) (h : zH), zx 219 999 ls st h = zca 219 999 1002 ls 103 1 7 (ztake 1 st) h) ∧
  (∀ (ls : zL) (st : zS) (h : zH), zx 219 1002 ls st h = zgo 219 (zpure (.iload 6) 1004 0 [] ls st h)) ∧
  (∀ (ls : zL) (st : zS) (h : zH), zx 219 1004 ls st h = zgo 219 (zpure (.if_icmp .eq 5) 1007 1009 [] ls st h)) ∧
  (∀ (ls : zL) (st : zS) (h : zH), zx 219 1007 ls st h = zgo 219 (zpure (.iconst 0) 1008 0 [] ls st h)) ∧
  (∀ (ls : zL) (st : zS) (h : zH), zx 219 1008 ls st h = zret 1 st h) ∧
  (∀ (ls : zL) (st : zS) (h : zH), zx 219 1009 ls st h = zgo 219 (zpure (.iload 6) 1011 0 [] ls st h)) ∧
  (∀ (ls : zL) (st : zS) (h : zH), zx 219 1011 ls st h = zgo 219 (zpure (.ifCond .ne 15) 1014 1026 [] ls st h)) ∧
  (∀ (ls : zL) (st : zS) (h : zH), zx 219 1014 ls st h = zgo 219 (zpure (.aload_n 3) 1015 0 [] ls st h)) ∧
  (∀ (ls : zL) (st : zS) (h : zH), zx 219 1015 ls st h = zgo 219 (zpure (.iconst 0) 1016 0 [] ls st h)) ∧
  (∀ (ls : zL) (st : zS) (h : zH), zx 219 1016 ls st h = zgo 219 (zpure .laload 1017 0 [] ls st h)) ∧
  (∀ (ls : zL) (st : zS) (h : zH), zx 219 1017 ls st h = zgo 219 (zpure (.iload 7) 1019 0 [] ls st h)) ∧
  (∀ (ls : zL) (st : zS) (h : zH), zx 219 1019 ls st h = zgo 219 (zpure .i2l 1020 0 [] ls st h)) ∧
  (∀ (ls : zL) (st : zS) (h : zH), zx 219 1020 ls st h = zgo 219 (zpure .lcmp 1021 0 [] ls st h)) ∧
  (∀ (ls : zL) (st : zS) (h : zH), zx 219 1021 ls st h = zgo 219 (zpure (.ifCond .eq 5) 1024 1026 [] ls st h)) ∧
  (∀ (ls : zL) (st : zS) (h : zH), zx 219 1024 ls st h = zgo 219 (zpure (.iconst 0) 1025 0 [] ls st h)) ∧
  (∀ (ls : zL) (st : zS) (h : zH), zx 219 1025 ls st h = zret 1 st h) ∧
  (∀ (ls : zL) (st : zS) (h : zH), zx 219 1026 ls st h = zgo 219 (zpure (.goto 1242) 1029 2268 [] ls st h)) :=
  ⟨zx_0 rfl, zx_2c rfl, zx_0 rfl, zx_0 rfl, zx_0 rfl, zx_1 rfl, zx_0 rfl, zx_0 rfl, zx_0 rfl, zx_0 rfl, zx_0 rfl, zx_0 rfl, zx_0 rfl, zx_0 rfl, zx_0 rfl, zx_0 rfl, zx_1 rfl, zx_0 rfl⟩
set_option maxRecDepth 20000 in
theorem lA_11 {L : Nat} {xs : Nat → Int32} {H H1 : zH} {k I : Int} {x6 x7 x8 : Option Value} (hl : zl H 0 = L) (hm : ∀ n, n < L → zm H 0 n = .int (Int32.ofInt (xs n).toInt)) (hI : 0 ≤ I ∧ I + 6 ≤ (L : Int) ∧ (L : Int) ≤ 3072) (e : zc 198 4 [.ref 3, .int (Int32.ofInt (xs (I + 1).toNat).toInt), .ref 68] H = some (.inl (some (.int (Int32.ofInt k))), H1)) : zx 219 973 [some (.ref 0), some (.ref 3), some (.ref 32), some (.ref 68), some (.ref 69), some (.int (Int32.ofInt I)), x6, x7, x8] [] H = zx 219 986 [some (.ref 0), some (.ref 3), some (.ref 32), some (.ref 68), some (.ref 69), some (.int (Int32.ofInt I)), some (.int (Int32.ofInt k)), x7, x8] [] H1 := by
  simp (disch := omega) only [zentry, zs0, zs1, zs2, zs3, zg_lo, zg_st, zg_st2, zg_ald, zg_ast, zs_ia, zs_i0, zg_ii, zi_max, zi_min, zi_abi, zi_abf, zi_fb, zi_bf, lget, lst, lst2, lc2, Option.map_some, zso, if_true, if_false, zc1, and_true, true_and, and_self, List.length_nil, List.length_cons, Nat.zero_le, reduceIte, reduceCtorEq, false_and, and_false, Bool.false_eq_true, zca_some, zr0, zr100, Option.bind_some, zb_none, zb_some, zrc, or_true, true_or, eq_self, ne_eq, not_true_eq_false, not_false_eq_true, zrt_i, zrt_zb, zrt_b, zrt_c, zrt_l, zrt_f, zrt_r, zrt_n, zrt_v, zft_0, zft_1, zft_zb, zft_3, zft_4, zft_5, zft_7r, zft_7n, iI_t, zb_i, zb_0, zb_1, Nat.reduceAdd, Nat.reduceLeDiff, Nat.reduceEqDiff, Nat.reduceSub, Int.reduceNeg, iI_add, iI_sub, iI_mul, iI_neg, zbz, zin, if_pos, if_neg, Int.toNat_natCast, Int.natCast_zero, Int.reduceToNat, zt1, zt2, zt3, zt4, zt5, zt6, zt7, zt8, y219_11a, hl, hm, e]
set_option maxRecDepth 20000 in
theorem lB_11 {L : Nat} {xs : Nat → Int32} {H1 H2 : zH} {k I : Int} {x7 x8 : Option Value} {b : Int} (hl : zl H1 0 = L) (hm : ∀ n, n < L → zm H1 0 n = .int (Int32.ofInt (xs n).toInt)) (h32 : zk H1 32 = 6) (hI : 0 ≤ I ∧ I + 6 ≤ (L : Int) ∧ (L : Int) ≤ 3072) (e : zc 139 2 [.ref 32, .int (Int32.ofInt (xs (I + 1).toNat).toInt)] H1 = some (.inl (some (.int (Int32.ofInt b))), H2)) : zx 219 986 [some (.ref 0), some (.ref 3), some (.ref 32), some (.ref 68), some (.ref 69), some (.int (Int32.ofInt I)), some (.int (Int32.ofInt k)), x7, x8] [] H1 = zx 219 998 [some (.ref 0), some (.ref 3), some (.ref 32), some (.ref 68), some (.ref 69), some (.int (Int32.ofInt I)), some (.int (Int32.ofInt k)), some (.int (Int32.ofInt b)), x8] [] H2 := by
  simp (disch := omega) only [zentry, zs0, zs1, zs2, zs3, zg_lo, zg_st, zg_st2, zg_ald, zg_ast, zs_ia, zs_i0, zg_ii, zi_max, zi_min, zi_abi, zi_abf, zi_fb, zi_bf, lget, lst, lst2, lc2, Option.map_some, zso, if_true, if_false, zc1, and_true, true_and, and_self, List.length_nil, List.length_cons, Nat.zero_le, reduceIte, reduceCtorEq, false_and, and_false, Bool.false_eq_true, zca_some, zr0, zr100, Option.bind_some, zb_none, zb_some, zrc, or_true, true_or, eq_self, ne_eq, not_true_eq_false, not_false_eq_true, zrt_i, zrt_zb, zrt_b, zrt_c, zrt_l, zrt_f, zrt_r, zrt_n, zrt_v, zft_0, zft_1, zft_zb, zft_3, zft_4, zft_5, zft_7r, zft_7n, iI_t, zb_i, zb_0, zb_1, Nat.reduceAdd, Nat.reduceLeDiff, Nat.reduceEqDiff, Nat.reduceSub, Int.reduceNeg, iI_add, iI_sub, iI_mul, iI_neg, zbz, zin, if_pos, if_neg, Int.toNat_natCast, Int.natCast_zero, Int.reduceToNat, zt1, zt2, zt3, zt4, zt5, zt6, zt7, zt8, y219_11b, hl, hm, h32, e]
set_option maxRecDepth 20000 in
theorem lC_11 {H2 : zH} {k I : Int} {x8 : Option Value} {b v : Int} (h32 : zk H2 32 = 6) (e : zc 103 1 [.ref 32] H2 = some (.inl (some (.int (Int32.ofInt k))), H2)) (rk : iR k) (rb : iR b) (k68 : zk H2 68 = 24) (l68 : zl H2 68 = 1) (m68 : zm H2 68 0 = .long (Int64.ofInt v)) (hv : k = 0 → v = b) : zx 219 998 [some (.ref 0), some (.ref 3), some (.ref 32), some (.ref 68), some (.ref 69), some (.int (Int32.ofInt I)), some (.int (Int32.ofInt k)), some (.int (Int32.ofInt b)), x8] [] H2 = zx 219 2268 [some (.ref 0), some (.ref 3), some (.ref 32), some (.ref 68), some (.ref 69), some (.int (Int32.ofInt I)), some (.int (Int32.ofInt k)), some (.int (Int32.ofInt b)), x8] [] H2 := by
  by_cases g : k = 0
  · subst g
    have hb : v = b := hv rfl
    simp (disch := omega) only [zentry, zs0, zs1, zs2, zs3, zg_lo, zg_st, zg_st2, zg_ald, zg_ast, zs_ia, zs_i0, zg_ii, zi_max, zi_min, zi_abi, zi_abf, zi_fb, zi_bf, lget, lst, lst2, lc2, Option.map_some, zso, if_true, if_false, zc1, and_true, true_and, and_self, List.length_nil, List.length_cons, Nat.zero_le, reduceIte, reduceCtorEq, false_and, and_false, Bool.false_eq_true, zca_some, zr0, zr100, Option.bind_some, zb_none, zb_some, zrc, or_true, true_or, eq_self, ne_eq, not_true_eq_false, not_false_eq_true, zrt_i, zrt_zb, zrt_b, zrt_c, zrt_l, zrt_f, zrt_r, zrt_n, zrt_v, zft_0, zft_1, zft_zb, zft_3, zft_4, zft_5, zft_7r, zft_7n, iI_t, zb_i, zb_0, zb_1, Nat.reduceAdd, Nat.reduceLeDiff, Nat.reduceEqDiff, Nat.reduceSub, Int.reduceNeg, iI_add, iI_sub, iI_mul, iI_neg, zbz, zin, if_pos, if_neg, Int.toNat_natCast, Int.natCast_zero, Int.reduceToNat, zt1, zt2, zt3, zt4, zt5, zt6, zt7, zt8, y219_11c, h32, e, k68, l68, m68, hb, zl_ii, lw_l1]
  · simp (disch := omega) only [zentry, zs0, zs1, zs2, zs3, zg_lo, zg_st, zg_st2, zg_ald, zg_ast, zs_ia, zs_i0, zg_ii, zi_max, zi_min, zi_abi, zi_abf, zi_fb, zi_bf, lget, lst, lst2, lc2, Option.map_some, zso, if_true, if_false, zc1, and_true, true_and, and_self, List.length_nil, List.length_cons, Nat.zero_le, reduceIte, reduceCtorEq, false_and, and_false, Bool.false_eq_true, zca_some, zr0, zr100, Option.bind_some, zb_none, zb_some, zrc, or_true, true_or, eq_self, ne_eq, not_true_eq_false, not_false_eq_true, zrt_i, zrt_zb, zrt_b, zrt_c, zrt_l, zrt_f, zrt_r, zrt_n, zrt_v, zft_0, zft_1, zft_zb, zft_3, zft_4, zft_5, zft_7r, zft_7n, iI_t, zb_i, zb_0, zb_1, Nat.reduceAdd, Nat.reduceLeDiff, Nat.reduceEqDiff, Nat.reduceSub, Int.reduceNeg, iI_add, iI_sub, iI_mul, iI_neg, zbz, zin, if_pos, if_neg, Int.toNat_natCast, Int.natCast_zero, Int.reduceToNat, zt1, zt2, zt3, zt4, zt5, zt6, zt7, zt8, y219_11c, h32, e, g]

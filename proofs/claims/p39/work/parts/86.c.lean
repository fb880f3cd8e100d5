/-! the law's loop: a day aired, a choice asked for; a step as a whole -/
theorem y243_12 :
  (∀ (ls : zL) (st : zS) (h : zH), zx 243 446 ls st h = zgo 243 (zpure (.aload_n 1) 447 0 [] ls st h)) ∧
  (∀ (ls : zL) (st : zS) (h : zH), zx 243 447 ls st h = zca 243 447 450 ls 62 3 6 (ztake 1 st) h) ∧
  (∀ (ls : zL) (st : zS) (h : zH), zx 243 450 ls st h = zgo 243 (zpure (.istore 13) 452 0 [] ls st h)) ∧
  (∀ (ls : zL) (st : zS) (h : zH), zx 243 452 ls st h = zgo 243 (zpure (.aload_n 1) 453 0 [] ls st h)) ∧
  (∀ (ls : zL) (st : zS) (h : zH), zx 243 453 ls st h = zca 243 453 456 ls 56 1 6 (ztake 1 st) h) ∧
  (∀ (ls : zL) (st : zS) (h : zH), zx 243 456 ls st h = zgo 243 (zpure (.istore 14) 458 0 [] ls st h)) ∧
  (∀ (ls : zL) (st : zS) (h : zH), zx 243 458 ls st h = zgo 243 (zpure (.aload_n 1) 459 0 [] ls st h)) ∧
  (∀ (ls : zL) (st : zS) (h : zH), zx 243 459 ls st h = zca 243 459 462 ls 72 1 6 (ztake 1 st) h) ∧
  (∀ (ls : zL) (st : zS) (h : zH), zx 243 462 ls st h = zgo 243 (zpure (.istore 15) 464 0 [] ls st h)) ∧
  (∀ (ls : zL) (st : zS) (h : zH), zx 243 464 ls st h = zgo 243 (zpure (.aload_n 1) 465 0 [] ls st h)) ∧
  (∀ (ls : zL) (st : zS) (h : zH), zx 243 465 ls st h = zca 243 465 468 ls 236 2 0 (ztake 1 st) h) ∧
  (∀ (ls : zL) (st : zS) (h : zH), zx 243 468 ls st h = zgo 243 (zpure (.istore 11) 470 0 [] ls st h)) ∧
  (∀ (ls : zL) (st : zS) (h : zH), zx 243 470 ls st h = zgo 243 (zpure (.iload 11) 472 0 [] ls st h)) ∧
  (∀ (ls : zL) (st : zS) (h : zH), zx 243 472 ls st h = zgo 243 (zpure (.iload 14) 474 0 [] ls st h)) ∧
  (∀ (ls : zL) (st : zS) (h : zH), zx 243 474 ls st h = zgo 243 (zpure (.if_icmp .ne 45) 477 519 [] ls st h)) ∧
  (∀ (ls : zL) (st : zS) (h : zH), zx 243 477 ls st h = zgo 243 (zpure (.aload_n 1) 478 0 [] ls st h)) ∧
  (∀ (ls : zL) (st : zS) (h : zH), zx 243 478 ls st h = zca 243 478 481 ls 73 1 6 (ztake 1 st) h) ∧
  (∀ (ls : zL) (st : zS) (h : zH), zx 243 481 ls st h = zgo 243 (zpure (.iload 14) 483 0 [] ls st h)) ∧
  (∀ (ls : zL) (st : zS) (h : zH), zx 243 483 ls st h = zgo 243 (zpure (.if_icmp .ne 36) 486 519 [] ls st h)) ∧
  (∀ (ls : zL) (st : zS) (h : zH), zx 243 486 ls st h = zgo 243 (zpure (.aload_n 1) 487 0 [] ls st h)) ∧
  (∀ (ls : zL) (st : zS) (h : zH), zx 243 487 ls st h = zca 243 487 490 ls 72 1 6 (ztake 1 st) h) ∧
  (∀ (ls : zL) (st : zS) (h : zH), zx 243 490 ls st h = zgo 243 (zpure (.iload 15) 492 0 [] ls st h)) ∧
  (∀ (ls : zL) (st : zS) (h : zH), zx 243 492 ls st h = zgo 243 (zpure (.iconst 1) 493 0 [] ls st h)) ∧
  (∀ (ls : zL) (st : zS) (h : zH), zx 243 493 ls st h = zgo 243 (zpure .iadd 494 0 [] ls st h)) ∧
  (∀ (ls : zL) (st : zS) (h : zH), zx 243 494 ls st h = zgo 243 (zpure (.if_icmp .ne 25) 497 519 [] ls st h)) ∧
  (∀ (ls : zL) (st : zS) (h : zH), zx 243 497 ls st h = zgo 243 (zpure (.aload_n 1) 498 0 [] ls st h)) ∧
  (∀ (ls : zL) (st : zS) (h : zH), zx 243 498 ls st h = zca 243 498 501 ls 237 2 0 (ztake 1 st) h) ∧
  (∀ (ls : zL) (st : zS) (h : zH), zx 243 501 ls st h = zgo 243 (zpure (.ifCond .lt 18) 504 519 [] ls st h)) ∧
  (∀ (ls : zL) (st : zS) (h : zH), zx 243 504 ls st h = zgo 243 (zpure (.aload_n 1) 505 0 [] ls st h)) ∧
  (∀ (ls : zL) (st : zS) (h : zH), zx 243 505 ls st h = zca 243 505 508 ls 237 2 0 (ztake 1 st) h) ∧
  (∀ (ls : zL) (st : zS) (h : zH), zx 243 508 ls st h = zgo 243 (zpure (.sipush 3600) 511 0 [] ls st h)) ∧
  (∀ (ls : zL) (st : zS) (h : zH), zx 243 511 ls st h = zgo 243 (zpure (.if_icmp .gt 8) 514 519 [] ls st h)) ∧
  (∀ (ls : zL) (st : zS) (h : zH), zx 243 514 ls st h = zgo 243 (zpure (.iload 13) 516 0 [] ls st h)) ∧
  (∀ (ls : zL) (st : zS) (h : zH), zx 243 516 ls st h = zgo 243 (zpure (.ifCond .ge 5) 519 521 [] ls st h)) ∧
  (∀ (ls : zL) (st : zS) (h : zH), zx 243 519 ls st h = zgo 243 (zpure (.iconst 0) 520 0 [] ls st h)) ∧
  (∀ (ls : zL) (st : zS) (h : zH), zx 243 520 ls st h = zret 1 st h) ∧
  (∀ (ls : zL) (st : zS) (h : zH), zx 243 521 ls st h = zgo 243 (zpure (.goto 31) 524 552 [] ls st h)) :=
  ⟨zx_0 rfl, zx_2c rfl, zx_0 rfl, zx_0 rfl, zx_2c rfl, zx_0 rfl, zx_0 rfl, zx_2c rfl, zx_0 rfl, zx_0 rfl, zx_2c rfl, zx_0 rfl, zx_0 rfl, zx_0 rfl, zx_0 rfl, zx_0 rfl, zx_2c rfl, zx_0 rfl, zx_0 rfl, zx_0 rfl, zx_2c rfl, zx_0 rfl, zx_0 rfl, zx_0 rfl, zx_0 rfl, zx_0 rfl, zx_2c rfl, zx_0 rfl, zx_0 rfl, zx_2c rfl, zx_0 rfl, zx_0 rfl, zx_0 rfl, zx_0 rfl, zx_0 rfl, zx_1 rfl, zx_0 rfl⟩
theorem y243_13 :
  (∀ (ls : zL) (st : zS) (h : zH), zx 243 524 ls st h = zgo 243 (zpure (.aload_n 1) 525 0 [] ls st h)) ∧
  (∀ (ls : zL) (st : zS) (h : zH), zx 243 525 ls st h = zgo 243 (zpure (.bipush 15) 527 0 [] ls st h)) ∧
  (∀ (ls : zL) (st : zS) (h : zH), zx 243 527 ls st h = zgo 243 (zpure (.iconst 1) 528 0 [] ls st h)) ∧
  (∀ (ls : zL) (st : zS) (h : zH), zx 243 528 ls st h = zgo 243 (zpure (.iload 5) 530 0 [] ls st h)) ∧
  (∀ (ls : zL) (st : zS) (h : zH), zx 243 530 ls st h = zgo 243 (zpure (.bipush 90) 532 0 [] ls st h)) ∧
  (∀ (ls : zL) (st : zS) (h : zH), zx 243 532 ls st h = zgo 243 (zpure .irem 533 0 [] ls st h)) ∧
  (∀ (ls : zL) (st : zS) (h : zH), zx 243 533 ls st h = zgo 243 (zpure .iadd 534 0 [] ls st h)) ∧
  (∀ (ls : zL) (st : zS) (h : zH), zx 243 534 ls st h = zgo 243 (zpure .imul 535 0 [] ls st h)) ∧
  (∀ (ls : zL) (st : zS) (h : zH), zx 243 535 ls st h = zgo 243 (zpure (.iload 5) 537 0 [] ls st h)) ∧
  (∀ (ls : zL) (st : zS) (h : zH), zx 243 537 ls st h = zgo 243 (zpure (.bipush 90) 539 0 [] ls st h)) ∧
  (∀ (ls : zL) (st : zS) (h : zH), zx 243 539 ls st h = zgo 243 (zpure .idiv 540 0 [] ls st h)) ∧
  (∀ (ls : zL) (st : zS) (h : zH), zx 243 540 ls st h = zgo 243 (zpure (.bipush 60) 542 0 [] ls st h)) ∧
  (∀ (ls : zL) (st : zS) (h : zH), zx 243 542 ls st h = zgo 243 (zpure .irem 543 0 [] ls st h)) ∧
  (∀ (ls : zL) (st : zS) (h : zH), zx 243 543 ls st h = zgo 243 (zpure .ineg 544 0 [] ls st h)) ∧
  (∀ (ls : zL) (st : zS) (h : zH), zx 243 544 ls st h = zca 243 544 547 ls 242 7 0 (ztake 3 st) h) ∧
  (∀ (ls : zL) (st : zS) (h : zH), zx 243 547 ls st h = zgo 243 (zpure (.ifCond .ne 5) 550 552 [] ls st h)) ∧
  (∀ (ls : zL) (st : zS) (h : zH), zx 243 550 ls st h = zgo 243 (zpure (.iconst 0) 551 0 [] ls st h)) ∧
  (∀ (ls : zL) (st : zS) (h : zH), zx 243 551 ls st h = zret 1 st h) :=
  ⟨zx_0 rfl, zx_0 rfl, zx_0 rfl, zx_0 rfl, zx_0 rfl, zx_0 rfl, zx_0 rfl, zx_0 rfl, zx_0 rfl, zx_0 rfl, zx_0 rfl, zx_0 rfl, zx_0 rfl, zx_0 rfl, zx_2c rfl, zx_0 rfl, zx_0 rfl, zx_1 rfl⟩
theorem y243_14 :
  (∀ (ls : zL) (st : zS) (h : zH), zx 243 552 ls st h = zgo 243 (zpure (.iload 11) 554 0 [] ls st h)) ∧
  (∀ (ls : zL) (st : zS) (h : zH), zx 243 554 ls st h = zgo 243 (zpure (.sipush (-1000)) 557 0 [] ls st h)) ∧
  (∀ (ls : zL) (st : zS) (h : zH), zx 243 557 ls st h = zgo 243 (zpure (.if_icmp .ge 18) 560 575 [] ls st h)) ∧
  (∀ (ls : zL) (st : zS) (h : zH), zx 243 560 ls st h = zgo 243 (zpure (.iload 8) 562 0 [] ls st h)) ∧
  (∀ (ls : zL) (st : zS) (h : zH), zx 243 562 ls st h = zgo 243 (zpure (.ifCond .eq 13) 565 575 [] ls st h)) ∧
  (∀ (ls : zL) (st : zS) (h : zH), zx 243 565 ls st h = zgo 243 (zpure (.aload_n 1) 566 0 [] ls st h)) ∧
  (∀ (ls : zL) (st : zS) (h : zH), zx 243 566 ls st h = zca 243 566 569 ls 240 4 0 (ztake 1 st) h) ∧
  (∀ (ls : zL) (st : zS) (h : zH), zx 243 569 ls st h = zgo 243 (zpure (.lload 9) 571 0 [] ls st h)) ∧
  (∀ (ls : zL) (st : zS) (h : zH), zx 243 571 ls st h = zgo 243 (zpure .lcmp 572 0 [] ls st h)) ∧
  (∀ (ls : zL) (st : zS) (h : zH), zx 243 572 ls st h = zgo 243 (zpure (.ifCond .ne 21) 575 593 [] ls st h)) :=
  ⟨zx_0 rfl, zx_0 rfl, zx_0 rfl, zx_0 rfl, zx_0 rfl, zx_0 rfl, zx_2c rfl, zx_0 rfl, zx_0 rfl, zx_0 rfl⟩
theorem y243_15 :
  (∀ (ls : zL) (st : zS) (h : zH), zx 243 575 ls st h = zgo 243 (zpure (.iload_n 3) 576 0 [] ls st h)) ∧
  (∀ (ls : zL) (st : zS) (h : zH), zx 243 576 ls st h = zgo 243 (zpure (.bipush 10) 578 0 [] ls st h)) ∧
  (∀ (ls : zL) (st : zS) (h : zH), zx 243 578 ls st h = zgo 243 (zpure .irem 579 0 [] ls st h)) ∧
  (∀ (ls : zL) (st : zS) (h : zH), zx 243 579 ls st h = zgo 243 (zpure (.bipush 9) 581 0 [] ls st h)) ∧
  (∀ (ls : zL) (st : zS) (h : zH), zx 243 581 ls st h = zgo 243 (zpure (.if_icmp .ne 14) 584 595 [] ls st h)) ∧
  (∀ (ls : zL) (st : zS) (h : zH), zx 243 584 ls st h = zgo 243 (zpure (.aload_n 1) 585 0 [] ls st h)) ∧
  (∀ (ls : zL) (st : zS) (h : zH), zx 243 585 ls st h = zgo 243 (zpure (.iload 5) 587 0 [] ls st h)) ∧
  (∀ (ls : zL) (st : zS) (h : zH), zx 243 587 ls st h = zca 243 587 590 ls 241 11 0 (ztake 2 st) h) ∧
  (∀ (ls : zL) (st : zS) (h : zH), zx 243 590 ls st h = zgo 243 (zpure (.ifCond .ne 5) 593 595 [] ls st h)) ∧
  (∀ (ls : zL) (st : zS) (h : zH), zx 243 593 ls st h = zgo 243 (zpure (.iconst 0) 594 0 [] ls st h)) ∧
  (∀ (ls : zL) (st : zS) (h : zH), zx 243 594 ls st h = zret 1 st h) ∧
  (∀ (ls : zL) (st : zS) (h : zH), zx 243 595 ls st h = zgo 243 (zpure (.iinc 3 1) 598 0 [] ls st h)) ∧
  (∀ (ls : zL) (st : zS) (h : zH), zx 243 598 ls st h = zgo 243 (zpure (.goto (-577)) 601 21 [] ls st h)) :=
  ⟨zx_0 rfl, zx_0 rfl, zx_0 rfl, zx_0 rfl, zx_0 rfl, zx_0 rfl, zx_0 rfl, zx_2c rfl, zx_0 rfl, zx_0 rfl, zx_1 rfl, zx_0 rfl, zx_0 rfl⟩
section WRP
variable {L : Nat} {xs : Nat → Int32} {c n : Nat} {G : zD} {H : zH} {st k v w cl ev sw kd : Int} {bf : Int64} {x13 x14 x15 : Option Value}
set_option maxRecDepth 20000 in
set_option maxRecDepth 20000 in
theorem lb_9 (hkd : kd = 17) (hc : c ≤ 80) (p : St L xs c n G H) : lbR L xs c n G H st k v w cl ev sw bf kd x13 x14 x15 := by
  have hO := p.ok.1
  have l6 := (lyF_ok hO).2.1
  have sb := slS_b (lyF_ok hO).1 _ (Nat.le_refl _)
  have st3 := lnS_t (lyF_ok hO).1
  have hd := p.G7.2.2.2.2
  have hd0 := hO.1.2.1.1
  obtain ⟨-, H1, e1, p1⟩ := p.x62
  obtain ⟨-, H2, e2, p2⟩ := p1.x56
  obtain ⟨-, H3, e3, p3⟩ := p2.x72
  obtain ⟨its, H4, e4, ⟨-, hv, G1, p4, a1, a2, a3, a4⟩ | ⟨ht, -⟩⟩ := w236 p3 hc
  · obtain ⟨-, H5, e5, p5⟩ := p4.x73
    obtain ⟨-, H6, e6, p6⟩ := p5.x72
    obtain ⟨v7, H7, e7, p7, b7⟩ := w237 p6
    obtain ⟨v8, H8, e8, p8, b8⟩ := w237 p7
    rw [a1] at a2
    rw [a1] at e5
    rw [a3] at e6
    subst a2
    have v7b : 0 ≤ v7 ∧ v7 ≤ 3600 := by omega
    have v8b : 0 ≤ v8 ∧ v8 ≤ 3600 := by omega
    have k0 := p.k3
    have k1 := p1.k3
    have k2 := p2.k3
    have k4 := p4.k3
    have k5 := p5.k3
    refine ⟨((lyF G).2.1.length : Int), some (.int (Int32.ofInt (slS (lyF G).2.1 (lyF G).2.1.length))), some (.int (Int32.ofInt ((lyF G).2.1.length : Int))), some (.int (Int32.ofInt (G 32 16))), H8, ?_, ⟨by omega, by omega⟩, Or.inl ⟨by omega, c + 1, G1, Nat.le_refl _, p8.le (by omega)⟩⟩
    clear p p1 p2 p3 p4 p5 p6 p7 p8 hO a1 a3 a4 b7 b8
    have slb : 0 ≤ slS (lyF G).2.1 (lyF G).2.1.length ∧ slS (lyF G).2.1 (lyF G).2.1.length ≤ 3600 := by omega
    clear sb st3
    generalize slS (lyF G).2.1 (lyF G).2.1.length = sl at *
    have l6' : ((lyF G).2.1.length : Int) ≤ 116 := by omega
    have l7' : 0 ≤ ((lyF G).2.1.length : Int) := by omega
    clear l6
    generalize ((lyF G).2.1.length : Int) = N at *
    generalize G 32 16 = dy at *
    simp (disch := first | omega | (simp (disch := omega) only [zwr_s, zwr_a, zwr_i, zn_put, zn_new, zn_fil, zn_chg, zV_n]; omega)) only [zentry, zs0, zs1, zs2, zs3, zg_lo, zg_st, zg_st2, zg_ald, zg_ast, zs_ia, zs_i0, zg_ii, zi_max, zi_min, zi_abi, zi_abf, zi_fb, zi_bf, lget, lst, lst2, lc2, Option.map_some, zso, if_true, if_false, zc1, and_true, true_and, and_self, List.length_nil, List.length_cons, Nat.zero_le, reduceIte, reduceCtorEq, false_and, and_false, Bool.false_eq_true, zca_some, zr0, zr100, Option.bind_some, zb_none, zb_some, zrc, or_true, true_or, eq_self, ne_eq, not_true_eq_false, not_false_eq_true, zrt_i, zrt_zb, zrt_b, zrt_c, zrt_l, zrt_f, zrt_r, zrt_n, zrt_v, zft_0, zft_1, zft_zb, zft_3, zft_4, zft_5, zft_7r, zft_7n, iI_t, zb_i, zb_0, zb_1, Nat.reduceAdd, Nat.reduceLeDiff, Nat.reduceEqDiff, Nat.reduceSub, Int.reduceNeg, iI_add, iI_sub, iI_mul, iI_neg, zbz, zchar_id, zin, zwr_s, zwr_a, zwr_i, if_pos, if_neg, Int.toNat_natCast, Int.natCast_zero, Int.reduceToNat, y243_d, y243_12, zt1, k0, k1, k2, k4, k5, e1, e2, e3, e4, e5, e6, e7, e8]
  · rw [if_neg (by omega)] at ht
    omega
set_option maxRecDepth 20000 in
set_option maxRecDepth 20000 in
theorem lb_10 (hw : 0 ≤ w ∧ w ≤ 5000000) (hkd : 18 ≤ kd ∧ kd < 20) (p : St L xs c n G H) : lbR L xs c n G H st k v w cl ev sw bf kd x13 x14 x15 := by
  obtain ⟨H1, e1, p1⟩ := w242 (gap := 15 * (1 + (w - w / 90 * 90))) (lev := -(w / 90 - w / 90 / 60 * 60)) ⟨by omega, by omega⟩ ⟨by omega, by omega⟩ p
  refine ⟨0, x13, x14, x15, H1, ?_, ⟨by omega, by omega⟩, Or.inr (p1.le (by omega))⟩
  clear p p1
  simp (disch := first | omega | (simp (disch := omega) only [zwr_s, zwr_a, zwr_i, zn_put, zn_new, zn_fil, zn_chg, zV_n]; omega)) only [zentry, zs0, zs1, zs2, zs3, zg_lo, zg_st, zg_st2, zg_ald, zg_ast, zs_ia, zs_i0, zg_ii, zi_max, zi_min, zi_abi, zi_abf, zi_fb, zi_bf, lget, lst, lst2, lc2, Option.map_some, zso, if_true, if_false, zc1, and_true, true_and, and_self, List.length_nil, List.length_cons, Nat.zero_le, reduceIte, reduceCtorEq, false_and, and_false, Bool.false_eq_true, zca_some, zr0, zr100, Option.bind_some, zb_none, zb_some, zrc, or_true, true_or, eq_self, ne_eq, not_true_eq_false, not_false_eq_true, zrt_i, zrt_zb, zrt_b, zrt_c, zrt_l, zrt_f, zrt_r, zrt_n, zrt_v, zft_0, zft_1, zft_zb, zft_3, zft_4, zft_5, zft_7r, zft_7n, iI_t, zb_i, zb_0, zb_1, Nat.reduceAdd, Nat.reduceLeDiff, Nat.reduceEqDiff, Nat.reduceSub, Int.reduceNeg, iI_add, iI_sub, iI_mul, iI_neg, zbz, zchar_id, zin, zwr_s, zwr_a, zwr_i, if_pos, if_neg, Int.toNat_natCast, Int.natCast_zero, Int.reduceToNat, y243_d, y243_13, zt3, e1, zg_idiv, zg_irem, iI_z, iI_divn]
theorem lb_all (hw : 0 ≤ w ∧ w ≤ 5000000) (hcl : 1 ≤ cl ∧ cl ≤ 12) (hev : 1 ≤ ev ∧ ev ≤ 12) (hkd : 0 ≤ kd ∧ kd < 20) (hc : c ≤ 80) (p : St L xs c n G H) : lbR L xs c n G H st k v w cl ev sw bf kd x13 x14 x15 := by
  by_cases g1 : kd < 2
  · exact lb_1 hw ⟨hkd.1, g1⟩ hc p
  by_cases g2 : kd < 4
  · exact lb_2 hw ⟨by omega, g2⟩ hc p
  by_cases g3 : kd < 10
  · exact lb_3 hw hcl ⟨by omega, g3⟩ hc p
  by_cases g4 : kd = 10
  · exact lb_4 hw hev g4 hc p
  by_cases g5 : kd = 11
  · exact lb_5 hw hev g5 hc p
  by_cases g6 : kd < 14
  · exact lb_6 hw hev ⟨by omega, g6⟩ hc p
  by_cases g7 : kd < 16
  · exact lb_7 hw hev ⟨by omega, g7⟩ hc p
  by_cases g8 : kd = 16
  · exact lb_8 hw hcl g8 hc p
  by_cases g9 : kd = 17
  · exact lb_9 g9 hc p
  · exact lb_10 hw ⟨by omega, hkd.2⟩ p
set_option maxRecDepth 20000 in
set_option maxRecDepth 20000 in
theorem lc_1 {its : Int} (hb : -1004 ≤ its ∧ its ≤ 100000) (hs : sw = 0 ∨ (sw = 1 ∧ sumIs L xs G bf)) (s : stp L xs c n G H its) : ∃ (c' : Nat) (G1 : zD) (H1 : zH), zx 243 552 (lwM st k v w cl ev sw bf its kd x13 x14 x15) [] H = zx 243 575 (lwM st k v w cl ev sw bf its kd x13 x14 x15) [] H1 ∧ c' ≤ c + 1 ∧ St L xs c' (n + 700) G1 H1 := by
  rcases s with ⟨h0, c', G1, hc, p⟩ | p
  · refine ⟨c', G1, H, ?_, hc, p.le (by omega)⟩
    clear p hs
    simp (disch := first | omega | (simp (disch := omega) only [zwr_s, zwr_a, zwr_i, zn_put, zn_new, zn_fil, zn_chg, zV_n]; omega)) only [zentry, zs0, zs1, zs2, zs3, zg_lo, zg_st, zg_st2, zg_ald, zg_ast, zs_ia, zs_i0, zg_ii, zi_max, zi_min, zi_abi, zi_abf, zi_fb, zi_bf, lget, lst, lst2, lc2, Option.map_some, zso, if_true, if_false, zc1, and_true, true_and, and_self, List.length_nil, List.length_cons, Nat.zero_le, reduceIte, reduceCtorEq, false_and, and_false, Bool.false_eq_true, zca_some, zr0, zr100, Option.bind_some, zb_none, zb_some, zrc, or_true, true_or, eq_self, ne_eq, not_true_eq_false, not_false_eq_true, zrt_i, zrt_zb, zrt_b, zrt_c, zrt_l, zrt_f, zrt_r, zrt_n, zrt_v, zft_0, zft_1, zft_zb, zft_3, zft_4, zft_5, zft_7r, zft_7n, iI_t, zb_i, zb_0, zb_1, Nat.reduceAdd, Nat.reduceLeDiff, Nat.reduceEqDiff, Nat.reduceSub, Int.reduceNeg, iI_add, iI_sub, iI_mul, iI_neg, zbz, zchar_id, zin, zwr_s, zwr_a, zwr_i, if_pos, if_neg, Int.toNat_natCast, Int.natCast_zero, Int.reduceToNat, y243_14, zt1]
  · by_cases g : -1000 ≤ its
    · refine ⟨c, G, H, ?_, by omega, p.le (by omega)⟩
      clear p hs
      simp (disch := first | omega | (simp (disch := omega) only [zwr_s, zwr_a, zwr_i, zn_put, zn_new, zn_fil, zn_chg, zV_n]; omega)) only [zentry, zs0, zs1, zs2, zs3, zg_lo, zg_st, zg_st2, zg_ald, zg_ast, zs_ia, zs_i0, zg_ii, zi_max, zi_min, zi_abi, zi_abf, zi_fb, zi_bf, lget, lst, lst2, lc2, Option.map_some, zso, if_true, if_false, zc1, and_true, true_and, and_self, List.length_nil, List.length_cons, Nat.zero_le, reduceIte, reduceCtorEq, false_and, and_false, Bool.false_eq_true, zca_some, zr0, zr100, Option.bind_some, zb_none, zb_some, zrc, or_true, true_or, eq_self, ne_eq, not_true_eq_false, not_false_eq_true, zrt_i, zrt_zb, zrt_b, zrt_c, zrt_l, zrt_f, zrt_r, zrt_n, zrt_v, zft_0, zft_1, zft_zb, zft_3, zft_4, zft_5, zft_7r, zft_7n, iI_t, zb_i, zb_0, zb_1, Nat.reduceAdd, Nat.reduceLeDiff, Nat.reduceEqDiff, Nat.reduceSub, Int.reduceNeg, iI_add, iI_sub, iI_mul, iI_neg, zbz, zchar_id, zin, zwr_s, zwr_a, zwr_i, if_pos, if_neg, Int.toNat_natCast, Int.natCast_zero, Int.reduceToNat, y243_14, zt1]
    · rcases hs with rfl | ⟨rfl, hs⟩
      · refine ⟨c, G, H, ?_, by omega, p.le (by omega)⟩
        clear p
        simp (disch := first | omega | (simp (disch := omega) only [zwr_s, zwr_a, zwr_i, zn_put, zn_new, zn_fil, zn_chg, zV_n]; omega)) only [zentry, zs0, zs1, zs2, zs3, zg_lo, zg_st, zg_st2, zg_ald, zg_ast, zs_ia, zs_i0, zg_ii, zi_max, zi_min, zi_abi, zi_abf, zi_fb, zi_bf, lget, lst, lst2, lc2, Option.map_some, zso, if_true, if_false, zc1, and_true, true_and, and_self, List.length_nil, List.length_cons, Nat.zero_le, reduceIte, reduceCtorEq, false_and, and_false, Bool.false_eq_true, zca_some, zr0, zr100, Option.bind_some, zb_none, zb_some, zrc, or_true, true_or, eq_self, ne_eq, not_true_eq_false, not_false_eq_true, zrt_i, zrt_zb, zrt_b, zrt_c, zrt_l, zrt_f, zrt_r, zrt_n, zrt_v, zft_0, zft_1, zft_zb, zft_3, zft_4, zft_5, zft_7r, zft_7n, iI_t, zb_i, zb_0, zb_1, Nat.reduceAdd, Nat.reduceLeDiff, Nat.reduceEqDiff, Nat.reduceSub, Int.reduceNeg, iI_add, iI_sub, iI_mul, iI_neg, zbz, zchar_id, zin, zwr_s, zwr_a, zwr_i, if_pos, if_neg, Int.toNat_natCast, Int.natCast_zero, Int.reduceToNat, y243_14, zt1]
      · obtain ⟨H1, e1, p1⟩ := hs c n H p
        refine ⟨c, G, H1, ?_, by omega, p1⟩
        clear p p1 hs
        have h0 : (bf < bf) = False := eq_false (by rw [Int64.lt_iff_toInt_lt]; omega)
        have h1 : (0 : Int32).toInt = 0 := rfl
        simp (disch := first | omega | (simp (disch := omega) only [zwr_s, zwr_a, zwr_i, zn_put, zn_new, zn_fil, zn_chg, zV_n]; omega)) only [zentry, zs0, zs1, zs2, zs3, zg_lo, zg_st, zg_st2, zg_ald, zg_ast, zs_ia, zs_i0, zg_ii, zi_max, zi_min, zi_abi, zi_abf, zi_fb, zi_bf, lget, lst, lst2, lc2, Option.map_some, zso, if_true, if_false, zc1, and_true, true_and, and_self, List.length_nil, List.length_cons, Nat.zero_le, reduceIte, reduceCtorEq, false_and, and_false, Bool.false_eq_true, zca_some, zr0, zr100, Option.bind_some, zb_none, zb_some, zrc, or_true, true_or, eq_self, ne_eq, not_true_eq_false, not_false_eq_true, zrt_i, zrt_zb, zrt_b, zrt_c, zrt_l, zrt_f, zrt_r, zrt_n, zrt_v, zft_0, zft_1, zft_zb, zft_3, zft_4, zft_5, zft_7r, zft_7n, iI_t, zb_i, zb_0, zb_1, Nat.reduceAdd, Nat.reduceLeDiff, Nat.reduceEqDiff, Nat.reduceSub, Int.reduceNeg, iI_add, iI_sub, iI_mul, iI_neg, zbz, zchar_id, zin, zwr_s, zwr_a, zwr_i, if_pos, if_neg, Int.toNat_natCast, Int.natCast_zero, Int.reduceToNat, y243_14, zt1, e1, h0, h1]
set_option maxRecDepth 20000 in
set_option maxRecDepth 20000 in
theorem lc_2 {its : Int} (hk : 0 ≤ k ∧ k ≤ 60) (hw : 0 ≤ w ∧ w ≤ 5000000) (p : St L xs c n G H) : ∃ (H1 : zH), zx 243 575 (lwM st k v w cl ev sw bf its kd x13 x14 x15) [] H = zx 243 21 (lwM st (k + 1) v w cl ev sw bf its kd x13 x14 x15) [] H1 ∧ St L xs c (n + 1100) G H1 := by
  by_cases g : k - k / 10 * 10 = 9
  · obtain ⟨H1, e1, p1⟩ := w241 (w := w) ⟨hw.1, by omega⟩ p
    refine ⟨H1, ?_, p1⟩
    clear p p1
    simp (disch := first | omega | (simp (disch := omega) only [zwr_s, zwr_a, zwr_i, zn_put, zn_new, zn_fil, zn_chg, zV_n]; omega)) only [zentry, zs0, zs1, zs2, zs3, zg_lo, zg_st, zg_st2, zg_ald, zg_ast, zs_ia, zs_i0, zg_ii, zi_max, zi_min, zi_abi, zi_abf, zi_fb, zi_bf, lget, lst, lst2, lc2, Option.map_some, zso, if_true, if_false, zc1, and_true, true_and, and_self, List.length_nil, List.length_cons, Nat.zero_le, reduceIte, reduceCtorEq, false_and, and_false, Bool.false_eq_true, zca_some, zr0, zr100, Option.bind_some, zb_none, zb_some, zrc, or_true, true_or, eq_self, ne_eq, not_true_eq_false, not_false_eq_true, zrt_i, zrt_zb, zrt_b, zrt_c, zrt_l, zrt_f, zrt_r, zrt_n, zrt_v, zft_0, zft_1, zft_zb, zft_3, zft_4, zft_5, zft_7r, zft_7n, iI_t, zb_i, zb_0, zb_1, Nat.reduceAdd, Nat.reduceLeDiff, Nat.reduceEqDiff, Nat.reduceSub, Int.reduceNeg, iI_add, iI_sub, iI_mul, iI_neg, zbz, zchar_id, zin, zwr_s, zwr_a, zwr_i, if_pos, if_neg, Int.toNat_natCast, Int.natCast_zero, Int.reduceToNat, y243_15, zt2, e1, zg_irem, iI_z, iI_divn]
  · refine ⟨H, ?_, p.le (by omega)⟩
    clear p
    simp (disch := first | omega | (simp (disch := omega) only [zwr_s, zwr_a, zwr_i, zn_put, zn_new, zn_fil, zn_chg, zV_n]; omega)) only [zentry, zs0, zs1, zs2, zs3, zg_lo, zg_st, zg_st2, zg_ald, zg_ast, zs_ia, zs_i0, zg_ii, zi_max, zi_min, zi_abi, zi_abf, zi_fb, zi_bf, lget, lst, lst2, lc2, Option.map_some, zso, if_true, if_false, zc1, and_true, true_and, and_self, List.length_nil, List.length_cons, Nat.zero_le, reduceIte, reduceCtorEq, false_and, and_false, Bool.false_eq_true, zca_some, zr0, zr100, Option.bind_some, zb_none, zb_some, zrc, or_true, true_or, eq_self, ne_eq, not_true_eq_false, not_false_eq_true, zrt_i, zrt_zb, zrt_b, zrt_c, zrt_l, zrt_f, zrt_r, zrt_n, zrt_v, zft_0, zft_1, zft_zb, zft_3, zft_4, zft_5, zft_7r, zft_7n, iI_t, zb_i, zb_0, zb_1, Nat.reduceAdd, Nat.reduceLeDiff, Nat.reduceEqDiff, Nat.reduceSub, Int.reduceNeg, iI_add, iI_sub, iI_mul, iI_neg, zbz, zchar_id, zin, zwr_s, zwr_a, zwr_i, if_pos, if_neg, Int.toNat_natCast, Int.natCast_zero, Int.reduceToNat, y243_15, zt2, zg_irem, iI_z, iI_divn]
theorem lw_step {x4 x5 x6 x7 x8 x9 x10 x11 x12 : Option Value} (hL : L ≤ 3072) (hk : 0 ≤ k ∧ k < st ∧ st ≤ 60) (hc : c ≤ 80) (p : St L xs c n G H) : ∃ (y4 y5 y6 y7 y8 y9 y10 y11 y12 y13 y14 y15 : Option Value) (c' : Nat) (G1 : zD) (H1 : zH), zx 243 21 (lwL st k x4 x5 x6 x7 x8 x9 x10 x11 x12 x13 x14 x15) [] H = zx 243 21 (lwL st (k + 1) y4 y5 y6 y7 y8 y9 y10 y11 y12 y13 y14 y15) [] H1 ∧ c' ≤ c + 1 ∧ St L xs c' (n + 2600) G1 H1 := by
  obtain ⟨v, w, cl, ev, sw, kd, bf, H1, e1, ⟨b1, b2, b3, b4⟩, b5, b6, p1⟩ := la_A (x4 := x4) (x5 := x5) (x6 := x6) (x7 := x7) (x8 := x8) (x9 := x9) (x10 := x10) (x11 := x11) (x12 := x12) (x13 := x13) (x14 := x14) (x15 := x15) hL hk p
  obtain ⟨its, y13, y14, y15, H2, e2, bi, s2⟩ := lb_all (st := st) (k := k) (v := v) (sw := sw) (bf := bf) (x13 := x13) (x14 := x14) (x15 := x15) b2 b3 b4 b5 hc p1
  obtain ⟨c', G1, H3, e3, hc', p3⟩ := lc_1 (st := st) (k := k) (v := v) (w := w) (cl := cl) (ev := ev) (kd := kd) (x13 := y13) (x14 := y14) (x15 := y15) bi b6 s2
  obtain ⟨H4, e4, p4⟩ := lc_2 (st := st) (k := k) (v := v) (w := w) (cl := cl) (ev := ev) (sw := sw) (bf := bf) (kd := kd) (x13 := y13) (x14 := y14) (x15 := y15) (its := its) ⟨hk.1, by omega⟩ b2 p3
  exact ⟨_, _, _, _, _, _, _, _, _, _, _, _, c', G1, H4, e1.trans (e2.trans (e3.trans e4)), hc', p4.le (by omega)⟩
theorem lw_loop (hL : L ≤ 3072) : ∀ (m : Nat) (k : Int) (c n : Nat) (G : zD) (H : zH) (x4 x5 x6 x7 x8 x9 x10 x11 x12 x13 x14 x15 : Option Value), 0 ≤ k → k + m = st → st ≤ 60 → (c : Int) ≤ k → St L xs c n G H → ∃ (y4 y5 y6 y7 y8 y9 y10 y11 y12 y13 y14 y15 : Option Value) (c' : Nat) (G1 : zD) (H1 : zH), zx 243 21 (lwL st k x4 x5 x6 x7 x8 x9 x10 x11 x12 x13 x14 x15) [] H = zx 243 21 (lwL st st y4 y5 y6 y7 y8 y9 y10 y11 y12 y13 y14 y15) [] H1 ∧ (c' : Int) ≤ st ∧ St L xs c' (n + 2600 * m) G1 H1
  | 0, k, c, n, G, H, x4, x5, x6, x7, x8, x9, x10, x11, x12, x13, x14, x15, h0, hk, hs, hc, p => by
    have : k = st := by omega
    subst this
    exact ⟨x4, x5, x6, x7, x8, x9, x10, x11, x12, x13, x14, x15, c, G, H, rfl, hc, p⟩
  | m + 1, k, c, n, G, H, x4, x5, x6, x7, x8, x9, x10, x11, x12, x13, x14, x15, h0, hk, hs, hc, p => by
    obtain ⟨y4, y5, y6, y7, y8, y9, y10, y11, y12, y13, y14, y15, c1, G1, H1, e1, h1, p1⟩ := lw_step (x4 := x4) (x5 := x5) (x6 := x6) (x7 := x7) (x8 := x8) (x9 := x9) (x10 := x10) (x11 := x11) (x12 := x12) (x13 := x13) (x14 := x14) (x15 := x15) (k := k) (st := st) hL ⟨h0, by omega, hs⟩ (by omega) p
    obtain ⟨z4, z5, z6, z7, z8, z9, z10, z11, z12, z13, z14, z15, c2, G2, H2, e2, h2, p2⟩ := lw_loop hL m (k + 1) c1 _ G1 H1 y4 y5 y6 y7 y8 y9 y10 y11 y12 y13 y14 y15 (by omega) (by omega) hs (by omega) p1
    exact ⟨z4, z5, z6, z7, z8, z9, z10, z11, z12, z13, z14, z15, c2, G2, H2, e1.trans e2, h2, p2.le (by omega)⟩
end WRP

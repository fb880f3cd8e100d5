/-! the law's loop: what a step begins with -/
abbrev lwL (st k : Int) (x4 x5 x6 x7 x8 x9 x10 x11 x12 x13 x14 x15 : Option Value) : zL := [some (.ref 0), some (.ref 3), some (.int (Int32.ofInt st)), some (.int (Int32.ofInt k)), x4, x5, x6, x7, x8, x9, x10, x11, x12, x13, x14, x15]
abbrev lwM (st k v w cl ev sw : Int) (bf : Int64) (its kd : Int) (x13 x14 x15 : Option Value) : zL := [some (.ref 0), some (.ref 3), some (.int (Int32.ofInt st)), some (.int (Int32.ofInt k)), some (.int (Int32.ofInt v)), some (.int (Int32.ofInt w)), some (.int (Int32.ofInt cl)), some (.int (Int32.ofInt ev)), some (.int (Int32.ofInt sw)), some (.long bf), none, some (.int (Int32.ofInt its)), some (.int (Int32.ofInt kd)), x13, x14, x15]
def sumIs (L : Nat) (xs : Nat → Int32) (G : zD) (s : Int64) : Prop := ∀ (c n : Nat) (H : zH), St L xs c n G H → ∃ H1, zc 240 4 [.ref 3] H = some (.inl (some (.long s)), H1) ∧ St L xs c (n + 700) G H1
theorem y243_1 :
  (∀ (ls : zL) (st : zS) (h : zH), zx 243 21 ls st h = zgo 243 (zpure (.iload_n 3) 22 0 [] ls st h)) ∧
  (∀ (ls : zL) (st : zS) (h : zH), zx 243 22 ls st h = zgo 243 (zpure (.iload_n 2) 23 0 [] ls st h)) ∧
  (∀ (ls : zL) (st : zS) (h : zH), zx 243 23 ls st h = zgo 243 (zpure (.if_icmp .ge 578) 26 601 [] ls st h)) ∧
  (∀ (ls : zL) (st : zS) (h : zH), zx 243 26 ls st h = zgo 243 (zpure (.aload_n 0) 27 0 [] ls st h)) ∧
  (∀ (ls : zL) (st : zS) (h : zH), zx 243 27 ls st h = zgo 243 (zpure (.iconst 1) 28 0 [] ls st h)) ∧
  (∀ (ls : zL) (st : zS) (h : zH), zx 243 28 ls st h = zgo 243 (zpure (.iload_n 3) 29 0 [] ls st h)) ∧
  (∀ (ls : zL) (st : zS) (h : zH), zx 243 29 ls st h = zgo 243 (zpure .iadd 30 0 [] ls st h)) ∧
  (∀ (ls : zL) (st : zS) (h : zH), zx 243 30 ls st h = zca 243 30 33 ls 220 2 0 (ztake 2 st) h) ∧
  (∀ (ls : zL) (st : zS) (h : zH), zx 243 33 ls st h = zgo 243 (zpure (.ldc 206) 35 0 [0, 100000000] ls st h)) ∧
  (∀ (ls : zL) (st : zS) (h : zH), zx 243 35 ls st h = zca 243 35 38 ls 221 3 0 (ztake 2 st) h) ∧
  (∀ (ls : zL) (st : zS) (h : zH), zx 243 38 ls st h = zgo 243 (zpure (.istore 4) 40 0 [] ls st h)) ∧
  (∀ (ls : zL) (st : zS) (h : zH), zx 243 40 ls st h = zgo 243 (zpure (.iload 4) 42 0 [] ls st h)) ∧
  (∀ (ls : zL) (st : zS) (h : zH), zx 243 42 ls st h = zgo 243 (zpure (.bipush 20) 44 0 [] ls st h)) ∧
  (∀ (ls : zL) (st : zS) (h : zH), zx 243 44 ls st h = zgo 243 (zpure .idiv 45 0 [] ls st h)) ∧
  (∀ (ls : zL) (st : zS) (h : zH), zx 243 45 ls st h = zgo 243 (zpure (.istore 5) 47 0 [] ls st h)) ∧
  (∀ (ls : zL) (st : zS) (h : zH), zx 243 47 ls st h = zgo 243 (zpure (.iconst 1) 48 0 [] ls st h)) ∧
  (∀ (ls : zL) (st : zS) (h : zH), zx 243 48 ls st h = zgo 243 (zpure (.aload_n 1) 49 0 [] ls st h)) ∧
  (∀ (ls : zL) (st : zS) (h : zH), zx 243 49 ls st h = zca 243 49 52 ls 239 2 0 (ztake 1 st) h) ∧
  (∀ (ls : zL) (st : zS) (h : zH), zx 243 52 ls st h = zgo 243 (zpure (.invokestatic 207) 55 0 [1] ls st h)) ∧
  (∀ (ls : zL) (st : zS) (h : zH), zx 243 55 ls st h = zgo 243 (zpure (.istore 6) 57 0 [] ls st h)) ∧
  (∀ (ls : zL) (st : zS) (h : zH), zx 243 57 ls st h = zgo 243 (zpure (.iconst 1) 58 0 [] ls st h)) ∧
  (∀ (ls : zL) (st : zS) (h : zH), zx 243 58 ls st h = zgo 243 (zpure (.aload_n 1) 59 0 [] ls st h)) ∧
  (∀ (ls : zL) (st : zS) (h : zH), zx 243 59 ls st h = zca 243 59 62 ls 51 1 6 (ztake 1 st) h) ∧
  (∀ (ls : zL) (st : zS) (h : zH), zx 243 62 ls st h = zgo 243 (zpure (.invokestatic 207) 65 0 [1] ls st h)) ∧
  (∀ (ls : zL) (st : zS) (h : zH), zx 243 65 ls st h = zgo 243 (zpure (.istore 7) 67 0 [] ls st h)) :=
  ⟨zx_0 rfl, zx_0 rfl, zx_0 rfl, zx_0 rfl, zx_0 rfl, zx_0 rfl, zx_0 rfl, zx_2c rfl, zx_0 rfl, zx_2c rfl, zx_0 rfl, zx_0 rfl, zx_0 rfl, zx_0 rfl, zx_0 rfl, zx_0 rfl, zx_0 rfl, zx_2c rfl, zx_0 rfl, zx_0 rfl, zx_0 rfl, zx_0 rfl, zx_2c rfl, zx_0 rfl, zx_0 rfl⟩
theorem y243_2 :
  (∀ (ls : zL) (st : zS) (h : zH), zx 243 67 ls st h = zgo 243 (zpure (.iload_n 3) 68 0 [] ls st h)) ∧
  (∀ (ls : zL) (st : zS) (h : zH), zx 243 68 ls st h = zgo 243 (zpure (.iconst 3) 69 0 [] ls st h)) ∧
  (∀ (ls : zL) (st : zS) (h : zH), zx 243 69 ls st h = zgo 243 (zpure .irem 70 0 [] ls st h)) ∧
  (∀ (ls : zL) (st : zS) (h : zH), zx 243 70 ls st h = zgo 243 (zpure (.ifCond .ne 7) 73 77 [] ls st h)) ∧
  (∀ (ls : zL) (st : zS) (h : zH), zx 243 73 ls st h = zgo 243 (zpure (.iconst 1) 74 0 [] ls st h)) ∧
  (∀ (ls : zL) (st : zS) (h : zH), zx 243 74 ls st h = zgo 243 (zpure (.goto 4) 77 78 [] ls st h)) ∧
  (∀ (ls : zL) (st : zS) (h : zH), zx 243 77 ls st h = zgo 243 (zpure (.iconst 0) 78 0 [] ls st h)) ∧
  (∀ (ls : zL) (st : zS) (h : zH), zx 243 78 ls st h = zgo 243 (zpure (.istore 8) 80 0 [] ls st h)) ∧
  (∀ (ls : zL) (st : zS) (h : zH), zx 243 80 ls st h = zgo 243 (zpure (.iload 8) 82 0 [] ls st h)) ∧
  (∀ (ls : zL) (st : zS) (h : zH), zx 243 82 ls st h = zgo 243 (zpure (.ifCond .eq 10) 85 92 [] ls st h)) ∧
  (∀ (ls : zL) (st : zS) (h : zH), zx 243 85 ls st h = zgo 243 (zpure (.aload_n 1) 86 0 [] ls st h)) ∧
  (∀ (ls : zL) (st : zS) (h : zH), zx 243 86 ls st h = zca 243 86 89 ls 240 4 0 (ztake 1 st) h) ∧
  (∀ (ls : zL) (st : zS) (h : zH), zx 243 89 ls st h = zgo 243 (zpure (.goto 4) 92 93 [] ls st h)) ∧
  (∀ (ls : zL) (st : zS) (h : zH), zx 243 92 ls st h = zgo 243 (zpure (.lconst 0) 93 0 [] ls st h)) ∧
  (∀ (ls : zL) (st : zS) (h : zH), zx 243 93 ls st h = zgo 243 (zpure (.lstore 9) 95 0 [] ls st h)) ∧
  (∀ (ls : zL) (st : zS) (h : zH), zx 243 95 ls st h = zgo 243 (zpure (.iconst 0) 96 0 [] ls st h)) ∧
  (∀ (ls : zL) (st : zS) (h : zH), zx 243 96 ls st h = zgo 243 (zpure (.istore 11) 98 0 [] ls st h)) :=
  ⟨zx_0 rfl, zx_0 rfl, zx_0 rfl, zx_0 rfl, zx_0 rfl, zx_0 rfl, zx_0 rfl, zx_0 rfl, zx_0 rfl, zx_0 rfl, zx_0 rfl, zx_2c rfl, zx_0 rfl, zx_0 rfl, zx_0 rfl, zx_0 rfl, zx_0 rfl⟩
theorem y243_3 :
  (∀ (ls : zL) (st : zS) (h : zH), zx 243 98 ls st h = zgo 243 (zpure (.iload_n 3) 99 0 [] ls st h)) ∧
  (∀ (ls : zL) (st : zS) (h : zH), zx 243 99 ls st h = zgo 243 (zpure (.iconst 2) 100 0 [] ls st h)) ∧
  (∀ (ls : zL) (st : zS) (h : zH), zx 243 100 ls st h = zgo 243 (zpure (.if_icmp .ge 7) 103 107 [] ls st h)) ∧
  (∀ (ls : zL) (st : zS) (h : zH), zx 243 103 ls st h = zgo 243 (zpure (.iconst 0) 104 0 [] ls st h)) ∧
  (∀ (ls : zL) (st : zS) (h : zH), zx 243 104 ls st h = zgo 243 (zpure (.goto 17) 107 121 [] ls st h)) ∧
  (∀ (ls : zL) (st : zS) (h : zH), zx 243 107 ls st h = zgo 243 (zpure (.iload_n 3) 108 0 [] ls st h)) ∧
  (∀ (ls : zL) (st : zS) (h : zH), zx 243 108 ls st h = zgo 243 (zpure (.iconst 5) 109 0 [] ls st h)) ∧
  (∀ (ls : zL) (st : zS) (h : zH), zx 243 109 ls st h = zgo 243 (zpure (.if_icmp .ge 7) 112 116 [] ls st h)) ∧
  (∀ (ls : zL) (st : zS) (h : zH), zx 243 112 ls st h = zgo 243 (zpure (.iconst 2) 113 0 [] ls st h)) ∧
  (∀ (ls : zL) (st : zS) (h : zH), zx 243 113 ls st h = zgo 243 (zpure (.goto 8) 116 121 [] ls st h)) ∧
  (∀ (ls : zL) (st : zS) (h : zH), zx 243 116 ls st h = zgo 243 (zpure (.iload 4) 118 0 [] ls st h)) ∧
  (∀ (ls : zL) (st : zS) (h : zH), zx 243 118 ls st h = zgo 243 (zpure (.bipush 20) 120 0 [] ls st h)) ∧
  (∀ (ls : zL) (st : zS) (h : zH), zx 243 120 ls st h = zgo 243 (zpure .irem 121 0 [] ls st h)) ∧
  (∀ (ls : zL) (st : zS) (h : zH), zx 243 121 ls st h = zgo 243 (zpure (.istore 12) 123 0 [] ls st h)) :=
  ⟨zx_0 rfl, zx_0 rfl, zx_0 rfl, zx_0 rfl, zx_0 rfl, zx_0 rfl, zx_0 rfl, zx_0 rfl, zx_0 rfl, zx_0 rfl, zx_0 rfl, zx_0 rfl, zx_0 rfl, zx_0 rfl⟩
theorem h100 : Int32.ofNat 100000000 = Int32.ofInt 100000000 := rfl
section WRP
variable {L : Nat} {xs : Nat → Int32} {c n : Nat} {G : zD} {H : zH}
theorem St.zi (p : St L xs c n G H) : zINV L xs H := p.1
set_option maxRecDepth 20000 in
set_option maxRecDepth 20000 in
theorem la_1 {st k : Int} {x4 x5 x6 x7 x8 x9 x10 x11 x12 x13 x14 x15 : Option Value} (hL : L ≤ 3072) (hk : 0 ≤ k ∧ k < st ∧ st ≤ 60) (p : St L xs c n G H) : ∃ (v w cl ev : Int) (H1 : zH), zx 243 21 (lwL st k x4 x5 x6 x7 x8 x9 x10 x11 x12 x13 x14 x15) [] H = zx 243 67 (lwL st k (some (.int (Int32.ofInt v))) (some (.int (Int32.ofInt w))) (some (.int (Int32.ofInt cl))) (some (.int (Int32.ofInt ev))) x8 x9 x10 x11 x12 x13 x14 x15) [] H1 ∧ ((0 ≤ v ∧ v < 100000000) ∧ (0 ≤ w ∧ w ≤ 5000000) ∧ (1 ≤ cl ∧ cl ≤ 12) ∧ (1 ≤ ev ∧ ev ≤ 12)) ∧ St L xs c (n + 14) G H1 := by
  have b := p.G7
  obtain ⟨s, hs, e1⟩ := w220 (k := 1 + k) p hL ⟨by omega, by omega⟩
  obtain ⟨v, hv, e2⟩ := w221 (H := H) (v := s) (m := 100000000) hs ⟨by omega, by omega⟩
  obtain ⟨H1, e3, p3⟩ := w239 p
  obtain ⟨-, H2, e4, p4⟩ := p3.x51
  have k3 := p3.k3
  refine ⟨v, v / 20, max 1 (G 32 7), max 1 (G 32 15), H2, ?_, ⟨hv, ⟨by omega, by omega⟩, ⟨by omega, by omega⟩, ⟨by omega, by omega⟩⟩, p4⟩
  clear p p3 p4
  generalize G 32 7 = n7 at *
  generalize G 32 15 = n15 at *
  simp (disch := first | omega | (simp (disch := omega) only [zwr_s, zwr_a, zwr_i, zn_put, zn_new, zn_fil, zn_chg, zV_n]; omega)) only [zentry, zs0, zs1, zs2, zs3, zg_lo, zg_st, zg_st2, zg_ald, zg_ast, zs_ia, zs_i0, zg_ii, zi_max, zi_min, zi_abi, zi_abf, zi_fb, zi_bf, lget, lst, lst2, lc2, Option.map_some, zso, if_true, if_false, zc1, and_true, true_and, and_self, List.length_nil, List.length_cons, Nat.zero_le, reduceIte, reduceCtorEq, false_and, and_false, Bool.false_eq_true, zca_some, zr0, zr100, Option.bind_some, zb_none, zb_some, zrc, or_true, true_or, eq_self, ne_eq, not_true_eq_false, not_false_eq_true, zrt_i, zrt_zb, zrt_b, zrt_c, zrt_l, zrt_f, zrt_r, zrt_n, zrt_v, zft_0, zft_1, zft_zb, zft_3, zft_4, zft_5, zft_7r, zft_7n, iI_t, zb_i, zb_0, zb_1, Nat.reduceAdd, Nat.reduceLeDiff, Nat.reduceEqDiff, Nat.reduceSub, Int.reduceNeg, iI_add, iI_sub, iI_mul, iI_neg, zbz, zchar_id, zin, zwr_s, zwr_a, zwr_i, if_pos, if_neg, Int.toNat_natCast, Int.natCast_zero, Int.reduceToNat, y243_1, h100, zt1, zt2, e1, e2, e3, e4, k3, zg_idiv, iI_z, iI_divn]
set_option maxRecDepth 20000 in
theorem la_2 {st k v w cl ev : Int} {x8 x9 x10 x11 x12 x13 x14 x15 : Option Value} (hk : 0 ≤ k ∧ k ≤ 60) (p : St L xs c n G H) : ∃ (sw : Int) (bf : Int64) (H1 : zH), zx 243 67 (lwL st k (some (.int (Int32.ofInt v))) (some (.int (Int32.ofInt w))) (some (.int (Int32.ofInt cl))) (some (.int (Int32.ofInt ev))) x8 x9 x10 x11 x12 x13 x14 x15) [] H = zx 243 98 (lwL st k (some (.int (Int32.ofInt v))) (some (.int (Int32.ofInt w))) (some (.int (Int32.ofInt cl))) (some (.int (Int32.ofInt ev))) (some (.int (Int32.ofInt sw))) (some (.long bf)) none (some (.int (Int32.ofInt 0))) x12 x13 x14 x15) [] H1 ∧ (sw = 0 ∨ (sw = 1 ∧ sumIs L xs G bf)) ∧ St L xs c (n + 700) G H1 := by
  by_cases g : k - k / 3 * 3 = 0
  · obtain ⟨s, hs⟩ := w240 p
    obtain ⟨H1, e1, p1⟩ := hs c n H p
    refine ⟨1, s, H1, ?_, Or.inr ⟨rfl, hs⟩, p1⟩
    clear p p1 hs
    simp (disch := first | omega | (simp (disch := omega) only [zwr_s, zwr_a, zwr_i, zn_put, zn_new, zn_fil, zn_chg, zV_n]; omega)) only [zentry, zs0, zs1, zs2, zs3, zg_lo, zg_st, zg_st2, zg_ald, zg_ast, zs_ia, zs_i0, zg_ii, zi_max, zi_min, zi_abi, zi_abf, zi_fb, zi_bf, lget, lst, lst2, lc2, Option.map_some, zso, if_true, if_false, zc1, and_true, true_and, and_self, List.length_nil, List.length_cons, Nat.zero_le, reduceIte, reduceCtorEq, false_and, and_false, Bool.false_eq_true, zca_some, zr0, zr100, Option.bind_some, zb_none, zb_some, zrc, or_true, true_or, eq_self, ne_eq, not_true_eq_false, not_false_eq_true, zrt_i, zrt_zb, zrt_b, zrt_c, zrt_l, zrt_f, zrt_r, zrt_n, zrt_v, zft_0, zft_1, zft_zb, zft_3, zft_4, zft_5, zft_7r, zft_7n, iI_t, zb_i, zb_0, zb_1, Nat.reduceAdd, Nat.reduceLeDiff, Nat.reduceEqDiff, Nat.reduceSub, Int.reduceNeg, iI_add, iI_sub, iI_mul, iI_neg, zbz, zchar_id, zin, zwr_s, zwr_a, zwr_i, if_pos, if_neg, Int.toNat_natCast, Int.natCast_zero, Int.reduceToNat, y243_2, zt1, e1, zg_irem, iI_z, iI_divn]
  · refine ⟨0, 0, H, ?_, Or.inl rfl, p.le (by omega)⟩
    clear p
    simp (disch := first | omega | (simp (disch := omega) only [zwr_s, zwr_a, zwr_i, zn_put, zn_new, zn_fil, zn_chg, zV_n]; omega)) only [zentry, zs0, zs1, zs2, zs3, zg_lo, zg_st, zg_st2, zg_ald, zg_ast, zs_ia, zs_i0, zg_ii, zi_max, zi_min, zi_abi, zi_abf, zi_fb, zi_bf, lget, lst, lst2, lc2, Option.map_some, zso, if_true, if_false, zc1, and_true, true_and, and_self, List.length_nil, List.length_cons, Nat.zero_le, reduceIte, reduceCtorEq, false_and, and_false, Bool.false_eq_true, zca_some, zr0, zr100, Option.bind_some, zb_none, zb_some, zrc, or_true, true_or, eq_self, ne_eq, not_true_eq_false, not_false_eq_true, zrt_i, zrt_zb, zrt_b, zrt_c, zrt_l, zrt_f, zrt_r, zrt_n, zrt_v, zft_0, zft_1, zft_zb, zft_3, zft_4, zft_5, zft_7r, zft_7n, iI_t, zb_i, zb_0, zb_1, Nat.reduceAdd, Nat.reduceLeDiff, Nat.reduceEqDiff, Nat.reduceSub, Int.reduceNeg, iI_add, iI_sub, iI_mul, iI_neg, zbz, zchar_id, zin, zwr_s, zwr_a, zwr_i, if_pos, if_neg, Int.toNat_natCast, Int.natCast_zero, Int.reduceToNat, y243_2, zt1, zg_irem, iI_z, iI_divn]
set_option maxRecDepth 20000 in
theorem la_3 {st k v w cl ev sw : Int} {bf : Int64} {x12 x13 x14 x15 : Option Value} (hk : 0 ≤ k ∧ k ≤ 60) (hv : 0 ≤ v ∧ v < 100000000) : ∃ kd : Int, zx 243 98 (lwL st k (some (.int (Int32.ofInt v))) (some (.int (Int32.ofInt w))) (some (.int (Int32.ofInt cl))) (some (.int (Int32.ofInt ev))) (some (.int (Int32.ofInt sw))) (some (.long bf)) none (some (.int (Int32.ofInt 0))) x12 x13 x14 x15) [] H = zx 243 123 (lwM st k v w cl ev sw bf 0 kd x13 x14 x15) [] H ∧ (0 ≤ kd ∧ kd < 20) := by
  by_cases g : k < 2
  · refine ⟨0, ?_, by omega⟩
    simp (disch := first | omega | (simp (disch := omega) only [zwr_s, zwr_a, zwr_i, zn_put, zn_new, zn_fil, zn_chg, zV_n]; omega)) only [zentry, zs0, zs1, zs2, zs3, zg_lo, zg_st, zg_st2, zg_ald, zg_ast, zs_ia, zs_i0, zg_ii, zi_max, zi_min, zi_abi, zi_abf, zi_fb, zi_bf, lget, lst, lst2, lc2, Option.map_some, zso, if_true, if_false, zc1, and_true, true_and, and_self, List.length_nil, List.length_cons, Nat.zero_le, reduceIte, reduceCtorEq, false_and, and_false, Bool.false_eq_true, zca_some, zr0, zr100, Option.bind_some, zb_none, zb_some, zrc, or_true, true_or, eq_self, ne_eq, not_true_eq_false, not_false_eq_true, zrt_i, zrt_zb, zrt_b, zrt_c, zrt_l, zrt_f, zrt_r, zrt_n, zrt_v, zft_0, zft_1, zft_zb, zft_3, zft_4, zft_5, zft_7r, zft_7n, iI_t, zb_i, zb_0, zb_1, Nat.reduceAdd, Nat.reduceLeDiff, Nat.reduceEqDiff, Nat.reduceSub, Int.reduceNeg, iI_add, iI_sub, iI_mul, iI_neg, zbz, zchar_id, zin, zwr_s, zwr_a, zwr_i, if_pos, if_neg, Int.toNat_natCast, Int.natCast_zero, Int.reduceToNat, y243_3, zt1]
  · by_cases g2 : k < 5
    · refine ⟨2, ?_, by omega⟩
      simp (disch := first | omega | (simp (disch := omega) only [zwr_s, zwr_a, zwr_i, zn_put, zn_new, zn_fil, zn_chg, zV_n]; omega)) only [zentry, zs0, zs1, zs2, zs3, zg_lo, zg_st, zg_st2, zg_ald, zg_ast, zs_ia, zs_i0, zg_ii, zi_max, zi_min, zi_abi, zi_abf, zi_fb, zi_bf, lget, lst, lst2, lc2, Option.map_some, zso, if_true, if_false, zc1, and_true, true_and, and_self, List.length_nil, List.length_cons, Nat.zero_le, reduceIte, reduceCtorEq, false_and, and_false, Bool.false_eq_true, zca_some, zr0, zr100, Option.bind_some, zb_none, zb_some, zrc, or_true, true_or, eq_self, ne_eq, not_true_eq_false, not_false_eq_true, zrt_i, zrt_zb, zrt_b, zrt_c, zrt_l, zrt_f, zrt_r, zrt_n, zrt_v, zft_0, zft_1, zft_zb, zft_3, zft_4, zft_5, zft_7r, zft_7n, iI_t, zb_i, zb_0, zb_1, Nat.reduceAdd, Nat.reduceLeDiff, Nat.reduceEqDiff, Nat.reduceSub, Int.reduceNeg, iI_add, iI_sub, iI_mul, iI_neg, zbz, zchar_id, zin, zwr_s, zwr_a, zwr_i, if_pos, if_neg, Int.toNat_natCast, Int.natCast_zero, Int.reduceToNat, y243_3, zt1]
    · refine ⟨v - v / 20 * 20, ?_, by omega⟩
      simp (disch := first | omega | (simp (disch := omega) only [zwr_s, zwr_a, zwr_i, zn_put, zn_new, zn_fil, zn_chg, zV_n]; omega)) only [zentry, zs0, zs1, zs2, zs3, zg_lo, zg_st, zg_st2, zg_ald, zg_ast, zs_ia, zs_i0, zg_ii, zi_max, zi_min, zi_abi, zi_abf, zi_fb, zi_bf, lget, lst, lst2, lc2, Option.map_some, zso, if_true, if_false, zc1, and_true, true_and, and_self, List.length_nil, List.length_cons, Nat.zero_le, reduceIte, reduceCtorEq, false_and, and_false, Bool.false_eq_true, zca_some, zr0, zr100, Option.bind_some, zb_none, zb_some, zrc, or_true, true_or, eq_self, ne_eq, not_true_eq_false, not_false_eq_true, zrt_i, zrt_zb, zrt_b, zrt_c, zrt_l, zrt_f, zrt_r, zrt_n, zrt_v, zft_0, zft_1, zft_zb, zft_3, zft_4, zft_5, zft_7r, zft_7n, iI_t, zb_i, zb_0, zb_1, Nat.reduceAdd, Nat.reduceLeDiff, Nat.reduceEqDiff, Nat.reduceSub, Int.reduceNeg, iI_add, iI_sub, iI_mul, iI_neg, zbz, zchar_id, zin, zwr_s, zwr_a, zwr_i, if_pos, if_neg, Int.toNat_natCast, Int.natCast_zero, Int.reduceToNat, y243_3, zt1, zg_irem, iI_z, iI_divn]
theorem la_A {st k : Int} {x4 x5 x6 x7 x8 x9 x10 x11 x12 x13 x14 x15 : Option Value} (hL : L ≤ 3072) (hk : 0 ≤ k ∧ k < st ∧ st ≤ 60) (p : St L xs c n G H) : ∃ (v w cl ev sw kd : Int) (bf : Int64) (H1 : zH), zx 243 21 (lwL st k x4 x5 x6 x7 x8 x9 x10 x11 x12 x13 x14 x15) [] H = zx 243 123 (lwM st k v w cl ev sw bf 0 kd x13 x14 x15) [] H1 ∧ ((0 ≤ v ∧ v < 100000000) ∧ (0 ≤ w ∧ w ≤ 5000000) ∧ (1 ≤ cl ∧ cl ≤ 12) ∧ (1 ≤ ev ∧ ev ≤ 12)) ∧ (0 ≤ kd ∧ kd < 20) ∧ (sw = 0 ∨ (sw = 1 ∧ sumIs L xs G bf)) ∧ St L xs c (n + 714) G H1 := by
  obtain ⟨v, w, cl, ev, H1, e1, b1, p1⟩ := la_1 (x4 := x4) (x5 := x5) (x6 := x6) (x7 := x7) (x8 := x8) (x9 := x9) (x10 := x10) (x11 := x11) (x12 := x12) (x13 := x13) (x14 := x14) (x15 := x15) hL hk p
  obtain ⟨sw, bf, H2, e2, b2, p2⟩ := la_2 (st := st) (v := v) (w := w) (cl := cl) (ev := ev) (x8 := x8) (x9 := x9) (x10 := x10) (x11 := x11) (x12 := x12) (x13 := x13) (x14 := x14) (x15 := x15) (k := k) ⟨by omega, by omega⟩ p1
  obtain ⟨kd, e3, b3⟩ := la_3 (H := H2) (st := st) (w := w) (cl := cl) (ev := ev) (sw := sw) (bf := bf) (x12 := x12) (x13 := x13) (x14 := x14) (x15 := x15) (k := k) (v := v) ⟨by omega, by omega⟩ b1.1
  exact ⟨v, w, cl, ev, sw, kd, bf, H2, e1.trans (e2.trans e3), b1, b3, b2, p2.le (by omega)⟩
end WRP

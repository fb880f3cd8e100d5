/-! the law's isSound(o, w): the spans, the seconds -/
abbrev so1 (w t s k : Int) : zL := [some (.ref 3), some (.int (Int32.ofInt w)), some (.int (Int32.ofInt t)), some (.int (Int32.ofInt s)), some (.int (Int32.ofInt k)), none, none, none, none, none, none]
section WRP
variable {L : Nat} {xs : Nat → Int32} {c : Nat} {G : zD}
set_option maxRecDepth 20000 in
set_option maxRecDepth 20000 in
theorem so_1 {w : Int} {k n : Nat} {H : zH} (hO : mOk G) (hk : k < (lyF G).2.1.length) (p : St L xs c n G H) : ∃ H1, zx 241 7 (so1 w (lnS (lyF G).2.1 k) (slS (lyF G).2.1 k) (k : Int)) [] H = zx 241 7 (so1 w (lnS (lyF G).2.1 (k + 1)) (slS (lyF G).2.1 (k + 1)) ((k : Int) + 1)) [] H1 ∧ St L xs c (n + 6) G H1 := by
  have q0 : qSp G (k : Int) = 0 := if_pos ⟨by omega, by omega⟩
  obtain ⟨s1, s2, s3⟩ := lnS_s (lyF_ok hO).1 k hk
  have b1 := slS_b (lyF_ok hO).1 k (by omega)
  have b2 := lnS_m (lyF_ok hO).1 ((lyF G).2.1.length - (k + 1)) (k + 1) (by omega)
  have lt := (lyF_ok hO).2.1
  have v := (lyF_ok hO).2.2.1 _ (spK_mem hk)
  have h12 := hO.1.1.2
  obtain ⟨-, H1, e1, p1⟩ := p.x56
  obtain ⟨H2, e2, p2⟩ := w230_1 (x := (k : Int)) p1 ⟨by omega, by omega⟩
  obtain ⟨H3, e3, p3⟩ := w230_2 (x := (k : Int)) p2 ⟨by omega, by omega⟩
  obtain ⟨H4, e4, p4⟩ := w230_0 (x := (k : Int)) p3 ⟨by omega, by omega⟩
  obtain ⟨H5, e5, p5⟩ := w230_2 (x := (k : Int)) p4 ⟨by omega, by omega⟩
  obtain ⟨H6, e6, p6⟩ := w230_2 (x := (k : Int)) p5 ⟨by omega, by omega⟩
  rw [wv0 q0, if_pos q0, Int.toNat_natCast] at e2 e3 e4 e5 e6
  rw [s1] at e2
  rw [s1, s2] at e3 e5 e6
  have k0 := p.k3
  have es : slS (lyF G).2.1 (k + 1) = slS (lyF G).2.1 k + (if (spK (lyF G).2.1 k).1 = -1 then lnS (lyF G).2.1 (k + 1) - lnS (lyF G).2.1 k else 0) := by rw [← s1, ← s2]; rfl
  rw [es]
  have hk2 : (k : Int) < ((lyF G).2.1.length : Int) := by omega
  have hN2 : ((lyF G).2.1.length : Int) ≤ 116 := by omega
  clear s1 s2 es q0 hk
  by_cases g : (spK (lyF G).2.1 k).1 = -1
  · rw [if_pos g]
    refine ⟨H6, ?_, p6⟩
    clear p p1 p2 p3 p4 p5 p6 hO v
    rw [g] at e4
    generalize lnS (lyF G).2.1 k = t at *
    generalize lnS (lyF G).2.1 (k + 1) = t1 at *
    generalize slS (lyF G).2.1 k = sl at *
    generalize ((lyF G).2.1.length : Int) = N at *
    have e9 : t + (t1 - t) = t1 := by omega
    rw [z241_7]
    simp (disch := first | omega | (simp (disch := omega) only [zwr_s, zwr_a, zwr_i, zn_put, zn_new, zn_fil, zn_chg, zV_n]; omega)) only [zentry, zs0, zs1, zs2, zs3, zg_lo, zg_st, zg_st2, zg_ald, zg_ast, zs_ia, zs_i0, zg_ii, zi_max, zi_min, zi_abi, zi_abf, zi_fb, zi_bf, lget, lst, lst2, lc2, Option.map_some, zso, if_true, if_false, zc1, and_true, true_and, and_self, List.length_nil, List.length_cons, Nat.zero_le, reduceIte, reduceCtorEq, false_and, and_false, Bool.false_eq_true, zca_some, zr0, zr100, Option.bind_some, zb_none, zb_some, zrc, or_true, true_or, eq_self, ne_eq, not_true_eq_false, not_false_eq_true, zrt_i, zrt_zb, zrt_b, zrt_c, zrt_l, zrt_f, zrt_r, zrt_n, zrt_v, zft_0, zft_1, zft_zb, zft_3, zft_4, zft_5, zft_7r, zft_7n, iI_t, zb_i, zb_0, zb_1, Nat.reduceAdd, Nat.reduceLeDiff, Nat.reduceEqDiff, Nat.reduceSub, Int.reduceNeg, iI_add, iI_sub, iI_mul, iI_neg, zbz, zchar_id, zin, zwr_s, zwr_a, zwr_i, if_pos, if_neg, Int.toNat_natCast, Int.natCast_zero, Int.reduceToNat, z241_b0, z241_b1, z241_b2, z241_b3, zt1, zt3, k0, e1, e2, e3, e4, e5, e6, e9]
  · rw [if_neg g, Int.add_zero]
    refine ⟨H5, ?_, p5.le (by omega)⟩
    have cl : 0 ≤ (spK (lyF G).2.1 k).1 ∧ (spK (lyF G).2.1 k).1 < 12 := by omega
    clear p p1 p2 p3 p4 p5 p6 hO v g
    generalize (spK (lyF G).2.1 k).1 = cl at *
    generalize lnS (lyF G).2.1 k = t at *
    generalize lnS (lyF G).2.1 (k + 1) = t1 at *
    generalize slS (lyF G).2.1 k = sl at *
    generalize ((lyF G).2.1.length : Int) = N at *
    have e9 : t + (t1 - t) = t1 := by omega
    rw [z241_7]
    simp (disch := first | omega | (simp (disch := omega) only [zwr_s, zwr_a, zwr_i, zn_put, zn_new, zn_fil, zn_chg, zV_n]; omega)) only [zentry, zs0, zs1, zs2, zs3, zg_lo, zg_st, zg_st2, zg_ald, zg_ast, zs_ia, zs_i0, zg_ii, zi_max, zi_min, zi_abi, zi_abf, zi_fb, zi_bf, lget, lst, lst2, lc2, Option.map_some, zso, if_true, if_false, zc1, and_true, true_and, and_self, List.length_nil, List.length_cons, Nat.zero_le, reduceIte, reduceCtorEq, false_and, and_false, Bool.false_eq_true, zca_some, zr0, zr100, Option.bind_some, zb_none, zb_some, zrc, or_true, true_or, eq_self, ne_eq, not_true_eq_false, not_false_eq_true, zrt_i, zrt_zb, zrt_b, zrt_c, zrt_l, zrt_f, zrt_r, zrt_n, zrt_v, zft_0, zft_1, zft_zb, zft_3, zft_4, zft_5, zft_7r, zft_7n, iI_t, zb_i, zb_0, zb_1, Nat.reduceAdd, Nat.reduceLeDiff, Nat.reduceEqDiff, Nat.reduceSub, Int.reduceNeg, iI_add, iI_sub, iI_mul, iI_neg, zbz, zchar_id, zin, zwr_s, zwr_a, zwr_i, if_pos, if_neg, Int.toNat_natCast, Int.natCast_zero, Int.reduceToNat, z241_b0, z241_b1, z241_b2, z241_b3, zt1, zt3, k0, e1, e2, e3, e4, e5, e9, Int.add_zero]
theorem so_1l {w : Int} (hO : mOk G) : ∀ (m k n : Nat) (H : zH), k + m = (lyF G).2.1.length → St L xs c n G H → ∃ H1, zx 241 7 (so1 w (lnS (lyF G).2.1 k) (slS (lyF G).2.1 k) (k : Int)) [] H = zx 241 7 (so1 w 3600 (slS (lyF G).2.1 (lyF G).2.1.length) ((lyF G).2.1.length : Int)) [] H1 ∧ St L xs c (n + 6 * m) G H1
  | 0, k, n, H, hk, p => by
    refine ⟨H, ?_, p⟩
    rw [show k = (lyF G).2.1.length from by omega, lnS_t (lyF_ok hO).1]
  | m + 1, k, n, H, hk, p => by
    obtain ⟨H1, e1, p1⟩ := so_1 (w := w) hO (k := k) (by omega) p
    obtain ⟨H2, e2, p2⟩ := so_1l hO m (k + 1) _ H1 (by omega) p1
    exact ⟨H2, e1.trans e2, p2.le (by omega)⟩
set_option maxRecDepth 20000 in
set_option maxRecDepth 20000 in
theorem so_2 {w sl s : Int} {n : Nat} {H : zH} (hs : 0 ≤ s ∧ s < 3600) (p : St L xs c n G H) : ∃ H1, zx 241 103 (so1 w 3600 sl s) [] H = zx 241 103 (so1 w 3600 sl (s + 41)) [] H1 ∧ St L xs c (n + 2) G H1 := by
  obtain ⟨H1, e1, p1⟩ := w231_0 (x := s) p ⟨by omega, by omega⟩
  obtain ⟨H2, e2, p2⟩ := w231_1 (x := s) p1 ⟨by omega, by omega⟩
  refine ⟨H2, ?_, p2⟩
  clear p p1 p2
  generalize wv (qSec s) (if qSec s = 0 then rAir G s else 0) = v at *
  rw [z241_103]
  simp (disch := first | omega | (simp (disch := omega) only [zwr_s, zwr_a, zwr_i, zn_put, zn_new, zn_fil, zn_chg, zV_n]; omega)) only [zentry, zs0, zs1, zs2, zs3, zg_lo, zg_st, zg_st2, zg_ald, zg_ast, zs_ia, zs_i0, zg_ii, zi_max, zi_min, zi_abi, zi_abf, zi_fb, zi_bf, lget, lst, lst2, lc2, Option.map_some, zso, if_true, if_false, zc1, and_true, true_and, and_self, List.length_nil, List.length_cons, Nat.zero_le, reduceIte, reduceCtorEq, false_and, and_false, Bool.false_eq_true, zca_some, zr0, zr100, Option.bind_some, zb_none, zb_some, zrc, or_true, true_or, eq_self, ne_eq, not_true_eq_false, not_false_eq_true, zrt_i, zrt_zb, zrt_b, zrt_c, zrt_l, zrt_f, zrt_r, zrt_n, zrt_v, zft_0, zft_1, zft_zb, zft_3, zft_4, zft_5, zft_7r, zft_7n, iI_t, zb_i, zb_0, zb_1, Nat.reduceAdd, Nat.reduceLeDiff, Nat.reduceEqDiff, Nat.reduceSub, Int.reduceNeg, iI_add, iI_sub, iI_mul, iI_neg, zbz, zchar_id, zin, zwr_s, zwr_a, zwr_i, if_pos, if_neg, Int.toNat_natCast, Int.natCast_zero, Int.reduceToNat, z241_b0, z241_b1, z241_b2, z241_b3, zt3, e1, e2]
theorem so_2l {w sl : Int} : ∀ (m n : Nat) (s : Int) (H : zH), 0 ≤ s → 3600 ≤ s + 41 * (m : Int) → s < 4000 → St L xs c n G H → ∃ (s1 : Int) (H1 : zH), zx 241 103 (so1 w 3600 sl s) [] H = zx 241 103 (so1 w 3600 sl s1) [] H1 ∧ (3600 ≤ s1 ∧ s1 < 4000) ∧ St L xs c (n + 2 * m) G H1
  | 0, n, s, H, h0, h1, h2, p => ⟨s, H, rfl, ⟨by omega, h2⟩, p⟩
  | m + 1, n, s, H, h0, h1, h2, p => by
    by_cases g : 3600 ≤ s
    · exact ⟨s, H, rfl, ⟨g, h2⟩, p.le (by omega)⟩
    · obtain ⟨H1, e1, p1⟩ := so_2 (w := w) (sl := sl) ⟨h0, by omega⟩ p
      obtain ⟨s2, H2, e2, b2, p2⟩ := so_2l m _ (s + 41) H1 (by omega) (by omega) (by omega) p1
      exact ⟨s2, H2, e1.trans e2, b2, p2.le (by omega)⟩
abbrev so3 (w sl bf se e : Int) (x7 x8 x9 x10 : Option Value) : zL := [some (.ref 3), some (.int (Int32.ofInt w)), some (.int (Int32.ofInt 3600)), some (.int (Int32.ofInt sl)), some (.int (Int32.ofInt bf)), some (.int (Int32.ofInt se)), some (.int (Int32.ofInt e)), x7, x8, x9, x10]
set_option maxRecDepth 20000 in
set_option maxRecDepth 20000 in
theorem so_0 {w : Int} {n : Nat} {H : zH} (hw : 0 ≤ w ∧ w ≤ 1000000000) (p : St L xs c n G H) : ∃ H1, zc 241 11 [.ref 3, .int (Int32.ofInt w)] H = zx 241 145 (so3 w (slS (lyF G).2.1 (lyF G).2.1.length) 0 0 0 none none none none) [] H1 ∧ St L xs c (n + 900) G H1 := by
  have hO := p.ok.1
  have l6 := (lyF_ok hO).2.1
  have b1 := slS_b (lyF_ok hO).1 _ (Nat.le_refl _)
  have b2 := lnS_t (lyF_ok hO).1
  obtain ⟨H1, e1, p1⟩ := so_1l (w := w) hO (lyF G).2.1.length 0 n H (by omega) p
  obtain ⟨-, H2, e2, p2⟩ := p1.x56
  obtain ⟨-, H3, e3, p3⟩ := p2.x62
  have er := iI_remn (a := w) (b := 41) (by omega) (by omega)
  have ez := iI_z (b := 41) (by omega)
  have w41 : 0 ≤ w % 41 ∧ w % 41 < 41 := by omega
  obtain ⟨s1, H4, e4, b4, p4⟩ := so_2l (w := w) (sl := slS (lyF G).2.1 (lyF G).2.1.length) 88 _ (w % 41) H3 (by omega) (by omega) (by omega) p3
  refine ⟨H4, ?_, p4.le (by omega)⟩
  have k1 := p1.k3
  have k2 := p2.k3
  clear p p1 p2 p3 p4 hO
  have f0 : zc 241 11 [.ref 3, .int (Int32.ofInt w)] H = zx 241 7 (so1 w (lnS (lyF G).2.1 0) (slS (lyF G).2.1 0) ((0 : Nat) : Int)) [] H := by
    clear e1 e2 e3 e4 er ez
    show _ = zx 241 7 (so1 w 0 0 0) [] H
    rw [zc]
    simp (disch := first | omega | (simp (disch := omega) only [zwr_s, zwr_a, zwr_i, zn_put, zn_new, zn_fil, zn_chg, zV_n]; omega)) only [zentry, zs0, zs1, zs2, zs3, zg_lo, zg_st, zg_st2, zg_ald, zg_ast, zs_ia, zs_i0, zg_ii, zi_max, zi_min, zi_abi, zi_abf, zi_fb, zi_bf, lget, lst, lst2, lc2, Option.map_some, zso, if_true, if_false, zc1, and_true, true_and, and_self, List.length_nil, List.length_cons, Nat.zero_le, reduceIte, reduceCtorEq, false_and, and_false, Bool.false_eq_true, zca_some, zr0, zr100, Option.bind_some, zb_none, zb_some, zrc, or_true, true_or, eq_self, ne_eq, not_true_eq_false, not_false_eq_true, zrt_i, zrt_zb, zrt_b, zrt_c, zrt_l, zrt_f, zrt_r, zrt_n, zrt_v, zft_0, zft_1, zft_zb, zft_3, zft_4, zft_5, zft_7r, zft_7n, iI_t, zb_i, zb_0, zb_1, Nat.reduceAdd, Nat.reduceLeDiff, Nat.reduceEqDiff, Nat.reduceSub, Int.reduceNeg, iI_add, iI_sub, iI_mul, iI_neg, zbz, zchar_id, zin, zwr_s, zwr_a, zwr_i, if_pos, if_neg, Int.toNat_natCast, Int.natCast_zero, Int.reduceToNat, z241_b0, z241_b1, z241_b2, z241_b3, zt1]
  rw [f0, e1]
  clear f0 e1
  generalize slS (lyF G).2.1 (lyF G).2.1.length = sl at *
  generalize ((lyF G).2.1.length : Int) = N at *
  have f1 : zx 241 7 (so1 w 3600 sl N) [] H1 = zx 241 103 (so1 w 3600 sl (w % 41)) [] H3 := by
    clear e4
    generalize hm : w % 41 = wm at *
    rw [z241_7]
    simp (disch := first | omega | (simp (disch := omega) only [zwr_s, zwr_a, zwr_i, zn_put, zn_new, zn_fil, zn_chg, zV_n]; omega)) only [zentry, zs0, zs1, zs2, zs3, zg_lo, zg_st, zg_st2, zg_ald, zg_ast, zs_ia, zs_i0, zg_ii, zi_max, zi_min, zi_abi, zi_abf, zi_fb, zi_bf, lget, lst, lst2, lc2, Option.map_some, zso, if_true, if_false, zc1, and_true, true_and, and_self, List.length_nil, List.length_cons, Nat.zero_le, reduceIte, reduceCtorEq, false_and, and_false, Bool.false_eq_true, zca_some, zr0, zr100, Option.bind_some, zb_none, zb_some, zrc, or_true, true_or, eq_self, ne_eq, not_true_eq_false, not_false_eq_true, zrt_i, zrt_zb, zrt_b, zrt_c, zrt_l, zrt_f, zrt_r, zrt_n, zrt_v, zft_0, zft_1, zft_zb, zft_3, zft_4, zft_5, zft_7r, zft_7n, iI_t, zb_i, zb_0, zb_1, Nat.reduceAdd, Nat.reduceLeDiff, Nat.reduceEqDiff, Nat.reduceSub, Int.reduceNeg, iI_add, iI_sub, iI_mul, iI_neg, zbz, zchar_id, zin, zwr_s, zwr_a, zwr_i, if_pos, if_neg, Int.toNat_natCast, Int.natCast_zero, Int.reduceToNat, z241_b0, z241_b1, z241_b2, z241_b3, zt1, k1, k2, e2, e3, zg_irem, er, ez, hm]
  rw [f1, e4]
  clear f1 e4 er
  rw [z241_103]
  simp (disch := first | omega | (simp (disch := omega) only [zwr_s, zwr_a, zwr_i, zn_put, zn_new, zn_fil, zn_chg, zV_n]; omega)) only [zentry, zs0, zs1, zs2, zs3, zg_lo, zg_st, zg_st2, zg_ald, zg_ast, zs_ia, zs_i0, zg_ii, zi_max, zi_min, zi_abi, zi_abf, zi_fb, zi_bf, lget, lst, lst2, lc2, Option.map_some, zso, if_true, if_false, zc1, and_true, true_and, and_self, List.length_nil, List.length_cons, Nat.zero_le, reduceIte, reduceCtorEq, false_and, and_false, Bool.false_eq_true, zca_some, zr0, zr100, Option.bind_some, zb_none, zb_some, zrc, or_true, true_or, eq_self, ne_eq, not_true_eq_false, not_false_eq_true, zrt_i, zrt_zb, zrt_b, zrt_c, zrt_l, zrt_f, zrt_r, zrt_n, zrt_v, zft_0, zft_1, zft_zb, zft_3, zft_4, zft_5, zft_7r, zft_7n, iI_t, zb_i, zb_0, zb_1, Nat.reduceAdd, Nat.reduceLeDiff, Nat.reduceEqDiff, Nat.reduceSub, Int.reduceNeg, iI_add, iI_sub, iI_mul, iI_neg, zbz, zchar_id, zin, zwr_s, zwr_a, zwr_i, if_pos, if_neg, Int.toNat_natCast, Int.natCast_zero, Int.reduceToNat, z241_b0, z241_b1, z241_b2, z241_b3, zt1]
end WRP

/-! the law's clips(o) -/
theorem lc_lt {x y : Int64} : ((if y < x then (1 : Int32) else if x = y then 0 else -1).toInt < 0) = (x < y) := by
  refine propext ⟨fun h => ?_, fun h => ?_⟩
  · split at h
    · exact absurd h (by decide)
    · rename_i h1
      split at h
      · exact absurd h (by decide)
      · rename_i h2
        rw [Int64.lt_iff_toInt_lt] at h1 ⊢
        have : x.toInt ≠ y.toInt := fun q => h2 (Int64.toInt_inj.mp q)
        omega
  · rw [Int64.lt_iff_toInt_lt] at h
    rw [if_neg (by rw [Int64.lt_iff_toInt_lt]; omega), if_neg (fun q => by rw [q] at h; omega)]
    decide
theorem lc_ne {x y : Int64} : ((if y < x then (1 : Int32) else if x = y then 0 else -1).toInt = 0) = (x = y) := by
  refine propext ⟨fun h => ?_, fun h => ?_⟩
  · split at h
    · exact absurd h (by decide)
    · split at h
      · assumption
      · exact absurd h (by decide)
  · rw [h, if_neg (by rw [Int64.lt_iff_toInt_lt]; omega), if_pos rfl]
    decide
theorem lc_i {x : Int} (h : 0 ≤ x ∧ x ≤ 1000000000) : (Int64.ofInt x < 0) = False := by
  refine eq_false fun q => ?_
  rw [Int64.lt_iff_toInt_lt, Int64.toInt_ofInt_of_le (by omega) (by omega)] at q
  have z : (0 : Int64).toInt = 0 := by decide
  omega
theorem lc_m : (Int64.ofNat 18446744073709550615 < 0) = True := by decide +kernel
section WRP
variable {L : Nat} {xs : Nat → Int32} {c n : Nat} {G : zD} {H : zH}
theorem St.G7 (p : St L xs c n G H) : (0 ≤ G 32 7 ∧ G 32 7 ≤ 12) ∧ (0 ≤ G 32 15 ∧ G 32 15 ≤ 12) ∧ (∀ i, 0 ≤ G 39 i ∧ G 39 i ≤ 3600 * (c : Int)) ∧ c ≤ 600 ∧ G 32 16 ≤ c := by
  obtain ⟨I, h, X, D, a, b, R, q, g, g9, gd, la, lb⟩ := p
  have h1 := q.1.1.1.1
  have h2 := q.1.1.2.1.1
  rw [g 32 7 (by omega)] at h1
  rw [g 32 15 (by omega)] at h2
  exact ⟨h1, h2, g9, q.2.2.2.2.2.2.2, gd⟩
theorem St.zk {k ml : Nat} {as : List Value} {H1 : zH} {r : zR} (_p : St L xs c n G H) (_e : zc k ml as H = some (r, H1)) : True := trivial
set_option maxRecDepth 20000 in
set_option maxRecDepth 20000 in
theorem w239_l : ∀ (m i n : Nat) (H : zH), (i : Int) + m = G 32 7 → St L xs c n G H → ∃ H1, zx 239 2 [some (.ref 3), some (.int (Int32.ofInt (i : Int)))] [] H = some (.inl (some (.int (Int32.ofInt (G 32 7)))), H1) ∧ St L xs c (n + m + 1) G H1
  | 0, i, n, H, hi, p => by
    have b := p.G7
    by_cases g : (i : Int) < 12
    · obtain ⟨H1, e, p1⟩ := w238 (x := (i : Int)) p ⟨by omega, by omega⟩
      rw [if_neg (by unfold mAiT; rw [if_neg (by omega)]; decide)] at e
      refine ⟨H1, ?_, p1⟩
      rw [← hi]
      clear p p1 b hi
      rw [z239_2]
      simp (disch := first | omega | (simp (disch := omega) only [zwr_s, zwr_a, zwr_i, zn_put, zn_new, zn_fil, zn_chg, zV_n]; omega)) only [zentry, zs0, zs1, zs2, zs3, zg_lo, zg_st, zg_st2, zg_ald, zg_ast, zs_ia, zs_i0, zg_ii, zi_max, zi_min, zi_abi, zi_abf, zi_fb, zi_bf, lget, lst, lst2, lc2, Option.map_some, zso, if_true, if_false, zc1, and_true, true_and, and_self, List.length_nil, List.length_cons, Nat.zero_le, reduceIte, reduceCtorEq, false_and, and_false, Bool.false_eq_true, zca_some, zr0, zr100, Option.bind_some, zb_none, zb_some, zrc, or_true, true_or, eq_self, ne_eq, not_true_eq_false, not_false_eq_true, zrt_i, zrt_zb, zrt_b, zrt_c, zrt_l, zrt_f, zrt_r, zrt_n, zrt_v, zft_0, zft_1, zft_zb, zft_3, zft_4, zft_5, zft_7r, zft_7n, iI_t, zb_i, zb_0, zb_1, Nat.reduceAdd, Nat.reduceLeDiff, Nat.reduceEqDiff, Nat.reduceSub, Int.reduceNeg, iI_add, iI_sub, iI_mul, iI_neg, zbz, zchar_id, zin, zwr_s, zwr_a, zwr_i, if_pos, if_neg, Int.toNat_natCast, Int.natCast_zero, Int.reduceToNat, z239, lc_lt, lc_m, zt2, e, Int.natCast_zero, Int.add_zero]
    · refine ⟨H, ?_, p.le (by omega)⟩
      have e12 : (i : Int) = 12 := by omega
      rw [← hi, e12, show (12 : Int) + (0 : Nat) = 12 from rfl]
      clear p b hi
      rw [z239_2]
      simp (disch := first | omega | (simp (disch := omega) only [zwr_s, zwr_a, zwr_i, zn_put, zn_new, zn_fil, zn_chg, zV_n]; omega)) only [zentry, zs0, zs1, zs2, zs3, zg_lo, zg_st, zg_st2, zg_ald, zg_ast, zs_ia, zs_i0, zg_ii, zi_max, zi_min, zi_abi, zi_abf, zi_fb, zi_bf, lget, lst, lst2, lc2, Option.map_some, zso, if_true, if_false, zc1, and_true, true_and, and_self, List.length_nil, List.length_cons, Nat.zero_le, reduceIte, reduceCtorEq, false_and, and_false, Bool.false_eq_true, zca_some, zr0, zr100, Option.bind_some, zb_none, zb_some, zrc, or_true, true_or, eq_self, ne_eq, not_true_eq_false, not_false_eq_true, zrt_i, zrt_zb, zrt_b, zrt_c, zrt_l, zrt_f, zrt_r, zrt_n, zrt_v, zft_0, zft_1, zft_zb, zft_3, zft_4, zft_5, zft_7r, zft_7n, iI_t, zb_i, zb_0, zb_1, Nat.reduceAdd, Nat.reduceLeDiff, Nat.reduceEqDiff, Nat.reduceSub, Int.reduceNeg, iI_add, iI_sub, iI_mul, iI_neg, zbz, zchar_id, zin, zwr_s, zwr_a, zwr_i, if_pos, if_neg, Int.toNat_natCast, Int.natCast_zero, Int.reduceToNat, z239, zt2]
  | m + 1, i, n, H, hi, p => by
    have b := p.G7
    have bi := b.2.2.1 i
    obtain ⟨H1, e, p1⟩ := w238 (x := (i : Int)) p ⟨by omega, by omega⟩
    rw [if_pos (by unfold mAiT; rw [if_pos (by omega)]), Int.toNat_natCast] at e
    obtain ⟨H2, e2, p2⟩ := w239_l m (i + 1) (n + 1) H1 (by omega) p1
    refine ⟨H2, ?_, p2.le (by omega)⟩
    refine Eq.trans ?_ e2
    have lc := lc_i (x := G 39 i) (by omega)
    have hi2 : (i : Int) < 12 := by omega
    clear p p1 p2 b bi hi e2
    generalize Int64.ofInt (G 39 i) = v at *
    rw [z239_2]
    simp (disch := first | omega | (simp (disch := omega) only [zwr_s, zwr_a, zwr_i, zn_put, zn_new, zn_fil, zn_chg, zV_n]; omega)) only [zentry, zs0, zs1, zs2, zs3, zg_lo, zg_st, zg_st2, zg_ald, zg_ast, zs_ia, zs_i0, zg_ii, zi_max, zi_min, zi_abi, zi_abf, zi_fb, zi_bf, lget, lst, lst2, lc2, Option.map_some, zso, if_true, if_false, zc1, and_true, true_and, and_self, List.length_nil, List.length_cons, Nat.zero_le, reduceIte, reduceCtorEq, false_and, and_false, Bool.false_eq_true, zca_some, zr0, zr100, Option.bind_some, zb_none, zb_some, zrc, or_true, true_or, eq_self, ne_eq, not_true_eq_false, not_false_eq_true, zrt_i, zrt_zb, zrt_b, zrt_c, zrt_l, zrt_f, zrt_r, zrt_n, zrt_v, zft_0, zft_1, zft_zb, zft_3, zft_4, zft_5, zft_7r, zft_7n, iI_t, zb_i, zb_0, zb_1, Nat.reduceAdd, Nat.reduceLeDiff, Nat.reduceEqDiff, Nat.reduceSub, Int.reduceNeg, iI_add, iI_sub, iI_mul, iI_neg, zbz, zchar_id, zin, zwr_s, zwr_a, zwr_i, if_pos, if_neg, Int.toNat_natCast, Int.natCast_zero, Int.reduceToNat, z239, lc_lt, lc, zt2, e, Int.natCast_add, Int.cast_ofNat_Int, Int.natCast_one]
set_option maxRecDepth 20000 in
theorem w239 (p : St L xs c n G H) : ∃ H1, zc 239 2 [.ref 3] H = some (.inl (some (.int (Int32.ofInt (G 32 7)))), H1) ∧ St L xs c (n + 13) G H1 := by
  have b := p.G7
  obtain ⟨H1, e, p1⟩ := w239_l (c := c) (L := L) (xs := xs) (G := G) (G 32 7).toNat 0 n H (by omega) p
  refine ⟨H1, ?_, p1.le (by omega)⟩
  refine Eq.trans ?_ e
  clear p p1 e b
  rw [zc]
  simp (disch := first | omega | (simp (disch := omega) only [zwr_s, zwr_a, zwr_i, zn_put, zn_new, zn_fil, zn_chg, zV_n]; omega)) only [zentry, zs0, zs1, zs2, zs3, zg_lo, zg_st, zg_st2, zg_ald, zg_ast, zs_ia, zs_i0, zg_ii, zi_max, zi_min, zi_abi, zi_abf, zi_fb, zi_bf, lget, lst, lst2, lc2, Option.map_some, zso, if_true, if_false, zc1, and_true, true_and, and_self, List.length_nil, List.length_cons, Nat.zero_le, reduceIte, reduceCtorEq, false_and, and_false, Bool.false_eq_true, zca_some, zr0, zr100, Option.bind_some, zb_none, zb_some, zrc, or_true, true_or, eq_self, ne_eq, not_true_eq_false, not_false_eq_true, zrt_i, zrt_zb, zrt_b, zrt_c, zrt_l, zrt_f, zrt_r, zrt_n, zrt_v, zft_0, zft_1, zft_zb, zft_3, zft_4, zft_5, zft_7r, zft_7n, iI_t, zb_i, zb_0, zb_1, Nat.reduceAdd, Nat.reduceLeDiff, Nat.reduceEqDiff, Nat.reduceSub, Int.reduceNeg, iI_add, iI_sub, iI_mul, iI_neg, zbz, zchar_id, zin, zwr_s, zwr_a, zwr_i, if_pos, if_neg, Int.toNat_natCast, Int.natCast_zero, Int.reduceToNat, z239, Int.natCast_zero]
end WRP

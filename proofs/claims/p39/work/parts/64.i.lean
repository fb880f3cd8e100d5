/-! .. the fewest pieces by trying -/
def sF (D : zD) (m : Nat) : Nat → Nat → Int
  | _, 0 => 0
  | i, n + 1 => (if m.testBit (7 - i) = true then D 16 i else 0) + sF D m (i + 1) n
theorem sF_b {D : zD} (hB : fiB D) {m : Nat} : ∀ (n i : Nat), (i : Int) + n ≤ D 14 3 → 0 ≤ sF D m i n ∧ sF D m i n ≤ 900 * n
  | 0, _, _ => ⟨Int.le_refl _, Int.le_refl _⟩
  | n + 1, i, h => by
    have ih := sF_b hB (m := m) n (i + 1) (by omega)
    have hb := hB.2 i (by omega)
    rw [sF]
    split <;> omega
set_option maxRecDepth 20000 in
theorem c22_l {m : Nat} {h : zH} {D : zD} (hB : fiB D) (hm : m < 256) : ∀ (n i : Nat) (acc : Int), (i : Int) + n = D 14 3 → 0 ≤ acc ∧ acc ≤ 900 * i → zx 22 4 [some (.ref 14), some (.int (Int32.ofInt (m : Int))), some (.int (Int32.ofInt acc)), some (.int (Int32.ofInt (i : Int)))] [] (zV h D) = some (.inl (some (.int (Int32.ofInt (acc + sF D m i n)))), zV h D)
  | 0, i, acc, hi, ha => by
    have hn := hB.1
    rw [sF, Int.add_zero, z22_4]
    clear hB
    simp (disch := first | omega | (simp (disch := omega) only [zwr_s, zwr_a, zwr_i, zn_put, zn_new, zn_fil, zn_chg, zV_n]; omega)) only [zentry, zs0, zs1, zs2, zs3, zg_lo, zg_st, zg_st2, zg_ald, zg_ast, zs_ia, zs_i0, zcs, zg_ii, zi_max, zi_min, zi_abi, zi_abf, zi_fb, zi_bf, lget, lst, lst2, lc2, Option.map_some, zso, if_true, if_false, zc1, and_true, true_and, and_self, List.length_nil, List.length_cons, Nat.zero_le, reduceIte, reduceCtorEq, false_and, and_false, Bool.false_eq_true, zca_some, zr0, zr100, Option.bind_some, zb_none, zb_some, zrc, or_true, true_or, eq_self, ne_eq, not_true_eq_false, not_false_eq_true, zrt_i, zrt_zb, zrt_b, zrt_c, zrt_l, zrt_f, zrt_r, zrt_n, zrt_v, zft_0, zft_1, zft_zb, zft_3, zft_4, zft_5, zft_7r, zft_7n, iI_t, zb_i, zb_0, zb_1, Nat.reduceAdd, Nat.reduceLeDiff, Nat.reduceEqDiff, Nat.reduceSub, Int.reduceNeg, iI_add, iI_sub, iI_mul, iI_neg, iI_n, zbz, zchar_id, zin, zwr_s, zwr_a, zwr_i, if_pos, if_neg, Int.toNat_natCast, Int.natCast_zero, Int.reduceToNat, z22, zc14]
  | n + 1, i, acc, hi, ha => by
    have hn := hB.1
    have hb := hB.2 i (by omega)
    have e10 := c10 (c := m) (i := i) (h := h) (D := D) hm (by omega)
    have e12 := c12 (h := h) (D := D) (i := i) (by omega) (by omega)
    have ei : ((i + 1 : Nat) : Int) = (i : Int) + 1 := by omega
    rw [sF]
    by_cases g : m.testBit (7 - i) = true
    · have ih := c22_l (h := h) hB hm n (i + 1) (acc + D 16 i) (by omega) (by omega)
      rw [if_pos g, ← Int.add_assoc, ← ih]
      rw [zb_t g] at e10
      conv => lhs; rw [z22_4]
      clear hB ih
      simp (disch := first | omega | (simp (disch := omega) only [zwr_s, zwr_a, zwr_i, zn_put, zn_new, zn_fil, zn_chg, zV_n]; omega)) only [zentry, zs0, zs1, zs2, zs3, zg_lo, zg_st, zg_st2, zg_ald, zg_ast, zs_ia, zs_i0, zcs, zg_ii, zi_max, zi_min, zi_abi, zi_abf, zi_fb, zi_bf, lget, lst, lst2, lc2, Option.map_some, zso, if_true, if_false, zc1, and_true, true_and, and_self, List.length_nil, List.length_cons, Nat.zero_le, reduceIte, reduceCtorEq, false_and, and_false, Bool.false_eq_true, zca_some, zr0, zr100, Option.bind_some, zb_none, zb_some, zrc, or_true, true_or, eq_self, ne_eq, not_true_eq_false, not_false_eq_true, zrt_i, zrt_zb, zrt_b, zrt_c, zrt_l, zrt_f, zrt_r, zrt_n, zrt_v, zft_0, zft_1, zft_zb, zft_3, zft_4, zft_5, zft_7r, zft_7n, iI_t, zb_i, zb_0, zb_1, Nat.reduceAdd, Nat.reduceLeDiff, Nat.reduceEqDiff, Nat.reduceSub, Int.reduceNeg, iI_add, iI_sub, iI_mul, iI_neg, iI_n, zbz, zchar_id, zin, zwr_s, zwr_a, zwr_i, if_pos, if_neg, Int.toNat_natCast, Int.natCast_zero, Int.reduceToNat, z22, e10, e12, ei, zt2, zt3, zc14]
    · have ih := c22_l (h := h) hB hm n (i + 1) acc (by omega) (by omega)
      rw [if_neg g, Int.zero_add, ← ih]
      rw [zb_f g] at e10
      conv => lhs; rw [z22_4]
      clear hB ih
      simp (disch := first | omega | (simp (disch := omega) only [zwr_s, zwr_a, zwr_i, zn_put, zn_new, zn_fil, zn_chg, zV_n]; omega)) only [zentry, zs0, zs1, zs2, zs3, zg_lo, zg_st, zg_st2, zg_ald, zg_ast, zs_ia, zs_i0, zcs, zg_ii, zi_max, zi_min, zi_abi, zi_abf, zi_fb, zi_bf, lget, lst, lst2, lc2, Option.map_some, zso, if_true, if_false, zc1, and_true, true_and, and_self, List.length_nil, List.length_cons, Nat.zero_le, reduceIte, reduceCtorEq, false_and, and_false, Bool.false_eq_true, zca_some, zr0, zr100, Option.bind_some, zb_none, zb_some, zrc, or_true, true_or, eq_self, ne_eq, not_true_eq_false, not_false_eq_true, zrt_i, zrt_zb, zrt_b, zrt_c, zrt_l, zrt_f, zrt_r, zrt_n, zrt_v, zft_0, zft_1, zft_zb, zft_3, zft_4, zft_5, zft_7r, zft_7n, iI_t, zb_i, zb_0, zb_1, Nat.reduceAdd, Nat.reduceLeDiff, Nat.reduceEqDiff, Nat.reduceSub, Int.reduceNeg, iI_add, iI_sub, iI_mul, iI_neg, iI_n, zbz, zchar_id, zin, zwr_s, zwr_a, zwr_i, if_pos, if_neg, Int.toNat_natCast, Int.natCast_zero, Int.reduceToNat, z22, e10, e12, ei, zt2, zt3, zc14]
set_option maxRecDepth 20000 in
theorem c22 {m : Nat} {h : zH} {D : zD} (hB : fiB D) (hm : m < 256) : zc 22 4 [.ref 14, .int (Int32.ofInt (m : Int))] (zV h D) = some (.inl (some (.int (Int32.ofInt (sF D m 0 (D 14 3).toNat)))), zV h D) := by
  have hn := hB.1
  have e := c22_l (h := h) hB hm (D 14 3).toNat 0 0 (by omega) (by omega)
  rw [Int.zero_add] at e
  rw [← e, zc]
  clear hB e
  simp (disch := first | omega | (simp (disch := omega) only [zwr_s, zwr_a, zwr_i, zn_put, zn_new, zn_fil, zn_chg, zV_n]; omega)) only [zentry, zs0, zs1, zs2, zs3, zg_lo, zg_st, zg_st2, zg_ald, zg_ast, zs_ia, zs_i0, zcs, zg_ii, zi_max, zi_min, zi_abi, zi_abf, zi_fb, zi_bf, lget, lst, lst2, lc2, Option.map_some, zso, if_true, if_false, zc1, and_true, true_and, and_self, List.length_nil, List.length_cons, Nat.zero_le, reduceIte, reduceCtorEq, false_and, and_false, Bool.false_eq_true, zca_some, zr0, zr100, Option.bind_some, zb_none, zb_some, zrc, or_true, true_or, eq_self, ne_eq, not_true_eq_false, not_false_eq_true, zrt_i, zrt_zb, zrt_b, zrt_c, zrt_l, zrt_f, zrt_r, zrt_n, zrt_v, zft_0, zft_1, zft_zb, zft_3, zft_4, zft_5, zft_7r, zft_7n, iI_t, zb_i, zb_0, zb_1, Nat.reduceAdd, Nat.reduceLeDiff, Nat.reduceEqDiff, Nat.reduceSub, Int.reduceNeg, iI_add, iI_sub, iI_mul, iI_neg, iI_n, zbz, zchar_id, zin, zwr_s, zwr_a, zwr_i, if_pos, if_neg, Int.toNat_natCast, Int.natCast_zero, Int.reduceToNat, z22, Int.natCast_zero]
theorem fi_shl0 : ((List.range 9).all fun n => (List.range 256).all fun i => decide (Int32.ofInt (i : Int) <<< (Int32.ofInt ((8 : Int) - (n : Int)) &&& 31) = Int32.ofInt ((i * 2 ^ (8 - n) : Nat) : Int))) = true := by decide +kernel
theorem fi_shl {n i : Nat} (hn : n < 9) (hi : i < 256) : Int32.ofInt (i : Int) <<< (Int32.ofInt ((8 : Int) - (n : Int)) &&& 31) = Int32.ofInt ((i * 2 ^ (8 - n) : Nat) : Int) :=
  of_decide_eq_true (List.all_eq_true.mp (List.all_eq_true.mp fi_shl0 n (List.mem_range.mpr hn)) i (List.mem_range.mpr hi))
def tryF (D : zD) (gap : Int) : Nat → Nat → Int → Int
  | 0, _, few => few
  | m + 1, i, few => tryF D gap m (i + 1) (if sF D (i * 2 ^ (8 - (D 14 3).toNat)) 0 (D 14 3).toNat = gap ∧ (few = 0 ∨ (popB 12 (i * 2 ^ (8 - (D 14 3).toNat)) : Int) < few) then (popB 12 (i * 2 ^ (8 - (D 14 3).toNat)) : Int) else few)
theorem pop_12 : ∀ n m : Nat, popB n m ≤ n
  | 0, _ => Nat.le_refl _
  | n + 1, m => by
    have := pop_12 n (m / 2)
    rw [popB]
    omega
set_option maxRecDepth 20000 in
theorem c23_l {gap : Int} {h : zH} {D : zD} (hB : fiB D) (hg : 1 ≤ gap ∧ gap ≤ 3600) : ∀ (m i : Nat) (few : Int) (x4 x5 : Option Value), i + m = 2 ^ (D 14 3).toNat → 0 ≤ few ∧ few ≤ 12 → zx 23 4 [some (.ref 14), some (.int (Int32.ofInt gap)), some (.int (Int32.ofInt few)), some (.int (Int32.ofInt (i : Int))), x4, x5] [] (zV h D) = some (.inl (some (.int (Int32.ofInt (tryF D gap m i few)))), zV h D)
  | 0, i, few, x4, x5, hi, hf => by
    have hn := hB.1
    have s2 := bt_shl (c := (D 14 3).toNat) (by omega)
    rw [show (((D 14 3).toNat : Nat) : Int) = D 14 3 by omega] at s2
    have hp : 2 ^ (D 14 3).toNat ≤ 2 ^ 8 := Nat.pow_le_pow_right (by omega) (by omega)
    have hp : 2 ^ (D 14 3).toNat ≤ 256 := hp
    rw [tryF, z23_4]
    generalize 2 ^ (D 14 3).toNat = p at *
    clear hB
    simp (disch := first | omega | (simp (disch := omega) only [zwr_s, zwr_a, zwr_i, zn_put, zn_new, zn_fil, zn_chg, zV_n]; omega)) only [zentry, zs0, zs1, zs2, zs3, zg_lo, zg_st, zg_st2, zg_ald, zg_ast, zs_ia, zs_i0, zcs, zg_ii, zi_max, zi_min, zi_abi, zi_abf, zi_fb, zi_bf, lget, lst, lst2, lc2, Option.map_some, zso, if_true, if_false, zc1, and_true, true_and, and_self, List.length_nil, List.length_cons, Nat.zero_le, reduceIte, reduceCtorEq, false_and, and_false, Bool.false_eq_true, zca_some, zr0, zr100, Option.bind_some, zb_none, zb_some, zrc, or_true, true_or, eq_self, ne_eq, not_true_eq_false, not_false_eq_true, zrt_i, zrt_zb, zrt_b, zrt_c, zrt_l, zrt_f, zrt_r, zrt_n, zrt_v, zft_0, zft_1, zft_zb, zft_3, zft_4, zft_5, zft_7r, zft_7n, iI_t, zb_i, zb_0, zb_1, Nat.reduceAdd, Nat.reduceLeDiff, Nat.reduceEqDiff, Nat.reduceSub, Int.reduceNeg, iI_add, iI_sub, iI_mul, iI_neg, iI_n, zbz, zchar_id, zin, zwr_s, zwr_a, zwr_i, if_pos, if_neg, Int.toNat_natCast, Int.natCast_zero, Int.reduceToNat, z23, s2, zc14]
  | m + 1, i, few, x4, x5, hi, hf => by
    have hn := hB.1
    have s2 := bt_shl (c := (D 14 3).toNat) (by omega)
    rw [show (((D 14 3).toNat : Nat) : Int) = D 14 3 by omega] at s2
    have hp : 2 ^ (D 14 3).toNat ≤ 2 ^ 8 := Nat.pow_le_pow_right (by omega) (by omega)
    have hp : 2 ^ (D 14 3).toNat ≤ 256 := hp
    have s3 := fi_shl (n := (D 14 3).toNat) (i := i) (by omega) (by omega)
    rw [show (((D 14 3).toNat : Nat) : Int) = D 14 3 by omega] at s3
    have hc : i * 2 ^ (8 - (D 14 3).toNat) < 256 := by
      have h1 : i * 2 ^ (8 - (D 14 3).toNat) < 2 ^ (D 14 3).toNat * 2 ^ (8 - (D 14 3).toNat) := Nat.mul_lt_mul_of_pos_right (by omega) (Nat.pow_pos (by omega))
      rw [← Nat.pow_add, show (D 14 3).toNat + (8 - (D 14 3).toNat) = 8 by omega] at h1
      exact h1
    have ei : ((i + 1 : Nat) : Int) = (i : Int) + 1 := by omega
    have pb := pop_12 12 (i * 2 ^ (8 - (D 14 3).toNat))
    have e182 := m182 (m := i * 2 ^ (8 - (D 14 3).toNat)) (h := zV h D) (by omega)
    have e22 := c22 (m := i * 2 ^ (8 - (D 14 3).toNat)) (h := h) hB hc
    have sb := sF_b hB (m := i * 2 ^ (8 - (D 14 3).toNat)) (D 14 3).toNat 0 (by omega)
    have ih := fun few' hf' y4 y5 => c23_l (h := h) hB hg m (i + 1) few' y4 y5 (by omega) hf'
    rw [tryF]
    generalize sF D (i * 2 ^ (8 - (D 14 3).toNat)) 0 (D 14 3).toNat = sf at *
    generalize popB 12 (i * 2 ^ (8 - (D 14 3).toNat)) = pb9 at *
    generalize i * 2 ^ (8 - (D 14 3).toNat) = ch at *
    generalize 2 ^ (D 14 3).toNat = p at *
    by_cases g : sf = gap ∧ (few = 0 ∨ (pb9 : Int) < few)
    · rw [if_pos g]
      have ih := ih (pb9 : Int) (by omega) (some (.int (Int32.ofInt (ch : Int)))) (some (.int (Int32.ofInt (pb9 : Int))))
      rw [← ih]
      conv => lhs; rw [z23_4]
      clear hB ih
      obtain ⟨g1, g2⟩ := g
      by_cases g3 : few = 0
      · simp (disch := first | omega | (simp (disch := omega) only [zwr_s, zwr_a, zwr_i, zn_put, zn_new, zn_fil, zn_chg, zV_n]; omega)) only [zentry, zs0, zs1, zs2, zs3, zg_lo, zg_st, zg_st2, zg_ald, zg_ast, zs_ia, zs_i0, zcs, zg_ii, zi_max, zi_min, zi_abi, zi_abf, zi_fb, zi_bf, lget, lst, lst2, lc2, Option.map_some, zso, if_true, if_false, zc1, and_true, true_and, and_self, List.length_nil, List.length_cons, Nat.zero_le, reduceIte, reduceCtorEq, false_and, and_false, Bool.false_eq_true, zca_some, zr0, zr100, Option.bind_some, zb_none, zb_some, zrc, or_true, true_or, eq_self, ne_eq, not_true_eq_false, not_false_eq_true, zrt_i, zrt_zb, zrt_b, zrt_c, zrt_l, zrt_f, zrt_r, zrt_n, zrt_v, zft_0, zft_1, zft_zb, zft_3, zft_4, zft_5, zft_7r, zft_7n, iI_t, zb_i, zb_0, zb_1, Nat.reduceAdd, Nat.reduceLeDiff, Nat.reduceEqDiff, Nat.reduceSub, Int.reduceNeg, iI_add, iI_sub, iI_mul, iI_neg, iI_n, zbz, zchar_id, zin, zwr_s, zwr_a, zwr_i, if_pos, if_neg, Int.toNat_natCast, Int.natCast_zero, Int.reduceToNat, z23, s2, s3, e182, e22, ei, zt1, zt2, zc14]
      · simp (disch := first | omega | (simp (disch := omega) only [zwr_s, zwr_a, zwr_i, zn_put, zn_new, zn_fil, zn_chg, zV_n]; omega)) only [zentry, zs0, zs1, zs2, zs3, zg_lo, zg_st, zg_st2, zg_ald, zg_ast, zs_ia, zs_i0, zcs, zg_ii, zi_max, zi_min, zi_abi, zi_abf, zi_fb, zi_bf, lget, lst, lst2, lc2, Option.map_some, zso, if_true, if_false, zc1, and_true, true_and, and_self, List.length_nil, List.length_cons, Nat.zero_le, reduceIte, reduceCtorEq, false_and, and_false, Bool.false_eq_true, zca_some, zr0, zr100, Option.bind_some, zb_none, zb_some, zrc, or_true, true_or, eq_self, ne_eq, not_true_eq_false, not_false_eq_true, zrt_i, zrt_zb, zrt_b, zrt_c, zrt_l, zrt_f, zrt_r, zrt_n, zrt_v, zft_0, zft_1, zft_zb, zft_3, zft_4, zft_5, zft_7r, zft_7n, iI_t, zb_i, zb_0, zb_1, Nat.reduceAdd, Nat.reduceLeDiff, Nat.reduceEqDiff, Nat.reduceSub, Int.reduceNeg, iI_add, iI_sub, iI_mul, iI_neg, iI_n, zbz, zchar_id, zin, zwr_s, zwr_a, zwr_i, if_pos, if_neg, Int.toNat_natCast, Int.natCast_zero, Int.reduceToNat, z23, s2, s3, e182, e22, ei, zt1, zt2, zc14]
    · rw [if_neg g]
      have ih := ih few hf (some (.int (Int32.ofInt (ch : Int)))) (some (.int (Int32.ofInt (pb9 : Int))))
      rw [← ih]
      conv => lhs; rw [z23_4]
      clear hB ih
      by_cases g1 : sf = gap
      · simp (disch := first | omega | (simp (disch := omega) only [zwr_s, zwr_a, zwr_i, zn_put, zn_new, zn_fil, zn_chg, zV_n]; omega)) only [zentry, zs0, zs1, zs2, zs3, zg_lo, zg_st, zg_st2, zg_ald, zg_ast, zs_ia, zs_i0, zcs, zg_ii, zi_max, zi_min, zi_abi, zi_abf, zi_fb, zi_bf, lget, lst, lst2, lc2, Option.map_some, zso, if_true, if_false, zc1, and_true, true_and, and_self, List.length_nil, List.length_cons, Nat.zero_le, reduceIte, reduceCtorEq, false_and, and_false, Bool.false_eq_true, zca_some, zr0, zr100, Option.bind_some, zb_none, zb_some, zrc, or_true, true_or, eq_self, ne_eq, not_true_eq_false, not_false_eq_true, zrt_i, zrt_zb, zrt_b, zrt_c, zrt_l, zrt_f, zrt_r, zrt_n, zrt_v, zft_0, zft_1, zft_zb, zft_3, zft_4, zft_5, zft_7r, zft_7n, iI_t, zb_i, zb_0, zb_1, Nat.reduceAdd, Nat.reduceLeDiff, Nat.reduceEqDiff, Nat.reduceSub, Int.reduceNeg, iI_add, iI_sub, iI_mul, iI_neg, iI_n, zbz, zchar_id, zin, zwr_s, zwr_a, zwr_i, if_pos, if_neg, Int.toNat_natCast, Int.natCast_zero, Int.reduceToNat, z23, s2, s3, e182, e22, ei, zt1, zt2, zc14]
      · simp (disch := first | omega | (simp (disch := omega) only [zwr_s, zwr_a, zwr_i, zn_put, zn_new, zn_fil, zn_chg, zV_n]; omega)) only [zentry, zs0, zs1, zs2, zs3, zg_lo, zg_st, zg_st2, zg_ald, zg_ast, zs_ia, zs_i0, zcs, zg_ii, zi_max, zi_min, zi_abi, zi_abf, zi_fb, zi_bf, lget, lst, lst2, lc2, Option.map_some, zso, if_true, if_false, zc1, and_true, true_and, and_self, List.length_nil, List.length_cons, Nat.zero_le, reduceIte, reduceCtorEq, false_and, and_false, Bool.false_eq_true, zca_some, zr0, zr100, Option.bind_some, zb_none, zb_some, zrc, or_true, true_or, eq_self, ne_eq, not_true_eq_false, not_false_eq_true, zrt_i, zrt_zb, zrt_b, zrt_c, zrt_l, zrt_f, zrt_r, zrt_n, zrt_v, zft_0, zft_1, zft_zb, zft_3, zft_4, zft_5, zft_7r, zft_7n, iI_t, zb_i, zb_0, zb_1, Nat.reduceAdd, Nat.reduceLeDiff, Nat.reduceEqDiff, Nat.reduceSub, Int.reduceNeg, iI_add, iI_sub, iI_mul, iI_neg, iI_n, zbz, zchar_id, zin, zwr_s, zwr_a, zwr_i, if_pos, if_neg, Int.toNat_natCast, Int.natCast_zero, Int.reduceToNat, z23, s2, s3, e182, e22, ei, zt1, zt2, zc14]
set_option maxRecDepth 20000 in
theorem c23 {gap : Int} {h : zH} {D : zD} (hB : fiB D) (hg : 1 ≤ gap ∧ gap ≤ 3600) : zc 23 6 [.ref 14, .int (Int32.ofInt gap)] (zV h D) = some (.inl (some (.int (Int32.ofInt (tryF D gap (2 ^ (D 14 3).toNat - 1) 1 0)))), zV h D) := by
  have hp : 0 < 2 ^ (D 14 3).toNat := Nat.pow_pos (by omega)
  have e := c23_l (h := h) hB hg (2 ^ (D 14 3).toNat - 1) 1 0 none none (by omega) (by omega)
  rw [← e, zc]
  have e1 : ((1 : Nat) : Int) = 1 := rfl
  clear hB e hp
  simp (disch := first | omega | (simp (disch := omega) only [zwr_s, zwr_a, zwr_i, zn_put, zn_new, zn_fil, zn_chg, zV_n]; omega)) only [zentry, zs0, zs1, zs2, zs3, zg_lo, zg_st, zg_st2, zg_ald, zg_ast, zs_ia, zs_i0, zg_ii, zi_max, zi_min, zi_abi, zi_abf, zi_fb, zi_bf, lget, lst, lst2, lc2, Option.map_some, zso, if_true, if_false, zc1, and_true, true_and, and_self, List.length_nil, List.length_cons, Nat.zero_le, reduceIte, reduceCtorEq, false_and, and_false, Bool.false_eq_true, zca_some, zr0, zr100, Option.bind_some, zb_none, zb_some, zrc, or_true, true_or, eq_self, ne_eq, not_true_eq_false, not_false_eq_true, zrt_i, zrt_zb, zrt_b, zrt_c, zrt_l, zrt_f, zrt_r, zrt_n, zrt_v, zft_0, zft_1, zft_zb, zft_3, zft_4, zft_5, zft_7r, zft_7n, iI_t, zb_i, zb_0, zb_1, Nat.reduceAdd, Nat.reduceLeDiff, Nat.reduceEqDiff, Nat.reduceSub, Int.reduceNeg, iI_add, iI_sub, iI_mul, iI_neg, zbz, zchar_id, zin, zwr_s, zwr_a, zwr_i, if_pos, if_neg, Int.toNat_natCast, Int.natCast_zero, Int.reduceToNat, z23, e1]

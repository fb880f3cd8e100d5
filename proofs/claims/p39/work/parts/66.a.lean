/-! the class lays a gap -/
def tPs (F : zD) (mk : Nat) : Nat → Nat → Int → zD → zD
  | 0, _, _, D => D
  | n + 1, i, t, D => if mk.testBit (7 - i) = true then tPs F mk n (i + 1) (t + F 16 i) (tAdd 6 D (F 15 i) t (t + F 16 i)) else tPs F mk n (i + 1) t D
theorem tAdd_n {a : Nat} {D : zD} {c s e : Int} : tAdd a D c s e a 3 = D a 3 + 1 := by
  unfold tAdd
  rw [zwr_s]
set_option maxRecDepth 20000 in
theorem c95_l {F : zD} {mk : Nat} {fi ti li : Int32} {h : zH} (hB : fiB F) (hm : mk < 256) : ∀ (n i : Nat) (t : Int) (D : zD) (x7 : Option Value), (i : Int) + n = F 14 3 → (∀ a j, 14 ≤ a → D a j = F a j) → 0 ≤ D 6 3 ∧ D 6 3 + n ≤ 116 → 0 ≤ t ∧ t ≤ 100000 + 900 * i → (∀ a j, a < 6 → D a j = F a j) →
    zx 95 35 [some (.ref 3), some (.int fi), some (.int ti), some (.int li), some (.int (Int32.ofInt (mk : Int))), some (.int (Int32.ofInt t)), some (.int (Int32.ofInt (i : Int))), x7] [] (zV h D) = some (.inl none, zV h (tPs F mk n i t D))
  | 0, i, t, D, x7, hi, hD, h6, ht, hD0 => by
    have hn := hB.1
    have e3 := hD 14 3 (by omega)
    rw [tPs, z95_35]
    clear hB hD hD0
    simp (disch := first | omega | (simp (disch := omega) only [zwr_s, zwr_a, zwr_i, zn_put, zn_new, zn_fil, zn_chg, zV_n]; omega)) only [zentry, zs0, zs1, zs2, zs3, zg_lo, zg_st, zg_st2, zg_ald, zg_ast, zs_ia, zs_i0, zcs, zg_ii, zi_max, zi_min, zi_abi, zi_abf, zi_fb, zi_bf, lget, lst, lst2, lc2, Option.map_some, zso, if_true, if_false, zc1, and_true, true_and, and_self, List.length_nil, List.length_cons, Nat.zero_le, reduceIte, reduceCtorEq, false_and, and_false, Bool.false_eq_true, zca_some, zr0, zr100, Option.bind_some, zb_none, zb_some, zrc, or_true, true_or, eq_self, ne_eq, not_true_eq_false, not_false_eq_true, zrt_i, zrt_zb, zrt_b, zrt_c, zrt_l, zrt_f, zrt_r, zrt_n, zrt_v, zft_0, zft_1, zft_zb, zft_3, zft_4, zft_5, zft_7r, zft_7n, iI_t, zb_i, zb_0, zb_1, Nat.reduceAdd, Nat.reduceLeDiff, Nat.reduceEqDiff, Nat.reduceSub, Int.reduceNeg, iI_add, iI_sub, iI_mul, iI_neg, iI_n, zbz, zchar_id, zin, zwr_s, zwr_a, zwr_i, if_pos, if_neg, Int.toNat_natCast, Int.natCast_zero, Int.reduceToNat, z95, e3, zc3, zc14]
  | n + 1, i, t, D, x7, hi, hD, h6, ht, hD0 => by
    have hn := hB.1
    have hb := hB.2 i (by omega)
    have e3 := hD 14 3 (by omega)
    have e10 := c10 (c := mk) (i := i) (h := h) (D := D) hm (by omega)
    have e11 := c11 (h := h) (D := D) (i := i) (by omega) (by omega)
    have e12 := c12 (h := h) (D := D) (i := i) (by omega) (by omega)
    rw [hD 15 i (by omega)] at e11
    rw [hD 16 i (by omega)] at e12
    have ei : ((i + 1 : Nat) : Int) = (i : Int) + 1 := by omega
    rw [tPs]
    by_cases g : mk.testBit (7 - i) = true
    · have e30 := c30_6 (c := F 15 i) (s := t) (e := t + F 16 i) (h := h) (D := D) (by omega)
      have ih := c95_l (fi := fi) (ti := ti) (li := li) (h := h) hB hm n (i + 1) (t + F 16 i) (tAdd 6 D (F 15 i) t (t + F 16 i)) (some (.int (Int32.ofInt (t + F 16 i)))) (by omega) (fun a j ha => by rw [tAdd_o (by omega)]; exact hD a j ha) (by rw [tAdd_n]; omega) (by omega) (fun a j ha => by rw [tAdd_o (by omega)]; exact hD0 a j ha)
      rw [if_pos g, ← ih]
      rw [zb_t g] at e10
      conv => lhs; rw [z95_35]
      clear hB ih hD hD0
      generalize tAdd 6 D (F 15 i) t (t + F 16 i) = D2 at *
      simp (disch := first | omega | (simp (disch := omega) only [zwr_s, zwr_a, zwr_i, zn_put, zn_new, zn_fil, zn_chg, zV_n]; omega)) only [zentry, zs0, zs1, zs2, zs3, zg_lo, zg_st, zg_st2, zg_ald, zg_ast, zs_ia, zs_i0, zcs, zg_ii, zi_max, zi_min, zi_abi, zi_abf, zi_fb, zi_bf, lget, lst, lst2, lc2, Option.map_some, zso, if_true, if_false, zc1, and_true, true_and, and_self, List.length_nil, List.length_cons, Nat.zero_le, reduceIte, reduceCtorEq, false_and, and_false, Bool.false_eq_true, zca_some, zr0, zr100, Option.bind_some, zb_none, zb_some, zrc, or_true, true_or, eq_self, ne_eq, not_true_eq_false, not_false_eq_true, zrt_i, zrt_zb, zrt_b, zrt_c, zrt_l, zrt_f, zrt_r, zrt_n, zrt_v, zft_0, zft_1, zft_zb, zft_3, zft_4, zft_5, zft_7r, zft_7n, iI_t, zb_i, zb_0, zb_1, Nat.reduceAdd, Nat.reduceLeDiff, Nat.reduceEqDiff, Nat.reduceSub, Int.reduceNeg, iI_add, iI_sub, iI_mul, iI_neg, iI_n, zbz, zchar_id, zin, zwr_s, zwr_a, zwr_i, if_pos, if_neg, Int.toNat_natCast, Int.natCast_zero, Int.reduceToNat, z95, e3, e10, e11, e12, e30, ei, zt2, zt3, zt4, zc3, zc6, zc14]
    · have ih := c95_l (fi := fi) (ti := ti) (li := li) (h := h) hB hm n (i + 1) t D x7 (by omega) hD (by omega) (by omega) hD0
      rw [if_neg g, ← ih]
      rw [zb_f g] at e10
      conv => lhs; rw [z95_35]
      clear hB ih hD hD0
      simp (disch := first | omega | (simp (disch := omega) only [zwr_s, zwr_a, zwr_i, zn_put, zn_new, zn_fil, zn_chg, zV_n]; omega)) only [zentry, zs0, zs1, zs2, zs3, zg_lo, zg_st, zg_st2, zg_ald, zg_ast, zs_ia, zs_i0, zcs, zg_ii, zi_max, zi_min, zi_abi, zi_abf, zi_fb, zi_bf, lget, lst, lst2, lc2, Option.map_some, zso, if_true, if_false, zc1, and_true, true_and, and_self, List.length_nil, List.length_cons, Nat.zero_le, reduceIte, reduceCtorEq, false_and, and_false, Bool.false_eq_true, zca_some, zr0, zr100, Option.bind_some, zb_none, zb_some, zrc, or_true, true_or, eq_self, ne_eq, not_true_eq_false, not_false_eq_true, zrt_i, zrt_zb, zrt_b, zrt_c, zrt_l, zrt_f, zrt_r, zrt_n, zrt_v, zft_0, zft_1, zft_zb, zft_3, zft_4, zft_5, zft_7r, zft_7n, iI_t, zb_i, zb_0, zb_1, Nat.reduceAdd, Nat.reduceLeDiff, Nat.reduceEqDiff, Nat.reduceSub, Int.reduceNeg, iI_add, iI_sub, iI_mul, iI_neg, iI_n, zbz, zchar_id, zin, zwr_s, zwr_a, zwr_i, if_pos, if_neg, Int.toNat_natCast, Int.natCast_zero, Int.reduceToNat, z95, e3, e10, ei, zt2, zt3, zc3, zc14]

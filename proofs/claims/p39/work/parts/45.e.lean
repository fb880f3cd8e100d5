/-! the reference's piece of a choice, by its index -/
def faR (m : Nat) : Nat → Nat → Int → Option Nat
  | 0, _, _ => none
  | n + 1, c, l => if m.testBit c = true then (if l = 0 then some c else faR m n (c + 1) (l - 1)) else faR m n (c + 1) l
theorem zi0 {l : Int} (h : -4294967295 ≤ l ∧ l < 2147483648) : ((Int32.ofInt l).toInt = 0) = (l = 0) := by
  rw [Int32.toInt_ofInt]
  apply propext
  show Int.bmod l 4294967296 = 0 ↔ l = 0
  rw [Int.bmod_def, show ((4294967296 : Nat) : Int) = 4294967296 from rfl]
  split <;> omega
set_option maxRecDepth 20000 in
theorem m130_l {m : Nat} {gi li ii : Int32} {h : zH} {D : zD} (hm : m < 4096) (hc : D 32 26 = (m : Int)) (h7 : 0 ≤ D 32 7 ∧ D 32 7 ≤ 12) : ∀ (n c : Nat) (l : Int), (c : Int) + n = D 32 7 → (-2147483660 + n ≤ l ∧ l < 2147483648) →
    zx 130 17 [some (.ref 32), some (.int gi), some (.int li), some (.int ii), some (.int (Int32.ofInt l)), some (.int (Int32.ofInt (c : Int)))] [] (zV h D) =
    some (.inl (some (.int (Int32.ofInt (match faR m n c l with | some q => (q : Int) | none => 0)))), zV h (match faR m n c l with | some _ => D | none => zwr D 32 32 2))
  | 0, c, l, hn, hl => by
    rw [z130_17]
    have hcc : (c : Int) = D 32 7 := by omega
    have e := m104 (h := h) (D := D) (x := 2)
    unfold faR
    simp (disch := first | omega | (simp (disch := omega) only [zwr_s, zwr_a, zwr_i]; omega)) only [zentry, zs0, zs1, zs2, zs3, zg_lo, zg_st, zg_st2, zg_ald, zg_ast, zs_ia, zs_i0, zcs, zg_ii, zi_max, zi_min, zi_abi, zi_abf, zi_fb, zi_bf, lget, lst, lst2, lc2, Option.map_some, zso, if_true, if_false, zc1, and_true, true_and, and_self, List.length_nil, List.length_cons, Nat.zero_le, reduceIte, reduceCtorEq, false_and, and_false, Bool.false_eq_true, zca_some, zr0, zr100, Option.bind_some, zb_none, zb_some, zrc, or_true, true_or, eq_self, ne_eq, not_true_eq_false, not_false_eq_true, zrt_i, zrt_zb, zrt_b, zrt_c, zrt_l, zrt_f, zrt_r, zrt_n, zrt_v, zft_0, zft_1, zft_zb, zft_3, zft_4, zft_5, zft_7r, zft_7n, iI_t, zb_i, zb_0, zb_1, Nat.reduceAdd, Nat.reduceLeDiff, Nat.reduceEqDiff, Nat.reduceSub, Int.reduceNeg, iI_add, iI_sub, iI_mul, iI_neg, iI_n, z130, hcc, zt2, e, zc32, if_pos, if_neg]
  | n + 1, c, l, hn, hl => by
    have ih1 := m130_l (gi := gi) (li := li) (ii := ii) (h := h) hm hc h7 n (c + 1) (l - 1) (by omega)
    have ih2 := m130_l (gi := gi) (li := li) (ii := ii) (h := h) hm hc h7 n (c + 1) l (by omega) (by omega)
    have hb := bt_shr hm (show c < 12 by omega)
    have hz := zi0 (l := l) (by omega)
    have hl1 : (l - 1 : Int) = l + -1 := by omega
    conv => lhs; rw [z130_17]
    unfold faR
    by_cases g : m.testBit c = true
    · simp only [g, if_true] at hb ⊢
      by_cases g0 : l = 0
      · rw [if_pos g0]
        have hcc : ¬ D 32 7 ≤ (c : Int) := by omega
        simp (disch := first | omega | (simp (disch := omega) only [zwr_s, zwr_a, zwr_i]; omega)) only [zentry, zs0, zs1, zs2, zs3, zg_lo, zg_st, zg_st2, zg_ald, zg_ast, zs_ia, zs_i0, zcs, zg_ii, zi_max, zi_min, zi_abi, zi_abf, zi_fb, zi_bf, lget, lst, lst2, lc2, Option.map_some, zso, if_true, if_false, zc1, and_true, true_and, and_self, List.length_nil, List.length_cons, Nat.zero_le, reduceIte, reduceCtorEq, false_and, and_false, Bool.false_eq_true, zca_some, zr0, zr100, Option.bind_some, zb_none, zb_some, zrc, or_true, true_or, eq_self, ne_eq, not_true_eq_false, not_false_eq_true, zrt_i, zrt_zb, zrt_b, zrt_c, zrt_l, zrt_f, zrt_r, zrt_n, zrt_v, zft_0, zft_1, zft_zb, zft_3, zft_4, zft_5, zft_7r, zft_7n, iI_t, zb_i, zb_0, zb_1, Nat.reduceAdd, Nat.reduceLeDiff, Nat.reduceEqDiff, Nat.reduceSub, Int.reduceNeg, iI_add, iI_sub, iI_mul, iI_neg, iI_n, z130, hb, hc, hz, g0, zc32, if_pos, if_neg]
      · rw [if_neg g0, ← ih1 (by omega), hl1]
        simp (disch := first | omega | (simp (disch := omega) only [zwr_s, zwr_a, zwr_i]; omega)) only [zentry, zs0, zs1, zs2, zs3, zg_lo, zg_st, zg_st2, zg_ald, zg_ast, zs_ia, zs_i0, zcs, zg_ii, zi_max, zi_min, zi_abi, zi_abf, zi_fb, zi_bf, lget, lst, lst2, lc2, Option.map_some, zso, if_true, if_false, zc1, and_true, true_and, and_self, List.length_nil, List.length_cons, Nat.zero_le, reduceIte, reduceCtorEq, false_and, and_false, Bool.false_eq_true, zca_some, zr0, zr100, Option.bind_some, zb_none, zb_some, zrc, or_true, true_or, eq_self, ne_eq, not_true_eq_false, not_false_eq_true, zrt_i, zrt_zb, zrt_b, zrt_c, zrt_l, zrt_f, zrt_r, zrt_n, zrt_v, zft_0, zft_1, zft_zb, zft_3, zft_4, zft_5, zft_7r, zft_7n, iI_t, zb_i, zb_0, zb_1, Nat.reduceAdd, Nat.reduceLeDiff, Nat.reduceEqDiff, Nat.reduceSub, Int.reduceNeg, iI_add, iI_sub, iI_mul, iI_neg, iI_n, z130, hb, hc, hz, g0, zc32, if_pos, if_neg]
    · simp only [g, if_false] at hb ⊢
      rw [if_neg (by simp), ← ih2]
      simp (disch := first | omega | (simp (disch := omega) only [zwr_s, zwr_a, zwr_i]; omega)) only [zentry, zs0, zs1, zs2, zs3, zg_lo, zg_st, zg_st2, zg_ald, zg_ast, zs_ia, zs_i0, zcs, zg_ii, zi_max, zi_min, zi_abi, zi_abf, zi_fb, zi_bf, lget, lst, lst2, lc2, Option.map_some, zso, if_true, if_false, zc1, and_true, true_and, and_self, List.length_nil, List.length_cons, Nat.zero_le, reduceIte, reduceCtorEq, false_and, and_false, Bool.false_eq_true, zca_some, zr0, zr100, Option.bind_some, zb_none, zb_some, zrc, or_true, true_or, eq_self, ne_eq, not_true_eq_false, not_false_eq_true, zrt_i, zrt_zb, zrt_b, zrt_c, zrt_l, zrt_f, zrt_r, zrt_n, zrt_v, zft_0, zft_1, zft_zb, zft_3, zft_4, zft_5, zft_7r, zft_7n, iI_t, zb_i, zb_0, zb_1, Nat.reduceAdd, Nat.reduceLeDiff, Nat.reduceEqDiff, Nat.reduceSub, Int.reduceNeg, iI_add, iI_sub, iI_mul, iI_neg, iI_n, z130, hb, hc, zc32, if_pos, if_neg]
noncomputable def mFa (D : zD) (gap lev i : Int) : Option Nat := faR (bestM D gap lev) (D 32 7).toNat 0 i
noncomputable def mFaD (D : zD) (gap lev i : Int) : zD := if mAsT D gap lev = 0 then (match mFa D gap lev i with | some _ => mAs D gap lev | none => zwr (mAs D gap lev) 32 32 2) else mAs D gap lev
noncomputable def mFaV (D : zD) (gap lev i : Int) : Int := if mAsT D gap lev = 0 then (match mFa D gap lev i with | some q => (q : Int) | none => 0) else 0
theorem mAs_o {D : zD} {gap lev : Int} {a i : Nat} (h : a ≠ 32 ∨ (i ≠ 26 ∧ i ≠ 27 ∧ i ≠ 32)) : mAs D gap lev a i = D a i := by
  unfold mAs
  rw [zwr_e, if_neg (by omega)]
  split
  · exact mFl_o (by omega)
  · rfl
set_option maxRecDepth 20000 in
theorem m130 {gap lev i : Int} {h : zH} {D : zD} (hD : mCl D) (hg : iR gap) (hl : iR lev) (hi : iR i) (hn : FP.Core.fIsNaN (mLst D) = false) :
    zc 130 6 [.ref 32, .int (Int32.ofInt gap), .int (Int32.ofInt lev), .int (Int32.ofInt i)] (zV h D) = some (.inl (some (.int (Int32.ofInt (mFaV D gap lev i)))), zV h (mFaD D gap lev i)) := by
  have e := m127 (h := h) hD hg hl hn
  have h7 := hD.1
  rw [zc]
  unfold mFaV mFaD mFa
  by_cases g : mAsT D gap lev = 0
  · have hc := mAs_c g
    have hok : okGap gap lev := by
      unfold mAsT at g
      split at g
      · assumption
      · omega
    have hb := bestM_12 hD (bestM_B hD hok.1 hok.2 hn)
    have o7 : mAs D gap lev 32 7 = D 32 7 := mAs_o (by omega)
    have R := m130_l (gi := Int32.ofInt gap) (li := Int32.ofInt lev) (ii := Int32.ofInt i) (h := h) (D := mAs D gap lev) hb hc (by rw [o7]; exact h7) (D 32 7).toNat 0 i (by rw [o7]; omega) (by omega)
    rw [zb_t g] at e
    rw [if_pos g, if_pos g]
    refine Eq.trans ?_ R
    clear R hD hn hok
    generalize mAs D gap lev = D1 at *
    simp (disch := first | omega | (simp (disch := omega) only [zwr_s, zwr_a, zwr_i]; omega)) only [zentry, zs0, zs1, zs2, zs3, zg_lo, zg_st, zg_st2, zg_ald, zg_ast, zs_ia, zs_i0, zcs, zg_ii, zi_max, zi_min, zi_abi, zi_abf, zi_fb, zi_bf, lget, lst, lst2, lc2, Option.map_some, zso, if_true, if_false, zc1, and_true, true_and, and_self, List.length_nil, List.length_cons, Nat.zero_le, reduceIte, reduceCtorEq, false_and, and_false, Bool.false_eq_true, zca_some, zr0, zr100, Option.bind_some, zb_none, zb_some, zrc, or_true, true_or, eq_self, ne_eq, not_true_eq_false, not_false_eq_true, zrt_i, zrt_zb, zrt_b, zrt_c, zrt_l, zrt_f, zrt_r, zrt_n, zrt_v, zft_0, zft_1, zft_zb, zft_3, zft_4, zft_5, zft_7r, zft_7n, iI_t, zb_i, zb_0, zb_1, Nat.reduceAdd, Nat.reduceLeDiff, Nat.reduceEqDiff, Nat.reduceSub, Int.reduceNeg, iI_add, iI_sub, iI_mul, iI_neg, iI_n, z130, zt3, e, zc32, if_pos, if_neg, Int.natCast_zero]
  · rw [zb_f g] at e
    rw [if_neg g, if_neg g]
    clear hD hn
    generalize mAs D gap lev = D1 at *
    simp (disch := first | omega | (simp (disch := omega) only [zwr_s, zwr_a, zwr_i]; omega)) only [zentry, zs0, zs1, zs2, zs3, zg_lo, zg_st, zg_st2, zg_ald, zg_ast, zs_ia, zs_i0, zcs, zg_ii, zi_max, zi_min, zi_abi, zi_abf, zi_fb, zi_bf, lget, lst, lst2, lc2, Option.map_some, zso, if_true, if_false, zc1, and_true, true_and, and_self, List.length_nil, List.length_cons, Nat.zero_le, reduceIte, reduceCtorEq, false_and, and_false, Bool.false_eq_true, zca_some, zr0, zr100, Option.bind_some, zb_none, zb_some, zrc, or_true, true_or, eq_self, ne_eq, not_true_eq_false, not_false_eq_true, zrt_i, zrt_zb, zrt_b, zrt_c, zrt_l, zrt_f, zrt_r, zrt_n, zrt_v, zft_0, zft_1, zft_zb, zft_3, zft_4, zft_5, zft_7r, zft_7n, iI_t, zb_i, zb_0, zb_1, Nat.reduceAdd, Nat.reduceLeDiff, Nat.reduceEqDiff, Nat.reduceSub, Int.reduceNeg, iI_add, iI_sub, iI_mul, iI_neg, iI_n, z130, zt3, e, zc32, if_pos, if_neg]

/-! the reference's search, run -/
theorem mal_12 {D : zD} (hD : mCl D) {i : Nat} (hi : (i : Int) ≤ D 32 7) : mal D i < 4096 := by
  have h2 := mal_lt (D := D) i
  have h3 : 2 ^ i ≤ 2 ^ 12 := Nat.pow_le_pow_right (by omega) (by have := hD.1; omega)
  omega
set_option maxRecDepth 20000 in
theorem m125_s {all t : Nat} {gap lev : Int} {h : zH} {D : zD} {x5 x6 : Option Value} (hD : mCl D) (ht : t < 4096) :
    zx 125 69 [some (.ref 32), some (.int (Int32.ofInt gap)), some (.int (Int32.ofInt lev)), some (.int (Int32.ofInt (all : Int))), some (.int (Int32.ofInt (t : Int))), some (.int (Int32.ofInt 0)), some (.int (Int32.ofInt 0))] [] (zV h D) =
    zx 125 111 [some (.ref 32), some (.int (Int32.ofInt gap)), some (.int (Int32.ofInt lev)), some (.int (Int32.ofInt (all : Int))), some (.int (Int32.ofInt (t : Int))), some (.int (Int32.ofInt (mss D t (D 32 7).toNat))), some (.int (Int32.ofInt (D 32 7)))] [] (zV h D) := by
  have hn := hD.1
  have hloop := zloop (k := 125) (pc := 69) (fun i => [some (.ref 32), some (.int (Int32.ofInt gap)), some (.int (Int32.ofInt lev)), some (.int (Int32.ofInt (all : Int))), some (.int (Int32.ofInt (t : Int))), some (.int (Int32.ofInt (mss D t i))), some (.int (Int32.ofInt (i : Int)))]) (fun _ => zV h D) (D 32 7).toNat (fun i hi => by
    have hi' : (i : Int) < D 32 7 := by omega
    have hb := bt_shr ht (show i < 12 by omega)
    have l1 := (hD.2.2 i hi').1
    conv => lhs; rw [z125_69]
    rw [mss]
    by_cases g : t.testBit i = true
    · simp only [g, if_true] at hb ⊢
      simp (disch := first | omega | (simp (disch := omega) only [zwr_s, zwr_a, zwr_i]; omega)) only [zentry, zs0, zs1, zs2, zs3, zg_lo, zg_st, zg_st2, zg_ald, zg_ast, zs_ia, zs_i0, zcs, zg_ii, zi_max, zi_min, zi_abi, zi_abf, zi_fb, zi_bf, lget, lst, lst2, lc2, Option.map_some, zso, if_true, if_false, zc1, and_true, true_and, and_self, List.length_nil, List.length_cons, Nat.zero_le, reduceIte, reduceCtorEq, false_and, and_false, Bool.false_eq_true, zca_some, zr0, zr100, Option.bind_some, zb_none, zb_some, zrc, or_true, true_or, eq_self, ne_eq, not_true_eq_false, not_false_eq_true, zrt_i, zrt_zb, zrt_b, zrt_c, zrt_l, zrt_f, zrt_r, zrt_n, zrt_v, zft_0, zft_1, zft_zb, zft_3, zft_4, zft_5, zft_7r, zft_7n, iI_t, zb_i, zb_0, zb_1, Nat.reduceAdd, Nat.reduceLeDiff, Nat.reduceEqDiff, Nat.reduceSub, Int.reduceNeg, iI_add, iI_sub, iI_mul, iI_neg, iI_n, z125, hb, zin, zc32, zc33, Int.toNat_natCast, if_pos, if_neg]
    · simp only [g, if_false] at hb ⊢
      simp (disch := first | omega | (simp (disch := omega) only [zwr_s, zwr_a, zwr_i]; omega)) only [zentry, zs0, zs1, zs2, zs3, zg_lo, zg_st, zg_st2, zg_ald, zg_ast, zs_ia, zs_i0, zcs, zg_ii, zi_max, zi_min, zi_abi, zi_abf, zi_fb, zi_bf, lget, lst, lst2, lc2, Option.map_some, zso, if_true, if_false, zc1, and_true, true_and, and_self, List.length_nil, List.length_cons, Nat.zero_le, reduceIte, reduceCtorEq, false_and, and_false, Bool.false_eq_true, zca_some, zr0, zr100, Option.bind_some, zb_none, zb_some, zrc, or_true, true_or, eq_self, ne_eq, not_true_eq_false, not_false_eq_true, zrt_i, zrt_zb, zrt_b, zrt_c, zrt_l, zrt_f, zrt_r, zrt_n, zrt_v, zft_0, zft_1, zft_zb, zft_3, zft_4, zft_5, zft_7r, zft_7n, iI_t, zb_i, zb_0, zb_1, Nat.reduceAdd, Nat.reduceLeDiff, Nat.reduceEqDiff, Nat.reduceSub, Int.reduceNeg, iI_add, iI_sub, iI_mul, iI_neg, iI_n, z125, hb, zin, zc32, zc33, Int.toNat_natCast, if_pos, if_neg]) (D 32 7).toNat (Nat.le_refl _)
  refine Eq.trans hloop ?_
  rw [z125_69]
  have hnn : (((D 32 7).toNat : Nat) : Int) = D 32 7 := by omega
  simp (disch := first | omega | (simp (disch := omega) only [zwr_s, zwr_a, zwr_i]; omega)) only [zentry, zs0, zs1, zs2, zs3, zg_lo, zg_st, zg_st2, zg_ald, zg_ast, zs_ia, zs_i0, zcs, zg_ii, zi_max, zi_min, zi_abi, zi_abf, zi_fb, zi_bf, lget, lst, lst2, lc2, Option.map_some, zso, if_true, if_false, zc1, and_true, true_and, and_self, List.length_nil, List.length_cons, Nat.zero_le, reduceIte, reduceCtorEq, false_and, and_false, Bool.false_eq_true, zca_some, zr0, zr100, Option.bind_some, zb_none, zb_some, zrc, or_true, true_or, eq_self, ne_eq, not_true_eq_false, not_false_eq_true, zrt_i, zrt_zb, zrt_b, zrt_c, zrt_l, zrt_f, zrt_r, zrt_n, zrt_v, zft_0, zft_1, zft_zb, zft_3, zft_4, zft_5, zft_7r, zft_7n, iI_t, zb_i, zb_0, zb_1, Nat.reduceAdd, Nat.reduceLeDiff, Nat.reduceEqDiff, Nat.reduceSub, Int.reduceNeg, iI_add, iI_sub, iI_mul, iI_neg, iI_n, z125, hnn, zc32, if_pos, if_neg]
set_option maxRecDepth 20000 in
theorem m125_o {gap lev : Int} {h : zH} {D : zD} (hD : mCl D) (hg : 1 ≤ gap ∧ gap ≤ 3600) (hl : -60 ≤ lev ∧ lev ≤ 0) : ∀ t : Nat, t &&& mal D (D 32 7).toNat = t → ∀ (c : Nat) (l : Int) (x5 x6 : Option Value), mInv D gap lev t c l →
    ∃ (c' : Nat) (l' : Int), mInv D gap lev 0 c' l' ∧ zx 125 58 [some (.ref 32), some (.int (Int32.ofInt gap)), some (.int (Int32.ofInt lev)), some (.int (Int32.ofInt (mal D (D 32 7).toNat : Int))), some (.int (Int32.ofInt (t : Int))), x5, x6] [] (zV h (mE D c l)) = some (.inl (some (.int (Int32.ofInt (zb ((c' : Int) ≠ 0))))), zV h (mE D c' l')) := by
  intro t
  induction t using Nat.strongRecOn with
  | _ t ih =>
    intro hta c l x5 x6 hI
    have hal := mal_12 hD (i := (D 32 7).toNat) (by have := hD.1; omega)
    have ht : t < 4096 := by
      have : t ≤ mal D (D 32 7).toNat := by rw [← hta]; exact Nat.and_le_right
      omega
    by_cases h0 : t = 0
    · subst h0
      refine ⟨c, l, hI, ?_⟩
      have hc := hI.1
      rw [z125_58]
      by_cases g : (c : Int) = 0
      · rw [zb_f (by omega)]
        simp (disch := first | omega | (simp (disch := omega) only [zwr_s, zwr_a, zwr_i]; omega)) only [zentry, zs0, zs1, zs2, zs3, zg_lo, zg_st, zg_st2, zg_ald, zg_ast, zs_ia, zs_i0, zcs, zg_ii, zi_max, zi_min, zi_abi, zi_abf, zi_fb, zi_bf, lget, lst, lst2, lc2, Option.map_some, zso, if_true, if_false, zc1, and_true, true_and, and_self, List.length_nil, List.length_cons, Nat.zero_le, reduceIte, reduceCtorEq, false_and, and_false, Bool.false_eq_true, zca_some, zr0, zr100, Option.bind_some, zb_none, zb_some, zrc, or_true, true_or, eq_self, ne_eq, not_true_eq_false, not_false_eq_true, zrt_i, zrt_zb, zrt_b, zrt_c, zrt_l, zrt_f, zrt_r, zrt_n, zrt_v, zft_0, zft_1, zft_zb, zft_3, zft_4, zft_5, zft_7r, zft_7n, iI_t, zb_i, zb_0, zb_1, Nat.reduceAdd, Nat.reduceLeDiff, Nat.reduceEqDiff, Nat.reduceSub, Int.reduceNeg, iI_add, iI_sub, iI_mul, iI_neg, iI_n, z125, zc32, mE_c, g, if_pos, if_neg, Int.natCast_zero]
      · rw [zb_t g]
        simp (disch := first | omega | (simp (disch := omega) only [zwr_s, zwr_a, zwr_i]; omega)) only [zentry, zs0, zs1, zs2, zs3, zg_lo, zg_st, zg_st2, zg_ald, zg_ast, zs_ia, zs_i0, zcs, zg_ii, zi_max, zi_min, zi_abi, zi_abf, zi_fb, zi_bf, lget, lst, lst2, lc2, Option.map_some, zso, if_true, if_false, zc1, and_true, true_and, and_self, List.length_nil, List.length_cons, Nat.zero_le, reduceIte, reduceCtorEq, false_and, and_false, Bool.false_eq_true, zca_some, zr0, zr100, Option.bind_some, zb_none, zb_some, zrc, or_true, true_or, eq_self, ne_eq, not_true_eq_false, not_false_eq_true, zrt_i, zrt_zb, zrt_b, zrt_c, zrt_l, zrt_f, zrt_r, zrt_n, zrt_v, zft_0, zft_1, zft_zb, zft_3, zft_4, zft_5, zft_7r, zft_7n, iI_t, zb_i, zb_0, zb_1, Nat.reduceAdd, Nat.reduceLeDiff, Nat.reduceEqDiff, Nat.reduceSub, Int.reduceNeg, iI_add, iI_sub, iI_mul, iI_neg, iI_n, z125, zc32, mE_c, if_pos, if_neg, Int.natCast_zero]
    · obtain ⟨c', l', e1, hI'⟩ := mInv_s hD (lev := lev) hg hta (by omega) hI
      have hlt : (t - 1) &&& mal D (D 32 7).toNat < t := Nat.lt_of_le_of_lt Nat.and_le_left (by omega)
      obtain ⟨c2, l2, hI2, e2⟩ := ih _ hlt (by rw [Nat.and_assoc, Nat.and_self]) c' l' (some (.int (Int32.ofInt (mss D t (D 32 7).toNat)))) (some (.int (Int32.ofInt (D 32 7)))) hI'
      refine ⟨c2, l2, hI2, ?_⟩
      rw [← e2]
      have hs := m125_s (all := mal D (D 32 7).toNat) (gap := gap) (lev := lev) (h := h) (x5 := x5) (x6 := x6) (mE_cl (c := c) (l := l) hD) ht
      rw [mE_mss, mE_o (by omega)] at hs
      have hb := mss_b hD t (D 32 7).toNat (by have := hD.1; omega)
      have hn := hD.1
      have ha : Int32.ofInt ((t : Int) - 1) &&& Int32.ofInt (mal D (D 32 7).toNat : Int) = Int32.ofInt (((t - 1) &&& mal D (D 32 7).toNat : Nat) : Int) := by
        rw [show (t : Int) - 1 = ((t - 1 : Nat) : Int) by omega, bt_and]
      have htk := m126 (h := h) (mE_cl (c := c) (l := l) hD) ht hg hl (by rw [mE_c]; have := hI.1; omega) (by show FP.Core.fIsNaN (UInt32.ofNat (mE D c l 32 27).toNat) = false; rw [mE_l]; exact hI.2.1)
      clear ih e2 hI hI' hI2 hD hta
      generalize mss D t (D 32 7).toNat = sm at *
      generalize mal D (D 32 7).toNat = al at *
      conv => lhs; rw [z125_58]
      have htz : ¬ (t : Int) = 0 := by omega
      by_cases g : sm = gap
      · rw [if_pos g] at e1
        rw [← e1]
        simp (disch := first | omega | (simp (disch := omega) only [zwr_s, zwr_a, zwr_i]; omega)) only [zentry, zs0, zs1, zs2, zs3, zg_lo, zg_st, zg_st2, zg_ald, zg_ast, zs_ia, zs_i0, zcs, zg_ii, zi_max, zi_min, zi_abi, zi_abf, zi_fb, zi_bf, lget, lst, lst2, lc2, Option.map_some, zso, if_true, if_false, zc1, and_true, true_and, and_self, List.length_nil, List.length_cons, Nat.zero_le, reduceIte, reduceCtorEq, false_and, and_false, Bool.false_eq_true, zca_some, zr0, zr100, Option.bind_some, zb_none, zb_some, zrc, or_true, true_or, eq_self, ne_eq, not_true_eq_false, not_false_eq_true, zrt_i, zrt_zb, zrt_b, zrt_c, zrt_l, zrt_f, zrt_r, zrt_n, zrt_v, zft_0, zft_1, zft_zb, zft_3, zft_4, zft_5, zft_7r, zft_7n, iI_t, zb_i, zb_0, zb_1, Nat.reduceAdd, Nat.reduceLeDiff, Nat.reduceEqDiff, Nat.reduceSub, Int.reduceNeg, iI_add, iI_sub, iI_mul, iI_neg, iI_n, z125, htz, hs, ha, zt4, htk, g, zc32, if_pos, if_neg]
      · rw [if_neg g] at e1
        rw [← e1]
        simp (disch := first | omega | (simp (disch := omega) only [zwr_s, zwr_a, zwr_i]; omega)) only [zentry, zs0, zs1, zs2, zs3, zg_lo, zg_st, zg_st2, zg_ald, zg_ast, zs_ia, zs_i0, zcs, zg_ii, zi_max, zi_min, zi_abi, zi_abf, zi_fb, zi_bf, lget, lst, lst2, lc2, Option.map_some, zso, if_true, if_false, zc1, and_true, true_and, and_self, List.length_nil, List.length_cons, Nat.zero_le, reduceIte, reduceCtorEq, false_and, and_false, Bool.false_eq_true, zca_some, zr0, zr100, Option.bind_some, zb_none, zb_some, zrc, or_true, true_or, eq_self, ne_eq, not_true_eq_false, not_false_eq_true, zrt_i, zrt_zb, zrt_b, zrt_c, zrt_l, zrt_f, zrt_r, zrt_n, zrt_v, zft_0, zft_1, zft_zb, zft_3, zft_4, zft_5, zft_7r, zft_7n, iI_t, zb_i, zb_0, zb_1, Nat.reduceAdd, Nat.reduceLeDiff, Nat.reduceEqDiff, Nat.reduceSub, Int.reduceNeg, iI_add, iI_sub, iI_mul, iI_neg, iI_n, z125, htz, hs, ha, g, zc32, if_pos, if_neg]

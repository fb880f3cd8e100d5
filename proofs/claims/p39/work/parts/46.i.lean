/-! the reference's layout of the day -/
def MF (S D : zD) : Prop := fEq S D ∧ FP.Core.fIsNaN (mLst D) = false ∧ D 32 21 = (lyF S).2.1.length ∧ mRp D (lyF S).2.1 ∧ ∀ n : Nat, (n : Int) < S 32 15 → D 62 n = (lyF S).2.2.1 n ∧ D 63 n = (lyF S).2.2.2.1 n ∧ D 64 n = (lyF S).2.2.2.2 n ∧ D 65 n = plR n (lyF S).2.1
theorem m138_n {S D : zD} {h : zH} (hC : mCl S) (hE : mEvs S) (hn : FP.Core.fIsNaN (mLst S) = false) (hM : MR S D 0 (lyN S 0)) : ∀ e : Nat, (e : Int) ≤ S 32 15 →
    ∃ D1, zx 138 9 [some (.ref 32), some (.int (Int32.ofInt 0)), some (.int (Int32.ofInt 0))] [] (zV h D) = zx 138 9 [some (.ref 32), some (.int (Int32.ofInt (lyN S e).1)), some (.int (Int32.ofInt (e : Int)))] [] (zV h D1) ∧ MR S D1 e (lyN S e)
  | 0, _ => ⟨D, rfl, hM⟩
  | e + 1, he => by
    obtain ⟨D1, e1, M1⟩ := m138_n hC hE hn hM e (by omega)
    obtain ⟨D2, e2, M2⟩ := m138_s (h := h) hC hE hn (by omega) (lyN_p hC hE hn e (by omega)) M1
    exact ⟨D2, e1.trans e2, M2⟩
set_option maxRecDepth 20000 in
theorem m138 {D : zD} {h : zH} (hC : mCl D) (hE : mEvs D) (hn : FP.Core.fIsNaN (mLst D) = false) : ∃ D', zc 138 3 [.ref 32] (zV h D) = some (.inl none, zV h D') ∧ MF D D' := by
  have hM0 : MR D (zwr D 32 21 0) 0 (lyN D 0) := by
    refine ⟨fun a i q => by rw [zwr_e, if_neg (by omega)], ?_, by rw [zwr_s]; rfl, trivial, fun n hn => absurd hn (Nat.not_lt_zero _)⟩
    unfold mLst at hn ⊢
    rw [zwr_i (by omega)]
    exact hn
  have h15 := hE.1
  have hnn : (((D 32 15).toNat : Nat) : Int) = D 32 15 := by omega
  obtain ⟨D1, e1, m1, m2, m3, m4, m5⟩ := m138_n (h := h) hC hE hn hM0 (D 32 15).toNat (by omega)
  have hI := lyN_p hC hE hn (D 32 15).toNat (by omega)
  obtain ⟨hI1, hI2⟩ := hI
  have f15 : D1 32 15 = D 32 15 := m1 32 15 (by omega)
  rw [hnn] at e1
  obtain ⟨i1, i2, i3, i4, i5⟩ := id hI1
  have t0 := spC_nn i1
  have hCD := m1.ce.cl hC
  have hED := m1.mE hE
  have hID := m1.I hI1
  have hb := lyI_B hED hCD (e := (D 32 15).toNat) (by omega) hID
  have start : zc 138 3 [.ref 32] (zV h D) = zx 138 9 [some (.ref 32), some (.int (Int32.ofInt 0)), some (.int (Int32.ofInt 0))] [] (zV h (zwr D 32 21 0)) := by
    rw [zc]
    clear hC hE hn hM0 e1 m1 m2 m3 m4 m5 hI1 hI2 hb hCD hED hID i1 i2 i3 i4 i5
    simp (disch := first | omega | (simp (disch := omega) only [zwr_s, zwr_a, zwr_i]; omega)) only [zentry, zs0, zs1, zs2, zs3, zg_lo, zg_st, zg_st2, zg_ald, zg_ast, zs_ia, zs_i0, zcs, zg_ii, zi_max, zi_min, zi_abi, zi_abf, zi_fb, zi_bf, lget, lst, lst2, lc2, Option.map_some, zso, if_true, if_false, zc1, and_true, true_and, and_self, List.length_nil, List.length_cons, Nat.zero_le, reduceIte, reduceCtorEq, false_and, and_false, Bool.false_eq_true, zca_some, zr0, zr100, Option.bind_some, zb_none, zb_some, zrc, or_true, true_or, eq_self, ne_eq, not_true_eq_false, not_false_eq_true, zrt_i, zrt_zb, zrt_b, zrt_c, zrt_l, zrt_f, zrt_r, zrt_n, zrt_v, zft_0, zft_1, zft_zb, zft_3, zft_4, zft_5, zft_7r, zft_7n, iI_t, zb_i, zb_0, zb_1, Nat.reduceAdd, Nat.reduceLeDiff, Nat.reduceEqDiff, Nat.reduceSub, Int.reduceNeg, iI_add, iI_sub, iI_mul, iI_neg, iI_n, zbz, zchar_id, zin, zwr_s, zwr_a, zwr_i, if_pos, if_neg, Int.toNat_natCast, Int.natCast_zero, z138, zc32]
  rw [start, e1]
  unfold MF lyF lyE
  by_cases g : (lyN D (D 32 15).toNat).1 < 3600
  · simp only [g, if_true]
    have e135 := m135 (h := h) (f := (lyN D (D 32 15).toNat).1) (t := 3600) hCD m2 m3 (by omega) m4 hb (lyI_v hID) (by omega) (by omega)
    obtain ⟨r1, r2⟩ := mGap_rp (f := (lyN D (D 32 15).toNat).1) (t := 3600) m3 m4
    rw [m1.ce.gap] at r1 r2
    refine ⟨mGap D1 (lyN D (D 32 15).toNat).1 3600 (lyN D (D 32 15).toNat).2.1, ?_, mGap_fe m1, mGap_nn hCD (by omega) m2, r2, r1, fun n hn9 => ?_⟩
    · rw [z138_9]
      clear hC hE hn hM0 e1 m1 m2 m3 m4 m5 hI1 hI2 hb hCD hED hID i1 i3 i4 i5 r1 r2 start
      generalize mGap D1 (lyN D (D 32 15).toNat).1 3600 (lyN D (D 32 15).toNat).2.1 = D2 at *
      generalize (lyN D (D 32 15).toNat).1 = t at *
      simp (disch := first | omega | (simp (disch := omega) only [zwr_s, zwr_a, zwr_i]; omega)) only [zentry, zs0, zs1, zs2, zs3, zg_lo, zg_st, zg_st2, zg_ald, zg_ast, zs_ia, zs_i0, zcs, zg_ii, zi_max, zi_min, zi_abi, zi_abf, zi_fb, zi_bf, lget, lst, lst2, lc2, Option.map_some, zso, if_true, if_false, zc1, and_true, true_and, and_self, List.length_nil, List.length_cons, Nat.zero_le, reduceIte, reduceCtorEq, false_and, and_false, Bool.false_eq_true, zca_some, zr0, zr100, Option.bind_some, zb_none, zb_some, zrc, or_true, true_or, eq_self, ne_eq, not_true_eq_false, not_false_eq_true, zrt_i, zrt_zb, zrt_b, zrt_c, zrt_l, zrt_f, zrt_r, zrt_n, zrt_v, zft_0, zft_1, zft_zb, zft_3, zft_4, zft_5, zft_7r, zft_7n, iI_t, zb_i, zb_0, zb_1, Nat.reduceAdd, Nat.reduceLeDiff, Nat.reduceEqDiff, Nat.reduceSub, Int.reduceNeg, iI_add, iI_sub, iI_mul, iI_neg, iI_n, zbz, zchar_id, zin, zwr_s, zwr_a, zwr_i, if_pos, if_neg, Int.toNat_natCast, Int.natCast_zero, z138, f15, e135, zt3, zc32]
    · obtain ⟨w1, w2, w3, w4⟩ := m5 n (by omega)
      refine ⟨by rw [mGap_o (by omega) (by omega)]; exact w1, by rw [mGap_o (by omega) (by omega)]; exact w2, by rw [mGap_o (by omega) (by omega)]; exact w3, by rw [mGap_o (by omega) (by omega), plR_gap]; exact w4⟩
  · simp only [g, if_false]
    have e133 := m133 (h := h) (t := 3600) (by omega) m3 (by omega) m4 hb
    obtain ⟨r1, r2⟩ := mCut_rp (t := 3600) (lyN D (D 32 15).toNat).2.1 D1 m3 m4
    refine ⟨mCut 3600 (lyN D (D 32 15).toNat).2.1 D1, ?_, mCut_fe m1, mCut_nn m2, r2, r1, fun n hn9 => ?_⟩
    · rw [z138_9]
      clear hC hE hn hM0 e1 m1 m2 m3 m4 m5 hI1 hI2 hb hCD hED hID i1 i3 i4 i5 r1 r2 start
      generalize mCut 3600 (lyN D (D 32 15).toNat).2.1 D1 = D2 at *
      generalize (lyN D (D 32 15).toNat).1 = t at *
      simp (disch := first | omega | (simp (disch := omega) only [zwr_s, zwr_a, zwr_i]; omega)) only [zentry, zs0, zs1, zs2, zs3, zg_lo, zg_st, zg_st2, zg_ald, zg_ast, zs_ia, zs_i0, zcs, zg_ii, zi_max, zi_min, zi_abi, zi_abf, zi_fb, zi_bf, lget, lst, lst2, lc2, Option.map_some, zso, if_true, if_false, zc1, and_true, true_and, and_self, List.length_nil, List.length_cons, Nat.zero_le, reduceIte, reduceCtorEq, false_and, and_false, Bool.false_eq_true, zca_some, zr0, zr100, Option.bind_some, zb_none, zb_some, zrc, or_true, true_or, eq_self, ne_eq, not_true_eq_false, not_false_eq_true, zrt_i, zrt_zb, zrt_b, zrt_c, zrt_l, zrt_f, zrt_r, zrt_n, zrt_v, zft_0, zft_1, zft_zb, zft_3, zft_4, zft_5, zft_7r, zft_7n, iI_t, zb_i, zb_0, zb_1, Nat.reduceAdd, Nat.reduceLeDiff, Nat.reduceEqDiff, Nat.reduceSub, Int.reduceNeg, iI_add, iI_sub, iI_mul, iI_neg, iI_n, zbz, zchar_id, zin, zwr_s, zwr_a, zwr_i, if_pos, if_neg, Int.toNat_natCast, Int.natCast_zero, z138, f15, e133, zt2, zc32]
    · obtain ⟨w1, w2, w3, w4⟩ := m5 n (by omega)
      refine ⟨by rw [mCut_o (by omega) (by omega) (by omega) (by omega)]; exact w1, by rw [mCut_63 _ _ hb, w2], by rw [mCut_o (by omega) (by omega) (by omega) (by omega)]; exact w3, ?_⟩
      exact mCut_65 _ _ i5 w4

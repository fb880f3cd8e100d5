/-! the reference's questions about choices -/
theorem mFl_o {D : zD} {gap lev : Int} {a i : Nat} (h : a ≠ 32 ∨ (i ≠ 26 ∧ i ≠ 27)) : mFl D gap lev a i = D a i := mE_o h
theorem mFl_c {D : zD} {gap lev : Int} : mFl D gap lev 32 26 = (bestM D gap lev : Int) := mE_c
theorem bestM_12 {D : zD} (hD : mCl D) {gap lev : Int} (hb : isB (clsD D) (fun m => FP.Core.fkey (mdv D m gap lev)) gap (bestM D gap lev)) : bestM D gap lev < 4096 := by
  rcases hb with ⟨h, -⟩ | ⟨h, -⟩
  · omega
  · exact (mch_lt hD h).2.1
abbrev okGap (gap lev : Int) : Prop := (1 ≤ gap ∧ gap ≤ 3600) ∧ (-60 ≤ lev ∧ lev ≤ 0)
noncomputable def mAsT (D : zD) (gap lev : Int) : Int := if okGap gap lev then (if bestM D gap lev = 0 then 2 else 0) else 1
noncomputable def mAs (D : zD) (gap lev : Int) : zD := zwr (if okGap gap lev then mFl D gap lev else D) 32 32 (mAsT D gap lev)
set_option maxRecDepth 20000 in
theorem m127 {gap lev : Int} {h : zH} {D : zD} (hD : mCl D) (hg : iR gap) (hl : iR lev) (hn : FP.Core.fIsNaN (mLst D) = false) :
    zc 127 3 [.ref 32, .int (Int32.ofInt gap), .int (Int32.ofInt lev)] (zV h D) = some (.inl (some (.int (Int32.ofInt (zb (mAsT D gap lev = 0))))), zV h (mAs D gap lev)) := by
  rw [zc]
  unfold mAs mAsT
  by_cases g1 : 1 ≤ gap ∧ gap ≤ 3600
  · by_cases g2 : -60 ≤ lev ∧ lev ≤ 0
    · have e := m125 (h := h) hD g1 g2 hn
      have gok : okGap gap lev := ⟨g1, g2⟩
      rw [if_pos gok, if_pos gok]
      clear hD hn
      by_cases g3 : bestM D gap lev = 0
      · rw [zb_f (by omega)] at e
        rw [if_pos g3, zb_f (by omega)]
        generalize mFl D gap lev = D1 at *
        generalize bestM D gap lev = bm at *
        simp (disch := first | omega | (simp (disch := omega) only [zwr_s, zwr_a, zwr_i]; omega)) only [zentry, zs0, zs1, zs2, zs3, zg_lo, zg_st, zg_st2, zg_ald, zg_ast, zs_ia, zs_i0, zcs, zg_ii, zi_max, zi_min, zi_abi, zi_abf, zi_fb, zi_bf, lget, lst, lst2, lc2, Option.map_some, zso, if_true, if_false, zc1, and_true, true_and, and_self, List.length_nil, List.length_cons, Nat.zero_le, reduceIte, reduceCtorEq, false_and, and_false, Bool.false_eq_true, zca_some, zr0, zr100, Option.bind_some, zb_none, zb_some, zrc, or_true, true_or, eq_self, ne_eq, not_true_eq_false, not_false_eq_true, zrt_i, zrt_zb, zrt_b, zrt_c, zrt_l, zrt_f, zrt_r, zrt_n, zrt_v, zft_0, zft_1, zft_zb, zft_3, zft_4, zft_5, zft_7r, zft_7n, iI_t, zb_i, zb_0, zb_1, Nat.reduceAdd, Nat.reduceLeDiff, Nat.reduceEqDiff, Nat.reduceSub, Int.reduceNeg, iI_add, iI_sub, iI_mul, iI_neg, iI_n, z127, zt3, m105, e, zc32, if_pos, if_neg, zwr_s]
      · rw [zb_t (by omega)] at e
        rw [if_neg g3, zb_t rfl]
        generalize mFl D gap lev = D1 at *
        generalize bestM D gap lev = bm at *
        simp (disch := first | omega | (simp (disch := omega) only [zwr_s, zwr_a, zwr_i]; omega)) only [zentry, zs0, zs1, zs2, zs3, zg_lo, zg_st, zg_st2, zg_ald, zg_ast, zs_ia, zs_i0, zcs, zg_ii, zi_max, zi_min, zi_abi, zi_abf, zi_fb, zi_bf, lget, lst, lst2, lc2, Option.map_some, zso, if_true, if_false, zc1, and_true, true_and, and_self, List.length_nil, List.length_cons, Nat.zero_le, reduceIte, reduceCtorEq, false_and, and_false, Bool.false_eq_true, zca_some, zr0, zr100, Option.bind_some, zb_none, zb_some, zrc, or_true, true_or, eq_self, ne_eq, not_true_eq_false, not_false_eq_true, zrt_i, zrt_zb, zrt_b, zrt_c, zrt_l, zrt_f, zrt_r, zrt_n, zrt_v, zft_0, zft_1, zft_zb, zft_3, zft_4, zft_5, zft_7r, zft_7n, iI_t, zb_i, zb_0, zb_1, Nat.reduceAdd, Nat.reduceLeDiff, Nat.reduceEqDiff, Nat.reduceSub, Int.reduceNeg, iI_add, iI_sub, iI_mul, iI_neg, iI_n, z127, zt3, m105, e, zc32, if_pos, if_neg, zwr_s]
    · have gok : ¬ okGap gap lev := fun q => g2 q.2
      rw [if_neg gok, if_neg gok, zb_f (by omega)]
      clear hD hn
      simp (disch := first | omega | (simp (disch := omega) only [zwr_s, zwr_a, zwr_i]; omega)) only [zentry, zs0, zs1, zs2, zs3, zg_lo, zg_st, zg_st2, zg_ald, zg_ast, zs_ia, zs_i0, zcs, zg_ii, zi_max, zi_min, zi_abi, zi_abf, zi_fb, zi_bf, lget, lst, lst2, lc2, Option.map_some, zso, if_true, if_false, zc1, and_true, true_and, and_self, List.length_nil, List.length_cons, Nat.zero_le, reduceIte, reduceCtorEq, false_and, and_false, Bool.false_eq_true, zca_some, zr0, zr100, Option.bind_some, zb_none, zb_some, zrc, or_true, true_or, eq_self, ne_eq, not_true_eq_false, not_false_eq_true, zrt_i, zrt_zb, zrt_b, zrt_c, zrt_l, zrt_f, zrt_r, zrt_n, zrt_v, zft_0, zft_1, zft_zb, zft_3, zft_4, zft_5, zft_7r, zft_7n, iI_t, zb_i, zb_0, zb_1, Nat.reduceAdd, Nat.reduceLeDiff, Nat.reduceEqDiff, Nat.reduceSub, Int.reduceNeg, iI_add, iI_sub, iI_mul, iI_neg, iI_n, z127, zt3, m105, zc32, if_pos, if_neg, zwr_s]
  · have gok : ¬ okGap gap lev := fun q => g1 q.1
    rw [if_neg gok, if_neg gok, zb_f (by omega)]
    clear hD hn
    simp (disch := first | omega | (simp (disch := omega) only [zwr_s, zwr_a, zwr_i]; omega)) only [zentry, zs0, zs1, zs2, zs3, zg_lo, zg_st, zg_st2, zg_ald, zg_ast, zs_ia, zs_i0, zcs, zg_ii, zi_max, zi_min, zi_abi, zi_abf, zi_fb, zi_bf, lget, lst, lst2, lc2, Option.map_some, zso, if_true, if_false, zc1, and_true, true_and, and_self, List.length_nil, List.length_cons, Nat.zero_le, reduceIte, reduceCtorEq, false_and, and_false, Bool.false_eq_true, zca_some, zr0, zr100, Option.bind_some, zb_none, zb_some, zrc, or_true, true_or, eq_self, ne_eq, not_true_eq_false, not_false_eq_true, zrt_i, zrt_zb, zrt_b, zrt_c, zrt_l, zrt_f, zrt_r, zrt_n, zrt_v, zft_0, zft_1, zft_zb, zft_3, zft_4, zft_5, zft_7r, zft_7n, iI_t, zb_i, zb_0, zb_1, Nat.reduceAdd, Nat.reduceLeDiff, Nat.reduceEqDiff, Nat.reduceSub, Int.reduceNeg, iI_add, iI_sub, iI_mul, iI_neg, iI_n, z127, zt3, m105, zc32, if_pos, if_neg, zwr_s]
theorem bestM_B {D : zD} (hD : mCl D) {gap lev : Int} (hg : 1 ≤ gap ∧ gap ≤ 3600) (hl : -60 ≤ lev ∧ lev ≤ 0) (hn : FP.Core.fIsNaN (mLst D) = false) : isB (clsD D) (fun m => FP.Core.fkey (mdv D m gap lev)) gap (bestM D gap lev) := by
  have hI0 : mInv D gap lev (mal D (D 32 7).toNat) 0 (D 32 27) := by
    refine ⟨by omega, hn, Or.inl ⟨rfl, rfl, fun x h1 h2 => ?_⟩⟩
    have := (mch_lt hD h2).2.2.1
    have h3 : x ≤ mal D (D 32 7).toNat := by rw [← this]; exact Nat.and_le_right
    omega
  obtain ⟨c', l', hI, -⟩ := m125_o (h := ((0, 0, 0), fun _ => 0, fun _ => 0, fun _ _ => .null)) hD hg hl (mal D (D 32 7).toNat) (Nat.and_self _) 0 (D 32 27) none none hI0
  have hb := mInv_0 hD hg hI
  rw [bestM_of hb]
  exact hb
theorem mAsT_v {D : zD} {gap lev : Int} : mAsT D gap lev = 0 ∨ mAsT D gap lev = 1 ∨ mAsT D gap lev = 2 := by
  unfold mAsT
  split
  · split <;> simp
  · simp
theorem mAs_c {D : zD} {gap lev : Int} (h : mAsT D gap lev = 0) : mAs D gap lev 32 26 = (bestM D gap lev : Int) := by
  unfold mAs
  have g : okGap gap lev := by
    unfold mAsT at h
    split at h
    · assumption
    · omega
  rw [if_pos g, zwr_i (by omega), mFl_c]
set_option maxRecDepth 20000 in
theorem m128 {gap lev : Int} {h : zH} {D : zD} (hD : mCl D) (hg : iR gap) (hl : iR lev) (hn : FP.Core.fIsNaN (mLst D) = false) :
    zc 128 3 [.ref 32, .int (Int32.ofInt gap), .int (Int32.ofInt lev)] (zV h D) = some (.inl (some (.int (Int32.ofInt (if mAsT D gap lev = 0 then (popB 12 (bestM D gap lev) : Int) else 0)))), zV h (mAs D gap lev)) := by
  have e := m127 (h := h) hD hg hl hn
  rw [zc]
  by_cases g : mAsT D gap lev = 0
  · have hc := mAs_c g
    have hok : okGap gap lev := by
      unfold mAsT at g
      split at g
      · assumption
      · omega
    have e2 := m182 (h := zV h (mAs D gap lev)) (bestM_12 hD (bestM_B hD hok.1 hok.2 hn))
    rw [zb_t g] at e
    rw [if_pos g]
    clear hD hn hok
    generalize mAs D gap lev = D1 at *
    generalize bestM D gap lev = bm at *
    generalize popB 12 bm = pb at *
    simp (disch := first | omega | (simp (disch := omega) only [zwr_s, zwr_a, zwr_i]; omega)) only [zentry, zs0, zs1, zs2, zs3, zg_lo, zg_st, zg_st2, zg_ald, zg_ast, zs_ia, zs_i0, zcs, zg_ii, zi_max, zi_min, zi_abi, zi_abf, zi_fb, zi_bf, lget, lst, lst2, lc2, Option.map_some, zso, if_true, if_false, zc1, and_true, true_and, and_self, List.length_nil, List.length_cons, Nat.zero_le, reduceIte, reduceCtorEq, false_and, and_false, Bool.false_eq_true, zca_some, zr0, zr100, Option.bind_some, zb_none, zb_some, zrc, or_true, true_or, eq_self, ne_eq, not_true_eq_false, not_false_eq_true, zrt_i, zrt_zb, zrt_b, zrt_c, zrt_l, zrt_f, zrt_r, zrt_n, zrt_v, zft_0, zft_1, zft_zb, zft_3, zft_4, zft_5, zft_7r, zft_7n, iI_t, zb_i, zb_0, zb_1, Nat.reduceAdd, Nat.reduceLeDiff, Nat.reduceEqDiff, Nat.reduceSub, Int.reduceNeg, iI_add, iI_sub, iI_mul, iI_neg, iI_n, z128, zt3, zt1, e, e2, hc, zc32, if_pos, if_neg]
  · rw [zb_f g] at e
    rw [if_neg g]
    clear hD hn
    generalize mAs D gap lev = D1 at *
    simp (disch := first | omega | (simp (disch := omega) only [zwr_s, zwr_a, zwr_i]; omega)) only [zentry, zs0, zs1, zs2, zs3, zg_lo, zg_st, zg_st2, zg_ald, zg_ast, zs_ia, zs_i0, zcs, zg_ii, zi_max, zi_min, zi_abi, zi_abf, zi_fb, zi_bf, lget, lst, lst2, lc2, Option.map_some, zso, if_true, if_false, zc1, and_true, true_and, and_self, List.length_nil, List.length_cons, Nat.zero_le, reduceIte, reduceCtorEq, false_and, and_false, Bool.false_eq_true, zca_some, zr0, zr100, Option.bind_some, zb_none, zb_some, zrc, or_true, true_or, eq_self, ne_eq, not_true_eq_false, not_false_eq_true, zrt_i, zrt_zb, zrt_b, zrt_c, zrt_l, zrt_f, zrt_r, zrt_n, zrt_v, zft_0, zft_1, zft_zb, zft_3, zft_4, zft_5, zft_7r, zft_7n, iI_t, zb_i, zb_0, zb_1, Nat.reduceAdd, Nat.reduceLeDiff, Nat.reduceEqDiff, Nat.reduceSub, Int.reduceNeg, iI_add, iI_sub, iI_mul, iI_neg, iI_n, z128, zt3, zt1, e, zc32, if_pos, if_neg]
set_option maxRecDepth 20000 in
theorem m129 {gap lev : Int} {h : zH} {D : zD} (hD : mCl D) (hg : iR gap) (hl : iR lev) (hn : FP.Core.fIsNaN (mLst D) = false) :
    zc 129 3 [.ref 32, .int (Int32.ofInt gap), .int (Int32.ofInt lev)] (zV h D) = some (.inl (some (.int (Int32.ofInt (if mAsT D gap lev = 0 then (popB 12 (bestM D gap lev) : Int) else 0)))), zV h (mAs D gap lev)) := by
  have e := m128 (h := h) hD hg hl hn
  rw [zc]
  generalize mAs D gap lev = D1 at *
  generalize (if mAsT D gap lev = 0 then (popB 12 (bestM D gap lev) : Int) else 0) = r at *
  clear hD hn
  simp (disch := first | omega | (simp (disch := omega) only [zwr_s, zwr_a, zwr_i]; omega)) only [zentry, zs0, zs1, zs2, zs3, zg_lo, zg_st, zg_st2, zg_ald, zg_ast, zs_ia, zs_i0, zcs, zg_ii, zi_max, zi_min, zi_abi, zi_abf, zi_fb, zi_bf, lget, lst, lst2, lc2, Option.map_some, zso, if_true, if_false, zc1, and_true, true_and, and_self, List.length_nil, List.length_cons, Nat.zero_le, reduceIte, reduceCtorEq, false_and, and_false, Bool.false_eq_true, zca_some, zr0, zr100, Option.bind_some, zb_none, zb_some, zrc, or_true, true_or, eq_self, ne_eq, not_true_eq_false, not_false_eq_true, zrt_i, zrt_zb, zrt_b, zrt_c, zrt_l, zrt_f, zrt_r, zrt_n, zrt_v, zft_0, zft_1, zft_zb, zft_3, zft_4, zft_5, zft_7r, zft_7n, iI_t, zb_i, zb_0, zb_1, Nat.reduceAdd, Nat.reduceLeDiff, Nat.reduceEqDiff, Nat.reduceSub, Int.reduceNeg, iI_add, iI_sub, iI_mul, iI_neg, iI_n, z129, zt3, e, zc32, if_pos, if_neg]
set_option maxRecDepth 20000 in
theorem m131 {gap lev : Int} {h : zH} {D : zD} (hD : mCl D) (hg : iR gap) (hl : iR lev) (hn : FP.Core.fIsNaN (mLst D) = false) :
    zc 131 3 [.ref 32, .int (Int32.ofInt gap), .int (Int32.ofInt lev)] (zV h D) = some (.inl (some (.float (if mAsT D gap lev = 0 then mdv D (bestM D gap lev) gap lev else FP.fconst0))), zV h (mAs D gap lev)) := by
  have e := m127 (h := h) hD hg hl hn
  rw [zc]
  by_cases g : mAsT D gap lev = 0
  · have hl9 : UInt32.ofNat (mAs D gap lev 32 27).toNat = mdv D (bestM D gap lev) gap lev := by
      have g9 := g
      unfold mAsT at g9
      unfold mAs
      split at g9
      · rename_i q
        split at g9
        · omega
        · rename_i q2
          rw [if_pos q, zwr_i (by omega)]
          unfold mFl
          rw [mE_l, if_neg q2, Int.toNat_natCast, UInt32.ofNat_toNat]
      · omega
    rw [zb_t g] at e
    rw [if_pos g]
    clear hD hn
    generalize mAs D gap lev = D1 at *
    generalize mdv D (bestM D gap lev) gap lev = md at *
    simp (disch := first | omega | (simp (disch := omega) only [zwr_s, zwr_a, zwr_i]; omega)) only [zentry, zs0, zs1, zs2, zs3, zg_lo, zg_st, zg_st2, zg_ald, zg_ast, zs_ia, zs_i0, zcs, zg_ii, zi_max, zi_min, zi_abi, zi_abf, zi_fb, zi_bf, lget, lst, lst2, lc2, Option.map_some, zso, if_true, if_false, zc1, and_true, true_and, and_self, List.length_nil, List.length_cons, Nat.zero_le, reduceIte, reduceCtorEq, false_and, and_false, Bool.false_eq_true, zca_some, zr0, zr100, Option.bind_some, zb_none, zb_some, zrc, or_true, true_or, eq_self, ne_eq, not_true_eq_false, not_false_eq_true, zrt_i, zrt_zb, zrt_b, zrt_c, zrt_l, zrt_f, zrt_r, zrt_n, zrt_v, zft_0, zft_1, zft_zb, zft_3, zft_4, zft_5, zft_7r, zft_7n, iI_t, zb_i, zb_0, zb_1, Nat.reduceAdd, Nat.reduceLeDiff, Nat.reduceEqDiff, Nat.reduceSub, Int.reduceNeg, iI_add, iI_sub, iI_mul, iI_neg, iI_n, z131, zt3, zt1, e, hl9, zc32, if_pos, if_neg]
  · rw [zb_f g] at e
    rw [if_neg g]
    clear hD hn
    generalize mAs D gap lev = D1 at *
    simp (disch := first | omega | (simp (disch := omega) only [zwr_s, zwr_a, zwr_i]; omega)) only [zentry, zs0, zs1, zs2, zs3, zg_lo, zg_st, zg_st2, zg_ald, zg_ast, zs_ia, zs_i0, zcs, zg_ii, zi_max, zi_min, zi_abi, zi_abf, zi_fb, zi_bf, lget, lst, lst2, lc2, Option.map_some, zso, if_true, if_false, zc1, and_true, true_and, and_self, List.length_nil, List.length_cons, Nat.zero_le, reduceIte, reduceCtorEq, false_and, and_false, Bool.false_eq_true, zca_some, zr0, zr100, Option.bind_some, zb_none, zb_some, zrc, or_true, true_or, eq_self, ne_eq, not_true_eq_false, not_false_eq_true, zrt_i, zrt_zb, zrt_b, zrt_c, zrt_l, zrt_f, zrt_r, zrt_n, zrt_v, zft_0, zft_1, zft_zb, zft_3, zft_4, zft_5, zft_7r, zft_7n, iI_t, zb_i, zb_0, zb_1, Nat.reduceAdd, Nat.reduceLeDiff, Nat.reduceEqDiff, Nat.reduceSub, Int.reduceNeg, iI_add, iI_sub, iI_mul, iI_neg, iI_n, z131, zt3, zt1, e, zc32, if_pos, if_neg]

/-! the reference's answers about events -/
def qEv (D : zD) (p : Int) : Int := if 0 ≤ p ∧ p ≤ D 32 15 - 1 then 0 else 1
noncomputable def rFate (D : zD) (p : Nat) : Int := if (lyF D).2.2.1 p = 1 then 114 else if plR p (lyF D).2.1 = -1 then 120 else if (lyF D).2.2.2.1 p = 1 then 99 else if (lyF D).2.2.2.2 p = 1 then 106 else 97
set_option maxRecDepth 20000 in
theorem m139 {p : Int} {h : zH} {D : zD} (hO : mOk D) (hp : iR p) : ∃ D', zc 139 2 [.ref 32, .int (Int32.ofInt p)] (zV h D) = some (.inl (some (.int (Int32.ofInt (if qEv D p = 0 then rFate D p.toNat else 32)))), zV h D') ∧ mAft D D' (qEv D p) := by
  have h15 := hO.2.1.1
  have e114 := m114 (c := p) (h := h) (D := D) hp h15
  by_cases g : 0 ≤ p ∧ p ≤ D 32 15 - 1
  · have hq : qEv D p = 0 := if_pos g
    obtain ⟨D', e, f1, f2, f3, f4, f5, f6⟩ := m138_t (h := h) hO 0
    obtain ⟨w1, w2, w3, w4⟩ := f6 p.toNat (by omega)
    obtain ⟨b1, b2, b3⟩ := (lyF_ok hO).2.2.2.2 p.toNat
    have pb := plR_r (n := p.toNat) (sp := (lyF D).2.1)
    have lb := (lyF_ok hO).2.1
    refine ⟨D', ?_, f2, by rw [hq]; exact f1, f3⟩
    rw [hq, if_pos rfl, zc]
    unfold rFate
    rw [zb_t g] at e114
    clear hO f2 f3 f5 f6 hq
    generalize lyF D = L at *
    generalize L.2.2.1 p.toNat = ba at *
    generalize L.2.2.2.1 p.toNat = cu at *
    generalize L.2.2.2.2 p.toNat = jo at *
    generalize plR p.toNat L.2.1 = pl at *
    by_cases q1 : ba = 1
    · rw [if_pos q1]
      simp (disch := first | omega | (simp (disch := omega) only [zwr_s, zwr_a, zwr_i]; omega)) only [zentry, zs0, zs1, zs2, zs3, zg_lo, zg_st, zg_st2, zg_ald, zg_ast, zs_ia, zs_i0, zcs, zg_ii, zi_max, zi_min, zi_abi, zi_abf, zi_fb, zi_bf, lget, lst, lst2, lc2, Option.map_some, zso, if_true, if_false, zc1, and_true, true_and, and_self, List.length_nil, List.length_cons, Nat.zero_le, reduceIte, reduceCtorEq, false_and, and_false, Bool.false_eq_true, zca_some, zr0, zr100, Option.bind_some, zb_none, zb_some, zrc, or_true, true_or, eq_self, ne_eq, not_true_eq_false, not_false_eq_true, zrt_i, zrt_zb, zrt_b, zrt_c, zrt_l, zrt_f, zrt_r, zrt_n, zrt_v, zft_0, zft_1, zft_zb, zft_3, zft_4, zft_5, zft_7r, zft_7n, iI_t, zb_i, zb_0, zb_1, Nat.reduceAdd, Nat.reduceLeDiff, Nat.reduceEqDiff, Nat.reduceSub, Int.reduceNeg, iI_add, iI_sub, iI_mul, iI_neg, iI_n, zbz, zchar_id, zin, zwr_s, zwr_a, zwr_i, if_pos, if_neg, Int.toNat_natCast, Int.natCast_zero, z139, zt2, zt1, e114, e, w1, w2, w3, w4, q1, zc32, zc62, zc63, zc64, zc65]
    · rw [if_neg q1]
      by_cases q2 : pl = -1
      · rw [if_pos q2]
        simp (disch := first | omega | (simp (disch := omega) only [zwr_s, zwr_a, zwr_i]; omega)) only [zentry, zs0, zs1, zs2, zs3, zg_lo, zg_st, zg_st2, zg_ald, zg_ast, zs_ia, zs_i0, zcs, zg_ii, zi_max, zi_min, zi_abi, zi_abf, zi_fb, zi_bf, lget, lst, lst2, lc2, Option.map_some, zso, if_true, if_false, zc1, and_true, true_and, and_self, List.length_nil, List.length_cons, Nat.zero_le, reduceIte, reduceCtorEq, false_and, and_false, Bool.false_eq_true, zca_some, zr0, zr100, Option.bind_some, zb_none, zb_some, zrc, or_true, true_or, eq_self, ne_eq, not_true_eq_false, not_false_eq_true, zrt_i, zrt_zb, zrt_b, zrt_c, zrt_l, zrt_f, zrt_r, zrt_n, zrt_v, zft_0, zft_1, zft_zb, zft_3, zft_4, zft_5, zft_7r, zft_7n, iI_t, zb_i, zb_0, zb_1, Nat.reduceAdd, Nat.reduceLeDiff, Nat.reduceEqDiff, Nat.reduceSub, Int.reduceNeg, iI_add, iI_sub, iI_mul, iI_neg, iI_n, zbz, zchar_id, zin, zwr_s, zwr_a, zwr_i, if_pos, if_neg, Int.toNat_natCast, Int.natCast_zero, z139, zt2, zt1, e114, e, w1, w2, w3, w4, q2, zc32, zc62, zc63, zc64, zc65]
      · rw [if_neg q2]
        by_cases q3 : cu = 1
        · rw [if_pos q3]
          simp (disch := first | omega | (simp (disch := omega) only [zwr_s, zwr_a, zwr_i]; omega)) only [zentry, zs0, zs1, zs2, zs3, zg_lo, zg_st, zg_st2, zg_ald, zg_ast, zs_ia, zs_i0, zcs, zg_ii, zi_max, zi_min, zi_abi, zi_abf, zi_fb, zi_bf, lget, lst, lst2, lc2, Option.map_some, zso, if_true, if_false, zc1, and_true, true_and, and_self, List.length_nil, List.length_cons, Nat.zero_le, reduceIte, reduceCtorEq, false_and, and_false, Bool.false_eq_true, zca_some, zr0, zr100, Option.bind_some, zb_none, zb_some, zrc, or_true, true_or, eq_self, ne_eq, not_true_eq_false, not_false_eq_true, zrt_i, zrt_zb, zrt_b, zrt_c, zrt_l, zrt_f, zrt_r, zrt_n, zrt_v, zft_0, zft_1, zft_zb, zft_3, zft_4, zft_5, zft_7r, zft_7n, iI_t, zb_i, zb_0, zb_1, Nat.reduceAdd, Nat.reduceLeDiff, Nat.reduceEqDiff, Nat.reduceSub, Int.reduceNeg, iI_add, iI_sub, iI_mul, iI_neg, iI_n, zbz, zchar_id, zin, zwr_s, zwr_a, zwr_i, if_pos, if_neg, Int.toNat_natCast, Int.natCast_zero, z139, zt2, zt1, e114, e, w1, w2, w3, w4, q3, zc32, zc62, zc63, zc64, zc65]
        · rw [if_neg q3]
          by_cases q4 : jo = 1
          · rw [if_pos q4]
            simp (disch := first | omega | (simp (disch := omega) only [zwr_s, zwr_a, zwr_i]; omega)) only [zentry, zs0, zs1, zs2, zs3, zg_lo, zg_st, zg_st2, zg_ald, zg_ast, zs_ia, zs_i0, zcs, zg_ii, zi_max, zi_min, zi_abi, zi_abf, zi_fb, zi_bf, lget, lst, lst2, lc2, Option.map_some, zso, if_true, if_false, zc1, and_true, true_and, and_self, List.length_nil, List.length_cons, Nat.zero_le, reduceIte, reduceCtorEq, false_and, and_false, Bool.false_eq_true, zca_some, zr0, zr100, Option.bind_some, zb_none, zb_some, zrc, or_true, true_or, eq_self, ne_eq, not_true_eq_false, not_false_eq_true, zrt_i, zrt_zb, zrt_b, zrt_c, zrt_l, zrt_f, zrt_r, zrt_n, zrt_v, zft_0, zft_1, zft_zb, zft_3, zft_4, zft_5, zft_7r, zft_7n, iI_t, zb_i, zb_0, zb_1, Nat.reduceAdd, Nat.reduceLeDiff, Nat.reduceEqDiff, Nat.reduceSub, Int.reduceNeg, iI_add, iI_sub, iI_mul, iI_neg, iI_n, zbz, zchar_id, zin, zwr_s, zwr_a, zwr_i, if_pos, if_neg, Int.toNat_natCast, Int.natCast_zero, z139, zt2, zt1, e114, e, w1, w2, w3, w4, q4, zc32, zc62, zc63, zc64, zc65]
          · rw [if_neg q4]
            simp (disch := first | omega | (simp (disch := omega) only [zwr_s, zwr_a, zwr_i]; omega)) only [zentry, zs0, zs1, zs2, zs3, zg_lo, zg_st, zg_st2, zg_ald, zg_ast, zs_ia, zs_i0, zcs, zg_ii, zi_max, zi_min, zi_abi, zi_abf, zi_fb, zi_bf, lget, lst, lst2, lc2, Option.map_some, zso, if_true, if_false, zc1, and_true, true_and, and_self, List.length_nil, List.length_cons, Nat.zero_le, reduceIte, reduceCtorEq, false_and, and_false, Bool.false_eq_true, zca_some, zr0, zr100, Option.bind_some, zb_none, zb_some, zrc, or_true, true_or, eq_self, ne_eq, not_true_eq_false, not_false_eq_true, zrt_i, zrt_zb, zrt_b, zrt_c, zrt_l, zrt_f, zrt_r, zrt_n, zrt_v, zft_0, zft_1, zft_zb, zft_3, zft_4, zft_5, zft_7r, zft_7n, iI_t, zb_i, zb_0, zb_1, Nat.reduceAdd, Nat.reduceLeDiff, Nat.reduceEqDiff, Nat.reduceSub, Int.reduceNeg, iI_add, iI_sub, iI_mul, iI_neg, iI_n, zbz, zchar_id, zin, zwr_s, zwr_a, zwr_i, if_pos, if_neg, Int.toNat_natCast, Int.natCast_zero, z139, zt2, zt1, e114, e, w1, w2, w3, w4, zc32, zc62, zc63, zc64, zc65]
  · have hq : qEv D p = 1 := if_neg g
    refine ⟨zwr D 32 32 1, ?_, zwr_32, by rw [hq, zwr_s], zwr_32n hO.2.2.1⟩
    rw [hq, if_neg (by omega), zc]
    rw [zb_f g] at e114
    clear hO hq
    simp (disch := first | omega | (simp (disch := omega) only [zwr_s, zwr_a, zwr_i]; omega)) only [zentry, zs0, zs1, zs2, zs3, zg_lo, zg_st, zg_st2, zg_ald, zg_ast, zs_ia, zs_i0, zcs, zg_ii, zi_max, zi_min, zi_abi, zi_abf, zi_fb, zi_bf, lget, lst, lst2, lc2, Option.map_some, zso, if_true, if_false, zc1, and_true, true_and, and_self, List.length_nil, List.length_cons, Nat.zero_le, reduceIte, reduceCtorEq, false_and, and_false, Bool.false_eq_true, zca_some, zr0, zr100, Option.bind_some, zb_none, zb_some, zrc, or_true, true_or, eq_self, ne_eq, not_true_eq_false, not_false_eq_true, zrt_i, zrt_zb, zrt_b, zrt_c, zrt_l, zrt_f, zrt_r, zrt_n, zrt_v, zft_0, zft_1, zft_zb, zft_3, zft_4, zft_5, zft_7r, zft_7n, iI_t, zb_i, zb_0, zb_1, Nat.reduceAdd, Nat.reduceLeDiff, Nat.reduceEqDiff, Nat.reduceSub, Int.reduceNeg, iI_add, iI_sub, iI_mul, iI_neg, iI_n, zbz, zchar_id, zin, zwr_s, zwr_a, zwr_i, if_pos, if_neg, Int.toNat_natCast, Int.natCast_zero, z139, zt2, e114, zc32]
/-- what isAired throws -/
noncomputable def qAi (D : zD) (p : Int) : Int := if 0 ≤ p ∧ p ≤ D 32 15 - 1 then (if (lyF D).2.2.1 p.toNat = 1 ∨ plR p.toNat (lyF D).2.1 = -1 then 2 else 0) else 1
set_option maxRecDepth 20000 in
theorem m140 {p : Int} {h : zH} {D : zD} (hO : mOk D) (hp : iR p) : ∃ D', zc 140 2 [.ref 32, .int (Int32.ofInt p)] (zV h D) = some (.inl (some (.int (Int32.ofInt (zb (qAi D p = 0))))), zV h D') ∧ mAft D D' (qAi D p) ∧ (qAi D p ≠ 1 → D' 32 21 = (lyF D).2.1.length ∧ mRp D' (lyF D).2.1 ∧ ∀ n : Nat, (n : Int) < D 32 15 → D' 62 n = (lyF D).2.2.1 n ∧ D' 65 n = plR n (lyF D).2.1) := by
  have h15 := hO.2.1.1
  have e114 := m114 (c := p) (h := h) (D := D) hp h15
  by_cases g : 0 ≤ p ∧ p ≤ D 32 15 - 1
  · obtain ⟨D', e, f1, f2, f3, f4, f5, f6⟩ := m138_t (h := h) hO 0
    obtain ⟨w1, w2, w3, w4⟩ := f6 p.toNat (by omega)
    obtain ⟨b1, b2, b3⟩ := (lyF_ok hO).2.2.2.2 p.toNat
    have pb := plR_r (n := p.toNat) (sp := (lyF D).2.1)
    have lb := (lyF_ok hO).2.1
    refine ⟨zwr D' 32 32 (qAi D p), ?_, ⟨f2.tr zwr_32, by rw [zwr_s], zwr_32n f3⟩, fun _ => ⟨by rw [zwr_i (by omega)]; exact f4, mRp_c (fun k _ => ⟨zwr_a (by omega), zwr_a (by omega), zwr_a (by omega), zwr_a (by omega)⟩) f5, fun n hn => ⟨by rw [zwr_a (by omega)]; exact (f6 n hn).1, by rw [zwr_a (by omega)]; exact (f6 n hn).2.2.2⟩⟩⟩
    rw [zc]
    unfold qAi
    rw [if_pos g]
    rw [zb_t g] at e114
    clear hO f2 f3 f5 f6
    generalize lyF D = L at *
    generalize L.2.2.1 p.toNat = ba at *
    generalize plR p.toNat L.2.1 = pl at *
    by_cases q1 : ba = 1
    · rw [if_pos (Or.inl q1), zb_f (by omega)]
      simp (disch := first | omega | (simp (disch := omega) only [zwr_s, zwr_a, zwr_i]; omega)) only [zentry, zs0, zs1, zs2, zs3, zg_lo, zg_st, zg_st2, zg_ald, zg_ast, zs_ia, zs_i0, zcs, zg_ii, zi_max, zi_min, zi_abi, zi_abf, zi_fb, zi_bf, lget, lst, lst2, lc2, Option.map_some, zso, if_true, if_false, zc1, and_true, true_and, and_self, List.length_nil, List.length_cons, Nat.zero_le, reduceIte, reduceCtorEq, false_and, and_false, Bool.false_eq_true, zca_some, zr0, zr100, Option.bind_some, zb_none, zb_some, zrc, or_true, true_or, eq_self, ne_eq, not_true_eq_false, not_false_eq_true, zrt_i, zrt_zb, zrt_b, zrt_c, zrt_l, zrt_f, zrt_r, zrt_n, zrt_v, zft_0, zft_1, zft_zb, zft_3, zft_4, zft_5, zft_7r, zft_7n, iI_t, zb_i, zb_0, zb_1, Nat.reduceAdd, Nat.reduceLeDiff, Nat.reduceEqDiff, Nat.reduceSub, Int.reduceNeg, iI_add, iI_sub, iI_mul, iI_neg, iI_n, zbz, zchar_id, zin, zwr_s, zwr_a, zwr_i, if_pos, if_neg, Int.toNat_natCast, Int.natCast_zero, z140, zt2, zt1, e114, e, f1, w1, w4, q1, zc32, zc62, zc65]
    · by_cases q2 : pl = -1
      · rw [if_pos (Or.inr q2), zb_f (by omega)]
        simp (disch := first | omega | (simp (disch := omega) only [zwr_s, zwr_a, zwr_i]; omega)) only [zentry, zs0, zs1, zs2, zs3, zg_lo, zg_st, zg_st2, zg_ald, zg_ast, zs_ia, zs_i0, zcs, zg_ii, zi_max, zi_min, zi_abi, zi_abf, zi_fb, zi_bf, lget, lst, lst2, lc2, Option.map_some, zso, if_true, if_false, zc1, and_true, true_and, and_self, List.length_nil, List.length_cons, Nat.zero_le, reduceIte, reduceCtorEq, false_and, and_false, Bool.false_eq_true, zca_some, zr0, zr100, Option.bind_some, zb_none, zb_some, zrc, or_true, true_or, eq_self, ne_eq, not_true_eq_false, not_false_eq_true, zrt_i, zrt_zb, zrt_b, zrt_c, zrt_l, zrt_f, zrt_r, zrt_n, zrt_v, zft_0, zft_1, zft_zb, zft_3, zft_4, zft_5, zft_7r, zft_7n, iI_t, zb_i, zb_0, zb_1, Nat.reduceAdd, Nat.reduceLeDiff, Nat.reduceEqDiff, Nat.reduceSub, Int.reduceNeg, iI_add, iI_sub, iI_mul, iI_neg, iI_n, zbz, zchar_id, zin, zwr_s, zwr_a, zwr_i, if_pos, if_neg, Int.toNat_natCast, Int.natCast_zero, z140, zt2, zt1, e114, e, f1, w1, w4, q2, zc32, zc62, zc65]
      · rw [if_neg (by omega), zb_t rfl]
        simp (disch := first | omega | (simp (disch := omega) only [zwr_s, zwr_a, zwr_i]; omega)) only [zentry, zs0, zs1, zs2, zs3, zg_lo, zg_st, zg_st2, zg_ald, zg_ast, zs_ia, zs_i0, zcs, zg_ii, zi_max, zi_min, zi_abi, zi_abf, zi_fb, zi_bf, lget, lst, lst2, lc2, Option.map_some, zso, if_true, if_false, zc1, and_true, true_and, and_self, List.length_nil, List.length_cons, Nat.zero_le, reduceIte, reduceCtorEq, false_and, and_false, Bool.false_eq_true, zca_some, zr0, zr100, Option.bind_some, zb_none, zb_some, zrc, or_true, true_or, eq_self, ne_eq, not_true_eq_false, not_false_eq_true, zrt_i, zrt_zb, zrt_b, zrt_c, zrt_l, zrt_f, zrt_r, zrt_n, zrt_v, zft_0, zft_1, zft_zb, zft_3, zft_4, zft_5, zft_7r, zft_7n, iI_t, zb_i, zb_0, zb_1, Nat.reduceAdd, Nat.reduceLeDiff, Nat.reduceEqDiff, Nat.reduceSub, Int.reduceNeg, iI_add, iI_sub, iI_mul, iI_neg, iI_n, zbz, zchar_id, zin, zwr_s, zwr_a, zwr_i, if_pos, if_neg, Int.toNat_natCast, Int.natCast_zero, z140, zt2, zt1, e114, e, f1, w1, w4, zc32, zc62, zc65]
  · have hq : qAi D p = 1 := if_neg g
    refine ⟨zwr D 32 32 1, ?_, ⟨zwr_32, by rw [hq, zwr_s], zwr_32n hO.2.2.1⟩, fun q => absurd hq q⟩
    rw [hq, zb_f (by omega), zc]
    rw [zb_f g] at e114
    clear hO hq
    simp (disch := first | omega | (simp (disch := omega) only [zwr_s, zwr_a, zwr_i]; omega)) only [zentry, zs0, zs1, zs2, zs3, zg_lo, zg_st, zg_st2, zg_ald, zg_ast, zs_ia, zs_i0, zcs, zg_ii, zi_max, zi_min, zi_abi, zi_abf, zi_fb, zi_bf, lget, lst, lst2, lc2, Option.map_some, zso, if_true, if_false, zc1, and_true, true_and, and_self, List.length_nil, List.length_cons, Nat.zero_le, reduceIte, reduceCtorEq, false_and, and_false, Bool.false_eq_true, zca_some, zr0, zr100, Option.bind_some, zb_none, zb_some, zrc, or_true, true_or, eq_self, ne_eq, not_true_eq_false, not_false_eq_true, zrt_i, zrt_zb, zrt_b, zrt_c, zrt_l, zrt_f, zrt_r, zrt_n, zrt_v, zft_0, zft_1, zft_zb, zft_3, zft_4, zft_5, zft_7r, zft_7n, iI_t, zb_i, zb_0, zb_1, Nat.reduceAdd, Nat.reduceLeDiff, Nat.reduceEqDiff, Nat.reduceSub, Int.reduceNeg, iI_add, iI_sub, iI_mul, iI_neg, iI_n, zbz, zchar_id, zin, zwr_s, zwr_a, zwr_i, if_pos, if_neg, Int.toNat_natCast, Int.natCast_zero, z140, zt2, e114, zc32]
noncomputable def rSt (D : zD) (p : Nat) : Int := (spK (lyF D).2.1 (plR p (lyF D).2.1).toNat).2.2.1
noncomputable def rEn (D : zD) (p : Nat) : Int := (spK (lyF D).2.1 (plR p (lyF D).2.1).toNat).2.2.2
theorem qAi_0 {D : zD} {p : Int} (h : qAi D p = 0) : (0 ≤ p ∧ p ≤ D 32 15 - 1) ∧ 0 ≤ plR p.toNat (lyF D).2.1 := by
  unfold qAi at h
  have := plR_r (n := p.toNat) (sp := (lyF D).2.1)
  split at h
  · rename_i g
    split at h
    · omega
    · rename_i g2
      exact ⟨g, by omega⟩
  · omega
set_option maxRecDepth 20000 in
theorem m141 {p : Int} {h : zH} {D : zD} (hO : mOk D) (hp : iR p) : ∃ D', zc 141 2 [.ref 32, .int (Int32.ofInt p)] (zV h D) = some (.inl (some (.int (Int32.ofInt (if qAi D p = 0 then rSt D p.toNat else 0)))), zV h D') ∧ mAft D D' (qAi D p) := by
  obtain ⟨D', e, f1, f2⟩ := m140 (h := h) hO hp
  refine ⟨D', ?_, f1⟩
  rw [zc]
  by_cases q : qAi D p = 0
  · obtain ⟨g1, g2⟩ := qAi_0 q
    obtain ⟨k1, k2, k3⟩ := f2 (by omega)
    have w := (k3 p.toNat (by omega)).2
    have pb := plR_r (n := p.toNat) (sp := (lyF D).2.1)
    have lb := (lyF_ok hO).2.1
    have r := (mRp_K k2 (plR p.toNat (lyF D).2.1).toNat (by omega)).2.2.1
    have h15 := hO.2.1.1
    rw [zb_t q] at e
    rw [if_pos q]
    unfold rSt
    clear hO f1 f2 k1 k2 k3 q
    generalize spK (lyF D).2.1 (plR p.toNat (lyF D).2.1).toNat = sx at *
    generalize plR p.toNat (lyF D).2.1 = pl at *
    simp (disch := first | omega | (simp (disch := omega) only [zwr_s, zwr_a, zwr_i]; omega)) only [zentry, zs0, zs1, zs2, zs3, zg_lo, zg_st, zg_st2, zg_ald, zg_ast, zs_ia, zs_i0, zcs, zg_ii, zi_max, zi_min, zi_abi, zi_abf, zi_fb, zi_bf, lget, lst, lst2, lc2, Option.map_some, zso, if_true, if_false, zc1, and_true, true_and, and_self, List.length_nil, List.length_cons, Nat.zero_le, reduceIte, reduceCtorEq, false_and, and_false, Bool.false_eq_true, zca_some, zr0, zr100, Option.bind_some, zb_none, zb_some, zrc, or_true, true_or, eq_self, ne_eq, not_true_eq_false, not_false_eq_true, zrt_i, zrt_zb, zrt_b, zrt_c, zrt_l, zrt_f, zrt_r, zrt_n, zrt_v, zft_0, zft_1, zft_zb, zft_3, zft_4, zft_5, zft_7r, zft_7n, iI_t, zb_i, zb_0, zb_1, Nat.reduceAdd, Nat.reduceLeDiff, Nat.reduceEqDiff, Nat.reduceSub, Int.reduceNeg, iI_add, iI_sub, iI_mul, iI_neg, iI_n, zbz, zchar_id, zin, zwr_s, zwr_a, zwr_i, if_pos, if_neg, Int.toNat_natCast, Int.natCast_zero, z141, zt2, e, w, r, zc32, zc59, zc65]
  · rw [zb_f q] at e
    rw [if_neg q]
    clear hO f1 f2 q
    simp (disch := first | omega | (simp (disch := omega) only [zwr_s, zwr_a, zwr_i]; omega)) only [zentry, zs0, zs1, zs2, zs3, zg_lo, zg_st, zg_st2, zg_ald, zg_ast, zs_ia, zs_i0, zcs, zg_ii, zi_max, zi_min, zi_abi, zi_abf, zi_fb, zi_bf, lget, lst, lst2, lc2, Option.map_some, zso, if_true, if_false, zc1, and_true, true_and, and_self, List.length_nil, List.length_cons, Nat.zero_le, reduceIte, reduceCtorEq, false_and, and_false, Bool.false_eq_true, zca_some, zr0, zr100, Option.bind_some, zb_none, zb_some, zrc, or_true, true_or, eq_self, ne_eq, not_true_eq_false, not_false_eq_true, zrt_i, zrt_zb, zrt_b, zrt_c, zrt_l, zrt_f, zrt_r, zrt_n, zrt_v, zft_0, zft_1, zft_zb, zft_3, zft_4, zft_5, zft_7r, zft_7n, iI_t, zb_i, zb_0, zb_1, Nat.reduceAdd, Nat.reduceLeDiff, Nat.reduceEqDiff, Nat.reduceSub, Int.reduceNeg, iI_add, iI_sub, iI_mul, iI_neg, iI_n, zbz, zchar_id, zin, zwr_s, zwr_a, zwr_i, if_pos, if_neg, Int.toNat_natCast, Int.natCast_zero, z141, zt2, e, zc32]
set_option maxRecDepth 20000 in
theorem m142 {p : Int} {h : zH} {D : zD} (hO : mOk D) (hp : iR p) : ∃ D', zc 142 2 [.ref 32, .int (Int32.ofInt p)] (zV h D) = some (.inl (some (.int (Int32.ofInt (if qAi D p = 0 then rEn D p.toNat else 0)))), zV h D') ∧ mAft D D' (qAi D p) := by
  obtain ⟨D', e, f1, f2⟩ := m140 (h := h) hO hp
  refine ⟨D', ?_, f1⟩
  rw [zc]
  by_cases q : qAi D p = 0
  · obtain ⟨g1, g2⟩ := qAi_0 q
    obtain ⟨k1, k2, k3⟩ := f2 (by omega)
    have w := (k3 p.toNat (by omega)).2
    have pb := plR_r (n := p.toNat) (sp := (lyF D).2.1)
    have lb := (lyF_ok hO).2.1
    have r := (mRp_K k2 (plR p.toNat (lyF D).2.1).toNat (by omega)).2.2.2
    have h15 := hO.2.1.1
    rw [zb_t q] at e
    rw [if_pos q]
    unfold rEn
    clear hO f1 f2 k1 k2 k3 q
    generalize spK (lyF D).2.1 (plR p.toNat (lyF D).2.1).toNat = sx at *
    generalize plR p.toNat (lyF D).2.1 = pl at *
    simp (disch := first | omega | (simp (disch := omega) only [zwr_s, zwr_a, zwr_i]; omega)) only [zentry, zs0, zs1, zs2, zs3, zg_lo, zg_st, zg_st2, zg_ald, zg_ast, zs_ia, zs_i0, zcs, zg_ii, zi_max, zi_min, zi_abi, zi_abf, zi_fb, zi_bf, lget, lst, lst2, lc2, Option.map_some, zso, if_true, if_false, zc1, and_true, true_and, and_self, List.length_nil, List.length_cons, Nat.zero_le, reduceIte, reduceCtorEq, false_and, and_false, Bool.false_eq_true, zca_some, zr0, zr100, Option.bind_some, zb_none, zb_some, zrc, or_true, true_or, eq_self, ne_eq, not_true_eq_false, not_false_eq_true, zrt_i, zrt_zb, zrt_b, zrt_c, zrt_l, zrt_f, zrt_r, zrt_n, zrt_v, zft_0, zft_1, zft_zb, zft_3, zft_4, zft_5, zft_7r, zft_7n, iI_t, zb_i, zb_0, zb_1, Nat.reduceAdd, Nat.reduceLeDiff, Nat.reduceEqDiff, Nat.reduceSub, Int.reduceNeg, iI_add, iI_sub, iI_mul, iI_neg, iI_n, zbz, zchar_id, zin, zwr_s, zwr_a, zwr_i, if_pos, if_neg, Int.toNat_natCast, Int.natCast_zero, z142, zt2, e, w, r, zc32, zc60, zc65]
  · rw [zb_f q] at e
    rw [if_neg q]
    clear hO f1 f2 q
    simp (disch := first | omega | (simp (disch := omega) only [zwr_s, zwr_a, zwr_i]; omega)) only [zentry, zs0, zs1, zs2, zs3, zg_lo, zg_st, zg_st2, zg_ald, zg_ast, zs_ia, zs_i0, zcs, zg_ii, zi_max, zi_min, zi_abi, zi_abf, zi_fb, zi_bf, lget, lst, lst2, lc2, Option.map_some, zso, if_true, if_false, zc1, and_true, true_and, and_self, List.length_nil, List.length_cons, Nat.zero_le, reduceIte, reduceCtorEq, false_and, and_false, Bool.false_eq_true, zca_some, zr0, zr100, Option.bind_some, zb_none, zb_some, zrc, or_true, true_or, eq_self, ne_eq, not_true_eq_false, not_false_eq_true, zrt_i, zrt_zb, zrt_b, zrt_c, zrt_l, zrt_f, zrt_r, zrt_n, zrt_v, zft_0, zft_1, zft_zb, zft_3, zft_4, zft_5, zft_7r, zft_7n, iI_t, zb_i, zb_0, zb_1, Nat.reduceAdd, Nat.reduceLeDiff, Nat.reduceEqDiff, Nat.reduceSub, Int.reduceNeg, iI_add, iI_sub, iI_mul, iI_neg, iI_n, zbz, zchar_id, zin, zwr_s, zwr_a, zwr_i, if_pos, if_neg, Int.toNat_natCast, Int.natCast_zero, z142, zt2, e, zc32]
set_option maxRecDepth 20000 in
theorem m143 {h : zH} {D : zD} (hO : mOk D) : ∃ D', zc 143 1 [.ref 32] (zV h D) = some (.inl (some (.int (Int32.ofInt ((lyF D).2.1.length : Int)))), zV h D') ∧ mAft D D' 0 := by
  obtain ⟨D', e, f1, f2, f3, f4, f5, f6⟩ := m138_t (h := h) hO 0
  refine ⟨D', ?_, f2, f1, f3⟩
  rw [zc]
  clear hO f1 f2 f3 f5 f6
  simp (disch := first | omega | (simp (disch := omega) only [zwr_s, zwr_a, zwr_i]; omega)) only [zentry, zs0, zs1, zs2, zs3, zg_lo, zg_st, zg_st2, zg_ald, zg_ast, zs_ia, zs_i0, zcs, zg_ii, zi_max, zi_min, zi_abi, zi_abf, zi_fb, zi_bf, lget, lst, lst2, lc2, Option.map_some, zso, if_true, if_false, zc1, and_true, true_and, and_self, List.length_nil, List.length_cons, Nat.zero_le, reduceIte, reduceCtorEq, false_and, and_false, Bool.false_eq_true, zca_some, zr0, zr100, Option.bind_some, zb_none, zb_some, zrc, or_true, true_or, eq_self, ne_eq, not_true_eq_false, not_false_eq_true, zrt_i, zrt_zb, zrt_b, zrt_c, zrt_l, zrt_f, zrt_r, zrt_n, zrt_v, zft_0, zft_1, zft_zb, zft_3, zft_4, zft_5, zft_7r, zft_7n, iI_t, zb_i, zb_0, zb_1, Nat.reduceAdd, Nat.reduceLeDiff, Nat.reduceEqDiff, Nat.reduceSub, Int.reduceNeg, iI_add, iI_sub, iI_mul, iI_neg, iI_n, zbz, zchar_id, zin, zwr_s, zwr_a, zwr_i, if_pos, if_neg, Int.toNat_natCast, Int.natCast_zero, z143, zt1, e, f4, zc32]
noncomputable def qSp (D : zD) (i : Int) : Int := if 0 ≤ i ∧ i ≤ ((lyF D).2.1.length : Int) - 1 then 0 else 1
set_option maxRecDepth 20000 in
theorem m144 {i : Int} {h : zH} {D : zD} (hO : mOk D) (hi : iR i) : ∃ D', zc 144 2 [.ref 32, .int (Int32.ofInt i)] (zV h D) = some (.inl (some (.int (Int32.ofInt (zb (qSp D i = 0))))), zV h D') ∧ mAft D D' (qSp D i) ∧ mRp D' (lyF D).2.1 := by
  obtain ⟨D', e, f1, f2, f3, f4, f5, f6⟩ := m138_0 (h := h) hO
  have lb := (lyF_ok hO).2.1
  refine ⟨zwr D' 32 32 (qSp D i), ?_, ⟨f2.tr zwr_32, by rw [zwr_s], zwr_32n f3⟩, mRp_c (fun k _ => ⟨zwr_a (by omega), zwr_a (by omega), zwr_a (by omega), zwr_a (by omega)⟩) f5⟩
  rw [zc]
  unfold qSp
  clear hO f1 f2 f3 f5 f6
  generalize (lyF D).2.1.length = n at *
  by_cases g : 0 ≤ i ∧ i ≤ (n : Int) - 1
  · rw [if_pos g, zb_t rfl]
    simp (disch := first | omega | (simp (disch := omega) only [zwr_s, zwr_a, zwr_i]; omega)) only [zentry, zs0, zs1, zs2, zs3, zg_lo, zg_st, zg_st2, zg_ald, zg_ast, zs_ia, zs_i0, zcs, zg_ii, zi_max, zi_min, zi_abi, zi_abf, zi_fb, zi_bf, lget, lst, lst2, lc2, Option.map_some, zso, if_true, if_false, zc1, and_true, true_and, and_self, List.length_nil, List.length_cons, Nat.zero_le, reduceIte, reduceCtorEq, false_and, and_false, Bool.false_eq_true, zca_some, zr0, zr100, Option.bind_some, zb_none, zb_some, zrc, or_true, true_or, eq_self, ne_eq, not_true_eq_false, not_false_eq_true, zrt_i, zrt_zb, zrt_b, zrt_c, zrt_l, zrt_f, zrt_r, zrt_n, zrt_v, zft_0, zft_1, zft_zb, zft_3, zft_4, zft_5, zft_7r, zft_7n, iI_t, zb_i, zb_0, zb_1, Nat.reduceAdd, Nat.reduceLeDiff, Nat.reduceEqDiff, Nat.reduceSub, Int.reduceNeg, iI_add, iI_sub, iI_mul, iI_neg, iI_n, zbz, zchar_id, zin, zwr_s, zwr_a, zwr_i, if_pos, if_neg, Int.toNat_natCast, Int.natCast_zero, z144, zt1, zt3, m105, e, f4, zc32]
  · rw [if_neg g, zb_f (by omega)]
    simp (disch := first | omega | (simp (disch := omega) only [zwr_s, zwr_a, zwr_i]; omega)) only [zentry, zs0, zs1, zs2, zs3, zg_lo, zg_st, zg_st2, zg_ald, zg_ast, zs_ia, zs_i0, zcs, zg_ii, zi_max, zi_min, zi_abi, zi_abf, zi_fb, zi_bf, lget, lst, lst2, lc2, Option.map_some, zso, if_true, if_false, zc1, and_true, true_and, and_self, List.length_nil, List.length_cons, Nat.zero_le, reduceIte, reduceCtorEq, false_and, and_false, Bool.false_eq_true, zca_some, zr0, zr100, Option.bind_some, zb_none, zb_some, zrc, or_true, true_or, eq_self, ne_eq, not_true_eq_false, not_false_eq_true, zrt_i, zrt_zb, zrt_b, zrt_c, zrt_l, zrt_f, zrt_r, zrt_n, zrt_v, zft_0, zft_1, zft_zb, zft_3, zft_4, zft_5, zft_7r, zft_7n, iI_t, zb_i, zb_0, zb_1, Nat.reduceAdd, Nat.reduceLeDiff, Nat.reduceEqDiff, Nat.reduceSub, Int.reduceNeg, iI_add, iI_sub, iI_mul, iI_neg, iI_n, zbz, zchar_id, zin, zwr_s, zwr_a, zwr_i, if_pos, if_neg, Int.toNat_natCast, Int.natCast_zero, z144, zt1, zt3, m105, e, f4, zc32]
set_option maxRecDepth 20000 in
theorem m145 {i : Int} {h : zH} {D : zD} (hO : mOk D) (hi : iR i) : ∃ D', zc 145 2 [.ref 32, .int (Int32.ofInt i)] (zV h D) = some (.inl (some (.int (Int32.ofInt (if qSp D i = 0 then (spK (lyF D).2.1 i.toNat).1 else 0)))), zV h D') ∧ mAft D D' (qSp D i) := by
  obtain ⟨D', e, f1, f2⟩ := m144 (h := h) hO hi
  refine ⟨D', ?_, f1⟩
  have lb := (lyF_ok hO).2.1
  rw [zc]
  by_cases q : qSp D i = 0
  · have g : 0 ≤ i ∧ i ≤ ((lyF D).2.1.length : Int) - 1 := by
      unfold qSp at q
      split at q
      · assumption
      · omega
    have r := (mRp_K f2 i.toNat (by omega)).1
    rw [zb_t q] at e
    rw [if_pos q]
    clear hO f1 f2 q
    generalize spK (lyF D).2.1 i.toNat = sx at *
    simp (disch := first | omega | (simp (disch := omega) only [zwr_s, zwr_a, zwr_i]; omega)) only [zentry, zs0, zs1, zs2, zs3, zg_lo, zg_st, zg_st2, zg_ald, zg_ast, zs_ia, zs_i0, zcs, zg_ii, zi_max, zi_min, zi_abi, zi_abf, zi_fb, zi_bf, lget, lst, lst2, lc2, Option.map_some, zso, if_true, if_false, zc1, and_true, true_and, and_self, List.length_nil, List.length_cons, Nat.zero_le, reduceIte, reduceCtorEq, false_and, and_false, Bool.false_eq_true, zca_some, zr0, zr100, Option.bind_some, zb_none, zb_some, zrc, or_true, true_or, eq_self, ne_eq, not_true_eq_false, not_false_eq_true, zrt_i, zrt_zb, zrt_b, zrt_c, zrt_l, zrt_f, zrt_r, zrt_n, zrt_v, zft_0, zft_1, zft_zb, zft_3, zft_4, zft_5, zft_7r, zft_7n, iI_t, zb_i, zb_0, zb_1, Nat.reduceAdd, Nat.reduceLeDiff, Nat.reduceEqDiff, Nat.reduceSub, Int.reduceNeg, iI_add, iI_sub, iI_mul, iI_neg, iI_n, zbz, zchar_id, zin, zwr_s, zwr_a, zwr_i, if_pos, if_neg, Int.toNat_natCast, Int.natCast_zero, z145, zt2, e, r, zc32, zc58]
  · rw [zb_f q] at e
    rw [if_neg q]
    clear hO f1 f2 q
    simp (disch := first | omega | (simp (disch := omega) only [zwr_s, zwr_a, zwr_i]; omega)) only [zentry, zs0, zs1, zs2, zs3, zg_lo, zg_st, zg_st2, zg_ald, zg_ast, zs_ia, zs_i0, zcs, zg_ii, zi_max, zi_min, zi_abi, zi_abf, zi_fb, zi_bf, lget, lst, lst2, lc2, Option.map_some, zso, if_true, if_false, zc1, and_true, true_and, and_self, List.length_nil, List.length_cons, Nat.zero_le, reduceIte, reduceCtorEq, false_and, and_false, Bool.false_eq_true, zca_some, zr0, zr100, Option.bind_some, zb_none, zb_some, zrc, or_true, true_or, eq_self, ne_eq, not_true_eq_false, not_false_eq_true, zrt_i, zrt_zb, zrt_b, zrt_c, zrt_l, zrt_f, zrt_r, zrt_n, zrt_v, zft_0, zft_1, zft_zb, zft_3, zft_4, zft_5, zft_7r, zft_7n, iI_t, zb_i, zb_0, zb_1, Nat.reduceAdd, Nat.reduceLeDiff, Nat.reduceEqDiff, Nat.reduceSub, Int.reduceNeg, iI_add, iI_sub, iI_mul, iI_neg, iI_n, zbz, zchar_id, zin, zwr_s, zwr_a, zwr_i, if_pos, if_neg, Int.toNat_natCast, Int.natCast_zero, z145, zt2, e, zc32]
set_option maxRecDepth 20000 in
theorem m146 {i : Int} {h : zH} {D : zD} (hO : mOk D) (hi : iR i) : ∃ D', zc 146 2 [.ref 32, .int (Int32.ofInt i)] (zV h D) = some (.inl (some (.int (Int32.ofInt (if qSp D i = 0 then (spK (lyF D).2.1 i.toNat).2.2.1 else 0)))), zV h D') ∧ mAft D D' (qSp D i) := by
  obtain ⟨D', e, f1, f2⟩ := m144 (h := h) hO hi
  refine ⟨D', ?_, f1⟩
  have lb := (lyF_ok hO).2.1
  rw [zc]
  by_cases q : qSp D i = 0
  · have g : 0 ≤ i ∧ i ≤ ((lyF D).2.1.length : Int) - 1 := by
      unfold qSp at q
      split at q
      · assumption
      · omega
    have r := (mRp_K f2 i.toNat (by omega)).2.2.1
    rw [zb_t q] at e
    rw [if_pos q]
    clear hO f1 f2 q
    generalize spK (lyF D).2.1 i.toNat = sx at *
    simp (disch := first | omega | (simp (disch := omega) only [zwr_s, zwr_a, zwr_i]; omega)) only [zentry, zs0, zs1, zs2, zs3, zg_lo, zg_st, zg_st2, zg_ald, zg_ast, zs_ia, zs_i0, zcs, zg_ii, zi_max, zi_min, zi_abi, zi_abf, zi_fb, zi_bf, lget, lst, lst2, lc2, Option.map_some, zso, if_true, if_false, zc1, and_true, true_and, and_self, List.length_nil, List.length_cons, Nat.zero_le, reduceIte, reduceCtorEq, false_and, and_false, Bool.false_eq_true, zca_some, zr0, zr100, Option.bind_some, zb_none, zb_some, zrc, or_true, true_or, eq_self, ne_eq, not_true_eq_false, not_false_eq_true, zrt_i, zrt_zb, zrt_b, zrt_c, zrt_l, zrt_f, zrt_r, zrt_n, zrt_v, zft_0, zft_1, zft_zb, zft_3, zft_4, zft_5, zft_7r, zft_7n, iI_t, zb_i, zb_0, zb_1, Nat.reduceAdd, Nat.reduceLeDiff, Nat.reduceEqDiff, Nat.reduceSub, Int.reduceNeg, iI_add, iI_sub, iI_mul, iI_neg, iI_n, zbz, zchar_id, zin, zwr_s, zwr_a, zwr_i, if_pos, if_neg, Int.toNat_natCast, Int.natCast_zero, z146, zt2, e, r, zc32, zc59]
  · rw [zb_f q] at e
    rw [if_neg q]
    clear hO f1 f2 q
    simp (disch := first | omega | (simp (disch := omega) only [zwr_s, zwr_a, zwr_i]; omega)) only [zentry, zs0, zs1, zs2, zs3, zg_lo, zg_st, zg_st2, zg_ald, zg_ast, zs_ia, zs_i0, zcs, zg_ii, zi_max, zi_min, zi_abi, zi_abf, zi_fb, zi_bf, lget, lst, lst2, lc2, Option.map_some, zso, if_true, if_false, zc1, and_true, true_and, and_self, List.length_nil, List.length_cons, Nat.zero_le, reduceIte, reduceCtorEq, false_and, and_false, Bool.false_eq_true, zca_some, zr0, zr100, Option.bind_some, zb_none, zb_some, zrc, or_true, true_or, eq_self, ne_eq, not_true_eq_false, not_false_eq_true, zrt_i, zrt_zb, zrt_b, zrt_c, zrt_l, zrt_f, zrt_r, zrt_n, zrt_v, zft_0, zft_1, zft_zb, zft_3, zft_4, zft_5, zft_7r, zft_7n, iI_t, zb_i, zb_0, zb_1, Nat.reduceAdd, Nat.reduceLeDiff, Nat.reduceEqDiff, Nat.reduceSub, Int.reduceNeg, iI_add, iI_sub, iI_mul, iI_neg, iI_n, zbz, zchar_id, zin, zwr_s, zwr_a, zwr_i, if_pos, if_neg, Int.toNat_natCast, Int.natCast_zero, z146, zt2, e, zc32]
set_option maxRecDepth 20000 in
theorem m147 {i : Int} {h : zH} {D : zD} (hO : mOk D) (hi : iR i) : ∃ D', zc 147 2 [.ref 32, .int (Int32.ofInt i)] (zV h D) = some (.inl (some (.int (Int32.ofInt (if qSp D i = 0 then (spK (lyF D).2.1 i.toNat).2.2.2 - (spK (lyF D).2.1 i.toNat).2.2.1 else 0)))), zV h D') ∧ mAft D D' (qSp D i) := by
  obtain ⟨D', e, f1, f2⟩ := m144 (h := h) hO hi
  refine ⟨D', ?_, f1⟩
  have lb := (lyF_ok hO).2.1
  rw [zc]
  by_cases q : qSp D i = 0
  · have g : 0 ≤ i ∧ i ≤ ((lyF D).2.1.length : Int) - 1 := by
      unfold qSp at q
      split at q
      · assumption
      · omega
    have r := (mRp_K f2 i.toNat (by omega)).2.2
    rw [zb_t q] at e
    rw [if_pos q]
    clear hO f1 f2 q
    generalize spK (lyF D).2.1 i.toNat = sx at *
    obtain ⟨r1, r2⟩ := r
    simp (disch := first | omega | (simp (disch := omega) only [zwr_s, zwr_a, zwr_i]; omega)) only [zentry, zs0, zs1, zs2, zs3, zg_lo, zg_st, zg_st2, zg_ald, zg_ast, zs_ia, zs_i0, zcs, zg_ii, zi_max, zi_min, zi_abi, zi_abf, zi_fb, zi_bf, lget, lst, lst2, lc2, Option.map_some, zso, if_true, if_false, zc1, and_true, true_and, and_self, List.length_nil, List.length_cons, Nat.zero_le, reduceIte, reduceCtorEq, false_and, and_false, Bool.false_eq_true, zca_some, zr0, zr100, Option.bind_some, zb_none, zb_some, zrc, or_true, true_or, eq_self, ne_eq, not_true_eq_false, not_false_eq_true, zrt_i, zrt_zb, zrt_b, zrt_c, zrt_l, zrt_f, zrt_r, zrt_n, zrt_v, zft_0, zft_1, zft_zb, zft_3, zft_4, zft_5, zft_7r, zft_7n, iI_t, zb_i, zb_0, zb_1, Nat.reduceAdd, Nat.reduceLeDiff, Nat.reduceEqDiff, Nat.reduceSub, Int.reduceNeg, iI_add, iI_sub, iI_mul, iI_neg, iI_n, zbz, zchar_id, zin, zwr_s, zwr_a, zwr_i, if_pos, if_neg, Int.toNat_natCast, Int.natCast_zero, z147, zt2, e, r1, r2, zc32, zc59, zc60]
  · rw [zb_f q] at e
    rw [if_neg q]
    clear hO f1 f2 q
    simp (disch := first | omega | (simp (disch := omega) only [zwr_s, zwr_a, zwr_i]; omega)) only [zentry, zs0, zs1, zs2, zs3, zg_lo, zg_st, zg_st2, zg_ald, zg_ast, zs_ia, zs_i0, zcs, zg_ii, zi_max, zi_min, zi_abi, zi_abf, zi_fb, zi_bf, lget, lst, lst2, lc2, Option.map_some, zso, if_true, if_false, zc1, and_true, true_and, and_self, List.length_nil, List.length_cons, Nat.zero_le, reduceIte, reduceCtorEq, false_and, and_false, Bool.false_eq_true, zca_some, zr0, zr100, Option.bind_some, zb_none, zb_some, zrc, or_true, true_or, eq_self, ne_eq, not_true_eq_false, not_false_eq_true, zrt_i, zrt_zb, zrt_b, zrt_c, zrt_l, zrt_f, zrt_r, zrt_n, zrt_v, zft_0, zft_1, zft_zb, zft_3, zft_4, zft_5, zft_7r, zft_7n, iI_t, zb_i, zb_0, zb_1, Nat.reduceAdd, Nat.reduceLeDiff, Nat.reduceEqDiff, Nat.reduceSub, Int.reduceNeg, iI_add, iI_sub, iI_mul, iI_neg, iI_n, zbz, zchar_id, zin, zwr_s, zwr_a, zwr_i, if_pos, if_neg, Int.toNat_natCast, Int.natCast_zero, z147, zt2, e, zc32]

/-! the reference's mean level -/
theorem mnN_nz {sp : zSp} (h : spC 3600 sp) : ∀ k, k ≤ sp.length → 0 ≤ mnN sp k ∧ mnN sp k ≤ 3600 := by
  intro k hk
  have s2 := lnS_m h (sp.length - k) k (by omega)
  have : ∀ j, j ≤ sp.length → 0 ≤ mnN sp j ∧ mnN sp j ≤ lnS sp j := by
    intro j
    induction j with
    | zero => intro _; exact ⟨Int.le_refl _, Int.le_refl _⟩
    | succ j ih =>
      intro hj
      have := ih (by omega)
      have b := spC_b h _ (spK_mem (sp := sp) (k := j) (by omega))
      unfold mnN
      rw [lnS]
      split <;> omega
  have := this k hk
  omega
noncomputable def qMn (D : zD) : Int := if mnN (lyF D).2.1 (lyF D).2.1.length = 0 then 1 else 0
noncomputable def rMn (D : zD) : UInt32 := FP.fdiv (mnV D (lyF D).2.1 (lyF D).2.1.length) (FP.i2f (Int32.ofInt (mnN (lyF D).2.1 (lyF D).2.1.length)))
theorem rMn_nn {D : zD} (hO : mOk D) (h : qMn D = 0) : FP.Core.fIsNaN (rMn D) = false := by
  obtain ⟨c1, c2, c3, -⟩ := lyF_ok hO
  have h1 := mnV_p hO.1 c1 c3 _ (Nat.le_refl _)
  have h2 := mnN_nz c1 _ (Nat.le_refl _)
  refine fl_div (fl_int h1.1) ?_
  unfold qMn at h
  split at h <;> omega
set_option maxRecDepth 20000 in
theorem m155 {h : zH} {D : zD} (hO : mOk D) : ∃ D', zc 155 5 [.ref 32] (zV h D) = some (.inl (some (.float (if qMn D = 0 then rMn D else FP.fconst0))), zV h D') ∧ mAft D D' (qMn D) := by
  obtain ⟨D', e, f1, f2, f3, f4, f5, f6⟩ := m138_0 (h := h) hO
  obtain ⟨c1, c2, c3, -⟩ := lyF_ok hO
  have h7 := hO.1.1
  have nn := rMn_nn hO
  refine ⟨zwr D' 32 32 (qMn D), ?_, f2.tr zwr_32, by rw [zwr_s], zwr_32n f3⟩
  have hp := mnV_p hO.1 c1 c3
  have hN := mnN_nz c1
  have f34 : ∀ i, D' 34 i = D 34 i := fun i => f2 34 i (by omega) (by omega)
  have l34 : ∀ i : Nat, (i : Int) < D 32 7 → -60 ≤ D 34 i ∧ D 34 i ≤ 0 := fun i hi => (hO.1.2.2 i hi).2.1
  unfold rMn qMn at nn ⊢
  clear hO f1 f2 f3 f6
  generalize (lyF D).2.1 = sp at *
  have hloop := zloop (k := 155) (pc := 10) (fun i => [some (.ref 32), some (.float (mnV D sp i)), some (.int (Int32.ofInt (mnN sp i))), some (.int (Int32.ofInt (i : Int))), if i = 0 then none else lget [some (.int (Int32.ofInt 0))] 1]) (fun _ => zV h D') 0 (fun i hi => absurd hi (Nat.not_lt_zero _)) 0 (Nat.le_refl _)
  have hL : ∀ n i (x4 : Option Value), i + n = sp.length → ∃ x4', zx 155 10 [some (.ref 32), some (.float (mnV D sp i)), some (.int (Int32.ofInt (mnN sp i))), some (.int (Int32.ofInt (i : Int))), x4] [] (zV h D') = zx 155 10 [some (.ref 32), some (.float (mnV D sp sp.length)), some (.int (Int32.ofInt (mnN sp sp.length))), some (.int (Int32.ofInt (sp.length : Int))), x4'] [] (zV h D') := by
    intro n
    induction n with
    | zero =>
      intro i x4 hi
      exact ⟨x4, by rw [show i = sp.length by omega]⟩
    | succ n ih =>
      intro i x4 hi
      obtain ⟨r1, -, r3, r4⟩ := mRp_K f5 i (by omega)
      have b := spC_b c1 _ (spK_mem (sp := sp) (k := i) (by omega))
      have v := c3 _ (spK_mem (sp := sp) (k := i) (by omega))
      have n1 := hN i (by omega)
      have z1 := fl_zn (fl_int (hp (i + 1) (by omega)).1)
      have n2 := hN (i + 1) (by omega)
      by_cases g : (spK sp i).1 = -1
      · obtain ⟨x4', e4⟩ := ih (i + 1) x4 (by omega)
        refine ⟨x4', ?_⟩
        rw [← e4, mnV, mnN, if_pos g, if_pos g]
        conv => lhs; rw [z155_10]
        clear ih e4 hp hN f5 c1 c3 nn z1 e hloop
        generalize mnV D sp i = mv at *
        generalize mnN sp i = mn at *
        generalize spK sp i = sx at *
        simp (disch := first | omega | (simp (disch := omega) only [zwr_s, zwr_a, zwr_i]; omega)) only [zentry, zs0, zs1, zs2, zs3, zg_lo, zg_st, zg_st2, zg_ald, zg_ast, zs_ia, zs_i0, zcs, zg_ii, zi_max, zi_min, zi_abi, zi_abf, zi_fb, zi_bf, lget, lst, lst2, lc2, Option.map_some, zso, if_true, if_false, zc1, and_true, true_and, and_self, List.length_nil, List.length_cons, Nat.zero_le, reduceIte, reduceCtorEq, false_and, and_false, Bool.false_eq_true, zca_some, zr0, zr100, Option.bind_some, zb_none, zb_some, zrc, or_true, true_or, eq_self, ne_eq, not_true_eq_false, not_false_eq_true, zrt_i, zrt_zb, zrt_b, zrt_c, zrt_l, zrt_f, zrt_r, zrt_n, zrt_v, zft_0, zft_1, zft_zb, zft_3, zft_4, zft_5, zft_7r, zft_7n, iI_t, zb_i, zb_0, zb_1, Nat.reduceAdd, Nat.reduceLeDiff, Nat.reduceEqDiff, Nat.reduceSub, Int.reduceNeg, iI_add, iI_sub, iI_mul, iI_neg, iI_n, zbz, zchar_id, zin, zwr_s, zwr_a, zwr_i, if_pos, if_neg, Int.toNat_natCast, Int.natCast_zero, z155, r1, r3, r4, f4, g, zc32, zc58, zc59, zc60]
      · obtain ⟨x4', e4⟩ := ih (i + 1) (some (.int (Int32.ofInt ((spK sp i).2.2.2 - (spK sp i).2.2.1)))) (by omega)
        refine ⟨x4', ?_⟩
        rw [mnV, if_neg g] at z1
        have f9 := f34 (spK sp i).1.toNat
        have l9 := l34 (spK sp i).1.toNat (by omega)
        rw [← e4, mnV, mnN, if_neg g, if_neg g]
        conv => lhs; rw [z155_10]
        have hm := mul_c (y := (spK sp i).2.2.2 - (spK sp i).2.2.1) l9 (by omega)
        clear ih e4 hp hN f5 c1 c3 nn e f34 l34 hloop
        generalize mnV D sp i = mv at *
        generalize mnN sp i = mn at *
        generalize spK sp i = sx at *
        simp (disch := first | omega | (simp (disch := omega) only [zwr_s, zwr_a, zwr_i]; omega)) only [zentry, zs0, zs1, zs2, zs3, zg_lo, zg_st, zg_st2, zg_ald, zg_ast, zs_ia, zs_i0, zcs, zg_ii, zi_max, zi_min, zi_abi, zi_abf, zi_fb, zi_bf, lget, lst, lst2, lc2, Option.map_some, zso, if_true, if_false, zc1, and_true, true_and, and_self, List.length_nil, List.length_cons, Nat.zero_le, reduceIte, reduceCtorEq, false_and, and_false, Bool.false_eq_true, zca_some, zr0, zr100, Option.bind_some, zb_none, zb_some, zrc, or_true, true_or, eq_self, ne_eq, not_true_eq_false, not_false_eq_true, zrt_i, zrt_zb, zrt_b, zrt_c, zrt_l, zrt_f, zrt_r, zrt_n, zrt_v, zft_0, zft_1, zft_zb, zft_3, zft_4, zft_5, zft_7r, zft_7n, iI_t, zb_i, zb_0, zb_1, Nat.reduceAdd, Nat.reduceLeDiff, Nat.reduceEqDiff, Nat.reduceSub, Int.reduceNeg, iI_add, iI_sub, iI_mul, iI_neg, iI_n, zbz, zchar_id, zin, zwr_s, zwr_a, zwr_i, if_pos, if_neg, Int.toNat_natCast, Int.natCast_zero, z155, r1, r3, r4, f4, f9, z1, zc32, zc34, zc58, zc59, zc60]
  obtain ⟨x4', e4⟩ := hL sp.length 0 none (by omega)
  have st : zc 155 5 [.ref 32] (zV h D) = zx 155 10 [some (.ref 32), some (.float (mnV D sp 0)), some (.int (Int32.ofInt (mnN sp 0))), some (.int (Int32.ofInt ((0 : Nat) : Int))), none] [] (zV h D') := by
    rw [zc]
    unfold mnV mnN
    clear hL e4 hp hN f5 c1 c3 nn hloop f34 l34 f4
    simp (disch := first | omega | (simp (disch := omega) only [zwr_s, zwr_a, zwr_i]; omega)) only [zentry, zs0, zs1, zs2, zs3, zg_lo, zg_st, zg_st2, zg_ald, zg_ast, zs_ia, zs_i0, zcs, zg_ii, zi_max, zi_min, zi_abi, zi_abf, zi_fb, zi_bf, lget, lst, lst2, lc2, Option.map_some, zso, if_true, if_false, zc1, and_true, true_and, and_self, List.length_nil, List.length_cons, Nat.zero_le, reduceIte, reduceCtorEq, false_and, and_false, Bool.false_eq_true, zca_some, zr0, zr100, Option.bind_some, zb_none, zb_some, zrc, or_true, true_or, eq_self, ne_eq, not_true_eq_false, not_false_eq_true, zrt_i, zrt_zb, zrt_b, zrt_c, zrt_l, zrt_f, zrt_r, zrt_n, zrt_v, zft_0, zft_1, zft_zb, zft_3, zft_4, zft_5, zft_7r, zft_7n, iI_t, zb_i, zb_0, zb_1, Nat.reduceAdd, Nat.reduceLeDiff, Nat.reduceEqDiff, Nat.reduceSub, Int.reduceNeg, iI_add, iI_sub, iI_mul, iI_neg, iI_n, zbz, zchar_id, zin, zwr_s, zwr_a, zwr_i, if_pos, if_neg, Int.toNat_natCast, Int.natCast_zero, z155, zt1, e, zc32]
  rw [st, e4, z155_10]
  have n1 := hN sp.length (Nat.le_refl _)
  clear hL e4 hp hN f5 c1 c3 hloop f34 l34 st e
  by_cases g : mnN sp sp.length = 0
  · rw [if_pos g, if_neg (by omega)]
    clear nn
    generalize mnV D sp sp.length = mv at *
    generalize mnN sp sp.length = mn at *
    simp (disch := first | omega | (simp (disch := omega) only [zwr_s, zwr_a, zwr_i]; omega)) only [zentry, zs0, zs1, zs2, zs3, zg_lo, zg_st, zg_st2, zg_ald, zg_ast, zs_ia, zs_i0, zcs, zg_ii, zi_max, zi_min, zi_abi, zi_abf, zi_fb, zi_bf, lget, lst, lst2, lc2, Option.map_some, zso, if_true, if_false, zc1, and_true, true_and, and_self, List.length_nil, List.length_cons, Nat.zero_le, reduceIte, reduceCtorEq, false_and, and_false, Bool.false_eq_true, zca_some, zr0, zr100, Option.bind_some, zb_none, zb_some, zrc, or_true, true_or, eq_self, ne_eq, not_true_eq_false, not_false_eq_true, zrt_i, zrt_zb, zrt_b, zrt_c, zrt_l, zrt_f, zrt_r, zrt_n, zrt_v, zft_0, zft_1, zft_zb, zft_3, zft_4, zft_5, zft_7r, zft_7n, iI_t, zb_i, zb_0, zb_1, Nat.reduceAdd, Nat.reduceLeDiff, Nat.reduceEqDiff, Nat.reduceSub, Int.reduceNeg, iI_add, iI_sub, iI_mul, iI_neg, iI_n, zbz, zchar_id, zin, zwr_s, zwr_a, zwr_i, if_pos, if_neg, Int.toNat_natCast, Int.natCast_zero, z155, f4, g, zc32]
  · rw [if_neg g] at nn ⊢
    have z := fl_zn (nn rfl)
    rw [if_pos rfl]
    clear nn
    generalize mnV D sp sp.length = mv at *
    generalize mnN sp sp.length = mn at *
    simp (disch := first | omega | (simp (disch := omega) only [zwr_s, zwr_a, zwr_i]; omega)) only [zentry, zs0, zs1, zs2, zs3, zg_lo, zg_st, zg_st2, zg_ald, zg_ast, zs_ia, zs_i0, zcs, zg_ii, zi_max, zi_min, zi_abi, zi_abf, zi_fb, zi_bf, lget, lst, lst2, lc2, Option.map_some, zso, if_true, if_false, zc1, and_true, true_and, and_self, List.length_nil, List.length_cons, Nat.zero_le, reduceIte, reduceCtorEq, false_and, and_false, Bool.false_eq_true, zca_some, zr0, zr100, Option.bind_some, zb_none, zb_some, zrc, or_true, true_or, eq_self, ne_eq, not_true_eq_false, not_false_eq_true, zrt_i, zrt_zb, zrt_b, zrt_c, zrt_l, zrt_f, zrt_r, zrt_n, zrt_v, zft_0, zft_1, zft_zb, zft_3, zft_4, zft_5, zft_7r, zft_7n, iI_t, zb_i, zb_0, zb_1, Nat.reduceAdd, Nat.reduceLeDiff, Nat.reduceEqDiff, Nat.reduceSub, Int.reduceNeg, iI_add, iI_sub, iI_mul, iI_neg, iI_n, zbz, zchar_id, zin, zwr_s, zwr_a, zwr_i, if_pos, if_neg, Int.toNat_natCast, Int.natCast_zero, z155, f4, g, z, zc32]
set_option maxRecDepth 20000 in
theorem m185 {x : UInt32} {h : zH} (hx : FP.Core.fIsNaN x = false) : zc 185 1 [.float x] h = some (.inl (some (.int (Int32.ofInt 0))), h) := by
  have e := fl_eq hx hx .l
  have e2 : (Op.cmpValue (FP.fcmp x x) .l).toInt = 0 := by rw [e]
  rw [zc]
  clear e hx
  generalize hq : Op.cmpValue (FP.fcmp x x) .l = c at *
  simp (disch := first | omega | (simp (disch := omega) only [zwr_s, zwr_a, zwr_i]; omega)) only [zentry, zs0, zs1, zs2, zs3, zg_lo, zg_st, zg_st2, zg_ald, zg_ast, zs_ia, zs_i0, zcs, zg_ii, zi_max, zi_min, zi_abi, zi_abf, zi_fb, zi_bf, lget, lst, lst2, lc2, Option.map_some, zso, if_true, if_false, zc1, and_true, true_and, and_self, List.length_nil, List.length_cons, Nat.zero_le, reduceIte, reduceCtorEq, false_and, and_false, Bool.false_eq_true, zca_some, zr0, zr100, Option.bind_some, zb_none, zb_some, zrc, or_true, true_or, eq_self, ne_eq, not_true_eq_false, not_false_eq_true, zrt_i, zrt_zb, zrt_b, zrt_c, zrt_l, zrt_f, zrt_r, zrt_n, zrt_v, zft_0, zft_1, zft_zb, zft_3, zft_4, zft_5, zft_7r, zft_7n, iI_t, zb_i, zb_0, zb_1, Nat.reduceAdd, Nat.reduceLeDiff, Nat.reduceEqDiff, Nat.reduceSub, Int.reduceNeg, iI_add, iI_sub, iI_mul, iI_neg, iI_n, zbz, zchar_id, zin, zwr_s, zwr_a, zwr_i, if_pos, if_neg, Int.toNat_natCast, Int.natCast_zero, z185, hq, e2]
set_option maxRecDepth 20000 in
theorem m184 {x : UInt32} {h : zH} (hx : FP.Core.fIsNaN x = false) : zc 184 1 [.float x] h = some (.inl (some (.int x.toInt32)), h) := by
  have e := m185 (h := h) hx
  have z := fl_zn hx
  rw [zc]
  clear hx
  simp (disch := first | omega | (simp (disch := omega) only [zwr_s, zwr_a, zwr_i]; omega)) only [zentry, zs0, zs1, zs2, zs3, zg_lo, zg_st, zg_st2, zg_ald, zg_ast, zs_ia, zs_i0, zg_ii, zi_max, zi_min, zi_abi, zi_abf, zi_fb, zi_bf, lget, lst, lst2, lc2, Option.map_some, zso, if_true, if_false, zc1, and_true, true_and, and_self, List.length_nil, List.length_cons, Nat.zero_le, reduceIte, reduceCtorEq, false_and, and_false, Bool.false_eq_true, zca_some, zr0, zr100, Option.bind_some, zb_none, zb_some, zrc, or_true, true_or, eq_self, ne_eq, not_true_eq_false, not_false_eq_true, zrt_i, zrt_zb, zrt_b, zrt_c, zrt_l, zrt_f, zrt_r, zrt_n, zrt_v, zft_0, zft_1, zft_zb, zft_3, zft_4, zft_5, zft_7r, zft_7n, iI_t, zb_i, zb_0, zb_1, Nat.reduceAdd, Nat.reduceLeDiff, Nat.reduceEqDiff, Nat.reduceSub, Int.reduceNeg, iI_add, iI_sub, iI_mul, iI_neg, zbz, zchar_id, zin, zwr_s, zwr_a, zwr_i, if_pos, if_neg, Int.toNat_natCast, Int.natCast_zero, z184, zt1, e, zc1_f, z]
set_option maxRecDepth 20000 in
theorem m156 {h : zH} {D : zD} (hO : mOk D) : ∃ D', zc 156 2 [.ref 32] (zV h D) = some (.inl (some (.int (if qMn D = 0 then (rMn D).toInt32 else Int32.ofInt 0))), zV h D') ∧ mAft D D' (qMn D) := by
  obtain ⟨D', e, f1⟩ := m155 (h := h) hO
  refine ⟨D', ?_, f1⟩
  have ft := f1.2.1
  have nn := rMn_nn hO
  have v : qMn D = 0 ∨ qMn D = 1 := by unfold qMn; split <;> simp
  rw [zc]
  clear hO f1
  by_cases g : qMn D = 0
  · rw [if_pos g] at e ⊢
    have e2 := m184 (h := zV h D') (nn g)
    rw [g] at ft
    clear nn
    generalize rMn D = r at *
    simp (disch := first | omega | (simp (disch := omega) only [zwr_s, zwr_a, zwr_i]; omega)) only [zentry, zs0, zs1, zs2, zs3, zg_lo, zg_st, zg_st2, zg_ald, zg_ast, zs_ia, zs_i0, zcs, zg_ii, zi_max, zi_min, zi_abi, zi_abf, zi_fb, zi_bf, lget, lst, lst2, lc2, Option.map_some, zso, if_true, if_false, zc1, and_true, true_and, and_self, List.length_nil, List.length_cons, Nat.zero_le, reduceIte, reduceCtorEq, false_and, and_false, Bool.false_eq_true, zca_some, zr0, zr100, Option.bind_some, zb_none, zb_some, zrc, or_true, true_or, eq_self, ne_eq, not_true_eq_false, not_false_eq_true, zrt_i, zrt_zb, zrt_b, zrt_c, zrt_l, zrt_f, zrt_r, zrt_n, zrt_v, zft_0, zft_1, zft_zb, zft_3, zft_4, zft_5, zft_7r, zft_7n, iI_t, zb_i, zb_0, zb_1, Nat.reduceAdd, Nat.reduceLeDiff, Nat.reduceEqDiff, Nat.reduceSub, Int.reduceNeg, iI_add, iI_sub, iI_mul, iI_neg, iI_n, zbz, zchar_id, zin, zwr_s, zwr_a, zwr_i, if_pos, if_neg, Int.toNat_natCast, Int.natCast_zero, z156, zt1, e, e2, ft, zc32]
  · rw [if_neg g] at e ⊢
    clear nn
    simp (disch := first | omega | (simp (disch := omega) only [zwr_s, zwr_a, zwr_i]; omega)) only [zentry, zs0, zs1, zs2, zs3, zg_lo, zg_st, zg_st2, zg_ald, zg_ast, zs_ia, zs_i0, zcs, zg_ii, zi_max, zi_min, zi_abi, zi_abf, zi_fb, zi_bf, lget, lst, lst2, lc2, Option.map_some, zso, if_true, if_false, zc1, and_true, true_and, and_self, List.length_nil, List.length_cons, Nat.zero_le, reduceIte, reduceCtorEq, false_and, and_false, Bool.false_eq_true, zca_some, zr0, zr100, Option.bind_some, zb_none, zb_some, zrc, or_true, true_or, eq_self, ne_eq, not_true_eq_false, not_false_eq_true, zrt_i, zrt_zb, zrt_b, zrt_c, zrt_l, zrt_f, zrt_r, zrt_n, zrt_v, zft_0, zft_1, zft_zb, zft_3, zft_4, zft_5, zft_7r, zft_7n, iI_t, zb_i, zb_0, zb_1, Nat.reduceAdd, Nat.reduceLeDiff, Nat.reduceEqDiff, Nat.reduceSub, Int.reduceNeg, iI_add, iI_sub, iI_mul, iI_neg, iI_n, zbz, zchar_id, zin, zwr_s, zwr_a, zwr_i, if_pos, if_neg, Int.toNat_natCast, Int.natCast_zero, z156, zt1, e, ft, zc32]

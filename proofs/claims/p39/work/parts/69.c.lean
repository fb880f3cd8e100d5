/-! the law calls the class: floats, a long -/
theorem fl_d2 {x : UInt32} (h : FP.Core.fIsNaN x = false) : zn64 (FP.f2d x) ∧ FP.dcmp (FP.f2d x) (FP.f2d x) = some .eq := by
  have hd : FP.dIsNaN (FP.f2d x) = false := by
    rw [FP.f2d_nan]
    exact h
  constructor
  · have h1 : ¬ 9218868437227405312 < (FP.f2d x).toNat % 2 ^ 63 := fun q => by
      rw [show FP.dIsNaN (FP.f2d x) = true from (FP.Core.isNaN_bits (FP.f2d x)).mpr q] at hd
      cases hd
    show FP.f2d x &&& 0x7fffffffffffffff ≤ 0x7ff0000000000000
    rw [UInt64.le_iff_toNat_le, FP.Core.mask_toNat]
    show _ ≤ 9218868437227405312
    omega
  · refine FP.Core.dcmp_self ?_
    intro q
    have : FP.Core.isNaN FP.Core.b64 (FP.f2d x).toNat = true := decide_eq_true q
    rw [show FP.Core.isNaN FP.Core.b64 (FP.f2d x).toNat = FP.dIsNaN (FP.f2d x) from rfl, hd] at this
    cases this
abbrev cF' (o : Option (zR × zH)) (τ : Int) (v : UInt32) (h1 : zH) (X1 D1 : zD) : Prop := τ = 0 ∧ o = some (.inl (some (.float v)), zV (zU h1 X1) D1)
def wD (o : Option (zR × zH)) (τ : Int) (v : UInt32) (h1 : zH) (X1 D1 : zD) : Prop := ∃ h2 D2, o = some (.inl (some (.int (Int32.ofInt τ))), zV (zU h2 X1) D2) ∧ ((τ = 0 ∧ h2 = h1 ∧ D2 = zwr D1 69 0 ((FP.f2d v).toNat : Nat)) ∨ (τ ≠ 0 ∧ h2 = zchg h1 1 6 ∧ D2 = D1))
set_option maxRecDepth 20000 in
theorem w208 {τ : Int} {v : UInt32} {h h1 : zH} {X X1 D D1 : zD} (hv : FP.Core.fIsNaN v = false) (hA : cF' (zc 65 1 [.ref 3] (zV (zU h X) D)) τ v h1 X1 D1 ∨ cE (zc 65 1 [.ref 3] (zV (zU h X) D)) τ 1 4 h1 X1 D1) :
    wD (zc 208 3 [.ref 3, .ref 69] (zV (zU h X) D)) τ v h1 X1 D1 := by
  have hz := (fl_d2 hv).1
  rcases hA with ⟨rfl, e⟩ | ⟨rfl, e⟩
  · refine ⟨h1, zwr D1 69 0 ((FP.f2d v).toNat : Nat), ?_, Or.inl ⟨rfl, rfl, rfl⟩⟩
    rw [zc]
    simp (disch := first | omega | (simp (disch := omega) only [zwr_s, zwr_a, zwr_i, zn_put, zn_new, zn_fil, zn_chg, zV_n]; omega)) only [zentry, zs0, zs1, zs2, zs3, zg_lo, zg_st, zg_st2, zg_ald, zg_ast, zs_ia, zs_i0, zcs, zg_ii, zi_max, zi_min, zi_abi, zi_abf, zi_fb, zi_bf, lget, lst, lst2, lc2, Option.map_some, zso, if_true, if_false, zc1, and_true, true_and, and_self, List.length_nil, List.length_cons, Nat.zero_le, reduceIte, reduceCtorEq, false_and, and_false, Bool.false_eq_true, zca_some, zr0, zr100, Option.bind_some, zb_none, zb_some, zrc, or_true, true_or, eq_self, ne_eq, not_true_eq_false, not_false_eq_true, zrt_i, zrt_zb, zrt_b, zrt_c, zrt_l, zrt_f, zrt_r, zrt_n, zrt_v, zft_0, zft_1, zft_zb, zft_3, zft_4, zft_5, zft_7r, zft_7n, iI_t, zb_i, zb_0, zb_1, Nat.reduceAdd, Nat.reduceLeDiff, Nat.reduceEqDiff, Nat.reduceSub, Int.reduceNeg, iI_add, iI_sub, iI_mul, iI_neg, iI_n, zbz, zchar_id, zin, zwr_s, zwr_a, zwr_i, if_pos, if_neg, Int.toNat_natCast, Int.natCast_zero, Int.reduceToNat, z208, zc3, zc69, e, hz, zt1]
  · have hh : zhT 208 4 3 = some (2, 12) := by decide +kernel
    refine ⟨zchg h1 1 6, D1, ?_, Or.inr ⟨by omega, rfl, rfl⟩⟩
    rw [zc]
    simp (disch := first | omega | (simp (disch := omega) only [zwr_s, zwr_a, zwr_i, zn_put, zn_new, zn_fil, zn_chg, zV_n]; omega)) only [zentry, zs0, zs1, zs2, zs3, zg_lo, zg_st, zg_st2, zg_ald, zg_ast, zs_ia, zs_i0, zcs, zg_ii, zi_max, zi_min, zi_abi, zi_abf, zi_fb, zi_bf, lget, lst, lst2, lc2, Option.map_some, zso, if_true, if_false, zc1, and_true, true_and, and_self, List.length_nil, List.length_cons, Nat.zero_le, reduceIte, reduceCtorEq, false_and, and_false, Bool.false_eq_true, zca_some, zr0, zr100, Option.bind_some, zb_none, zb_some, zrc, or_true, true_or, eq_self, ne_eq, not_true_eq_false, not_false_eq_true, zrt_i, zrt_zb, zrt_b, zrt_c, zrt_l, zrt_f, zrt_r, zrt_n, zrt_v, zft_0, zft_1, zft_zb, zft_3, zft_4, zft_5, zft_7r, zft_7n, iI_t, zb_i, zb_0, zb_1, Nat.reduceAdd, Nat.reduceLeDiff, Nat.reduceEqDiff, Nat.reduceSub, Int.reduceNeg, iI_add, iI_sub, iI_mul, iI_neg, iI_n, zbz, zchar_id, zin, zwr_s, zwr_a, zwr_i, if_pos, if_neg, Int.toNat_natCast, Int.natCast_zero, Int.reduceToNat, z208, zc3, zc69, e, zb_h hh, lclr, zt1]
set_option maxRecDepth 20000 in
theorem w213 {x1 x2 τ : Int} {v : UInt32} {h h1 : zH} {X X1 D D1 : zD} (hv : FP.Core.fIsNaN v = false) (hA : cF' (zc 70 3 [.ref 3, .int (Int32.ofInt x1), .int (Int32.ofInt x2)] (zV (zU h X) D)) τ v h1 X1 D1 ∨ cE (zc 70 3 [.ref 3, .int (Int32.ofInt x1), .int (Int32.ofInt x2)] (zV (zU h X) D)) τ 1 0 h1 X1 D1 ∨ cE (zc 70 3 [.ref 3, .int (Int32.ofInt x1), .int (Int32.ofInt x2)] (zV (zU h X) D)) τ 2 4 h1 X1 D1) :
    wD (zc 213 5 [.ref 3, .int (Int32.ofInt x1), .int (Int32.ofInt x2), .ref 69] (zV (zU h X) D)) τ v h1 X1 D1 := by
  have hz := (fl_d2 hv).1
  rcases hA with ⟨rfl, e⟩ | ⟨rfl, e⟩ | ⟨rfl, e⟩
  · refine ⟨h1, zwr D1 69 0 ((FP.f2d v).toNat : Nat), ?_, Or.inl ⟨rfl, rfl, rfl⟩⟩
    rw [zc]
    simp (disch := first | omega | (simp (disch := omega) only [zwr_s, zwr_a, zwr_i, zn_put, zn_new, zn_fil, zn_chg, zV_n]; omega)) only [zentry, zs0, zs1, zs2, zs3, zg_lo, zg_st, zg_st2, zg_ald, zg_ast, zs_ia, zs_i0, zcs, zg_ii, zi_max, zi_min, zi_abi, zi_abf, zi_fb, zi_bf, lget, lst, lst2, lc2, Option.map_some, zso, if_true, if_false, zc1, and_true, true_and, and_self, List.length_nil, List.length_cons, Nat.zero_le, reduceIte, reduceCtorEq, false_and, and_false, Bool.false_eq_true, zca_some, zr0, zr100, Option.bind_some, zb_none, zb_some, zrc, or_true, true_or, eq_self, ne_eq, not_true_eq_false, not_false_eq_true, zrt_i, zrt_zb, zrt_b, zrt_c, zrt_l, zrt_f, zrt_r, zrt_n, zrt_v, zft_0, zft_1, zft_zb, zft_3, zft_4, zft_5, zft_7r, zft_7n, iI_t, zb_i, zb_0, zb_1, Nat.reduceAdd, Nat.reduceLeDiff, Nat.reduceEqDiff, Nat.reduceSub, Int.reduceNeg, iI_add, iI_sub, iI_mul, iI_neg, iI_n, zbz, zchar_id, zin, zwr_s, zwr_a, zwr_i, if_pos, if_neg, Int.toNat_natCast, Int.natCast_zero, Int.reduceToNat, z213, zc3, zc69, e, hz, zt3]
  · have hh : zhT 213 0 5 = some (4, 15) := by decide +kernel
    refine ⟨zchg h1 1 6, D1, ?_, Or.inr ⟨by omega, rfl, rfl⟩⟩
    rw [zc]
    simp (disch := first | omega | (simp (disch := omega) only [zwr_s, zwr_a, zwr_i, zn_put, zn_new, zn_fil, zn_chg, zV_n]; omega)) only [zentry, zs0, zs1, zs2, zs3, zg_lo, zg_st, zg_st2, zg_ald, zg_ast, zs_ia, zs_i0, zcs, zg_ii, zi_max, zi_min, zi_abi, zi_abf, zi_fb, zi_bf, lget, lst, lst2, lc2, Option.map_some, zso, if_true, if_false, zc1, and_true, true_and, and_self, List.length_nil, List.length_cons, Nat.zero_le, reduceIte, reduceCtorEq, false_and, and_false, Bool.false_eq_true, zca_some, zr0, zr100, Option.bind_some, zb_none, zb_some, zrc, or_true, true_or, eq_self, ne_eq, not_true_eq_false, not_false_eq_true, zrt_i, zrt_zb, zrt_b, zrt_c, zrt_l, zrt_f, zrt_r, zrt_n, zrt_v, zft_0, zft_1, zft_zb, zft_3, zft_4, zft_5, zft_7r, zft_7n, iI_t, zb_i, zb_0, zb_1, Nat.reduceAdd, Nat.reduceLeDiff, Nat.reduceEqDiff, Nat.reduceSub, Int.reduceNeg, iI_add, iI_sub, iI_mul, iI_neg, iI_n, zbz, zchar_id, zin, zwr_s, zwr_a, zwr_i, if_pos, if_neg, Int.toNat_natCast, Int.natCast_zero, Int.reduceToNat, z213, zc3, zc69, e, zb_h hh, lclr, zt3]
  · have hh : zhT 213 4 5 = some (4, 19) := by decide +kernel
    refine ⟨zchg h1 1 6, D1, ?_, Or.inr ⟨by omega, rfl, rfl⟩⟩
    rw [zc]
    simp (disch := first | omega | (simp (disch := omega) only [zwr_s, zwr_a, zwr_i, zn_put, zn_new, zn_fil, zn_chg, zV_n]; omega)) only [zentry, zs0, zs1, zs2, zs3, zg_lo, zg_st, zg_st2, zg_ald, zg_ast, zs_ia, zs_i0, zcs, zg_ii, zi_max, zi_min, zi_abi, zi_abf, zi_fb, zi_bf, lget, lst, lst2, lc2, Option.map_some, zso, if_true, if_false, zc1, and_true, true_and, and_self, List.length_nil, List.length_cons, Nat.zero_le, reduceIte, reduceCtorEq, false_and, and_false, Bool.false_eq_true, zca_some, zr0, zr100, Option.bind_some, zb_none, zb_some, zrc, or_true, true_or, eq_self, ne_eq, not_true_eq_false, not_false_eq_true, zrt_i, zrt_zb, zrt_b, zrt_c, zrt_l, zrt_f, zrt_r, zrt_n, zrt_v, zft_0, zft_1, zft_zb, zft_3, zft_4, zft_5, zft_7r, zft_7n, iI_t, zb_i, zb_0, zb_1, Nat.reduceAdd, Nat.reduceLeDiff, Nat.reduceEqDiff, Nat.reduceSub, Int.reduceNeg, iI_add, iI_sub, iI_mul, iI_neg, iI_n, zbz, zchar_id, zin, zwr_s, zwr_a, zwr_i, if_pos, if_neg, Int.toNat_natCast, Int.natCast_zero, Int.reduceToNat, z213, zc3, zc69, e, zb_h hh, lclr, zt3]
set_option maxRecDepth 20000 in
theorem w218 {x1 τ v : Int} {h h1 : zH} {X X1 D D1 : zD} (hA : (τ = 0 ∧ zc 77 2 [.ref 3, .int (Int32.ofInt x1)] (zV (zU h X) D) = some (.inl (some (.long (Int64.ofInt v))), zV (zU h1 X1) D1)) ∨ cE (zc 77 2 [.ref 3, .int (Int32.ofInt x1)] (zV (zU h X) D)) τ 1 2 h1 X1 D1) :
    wR (zc 218 4 [.ref 3, .int (Int32.ofInt x1), .ref 68] (zV (zU h X) D)) τ v h1 X1 D1 := by
  rcases hA with ⟨rfl, e⟩ | ⟨rfl, e⟩
  · refine ⟨h1, zwr D1 68 0 v, ?_, Or.inl ⟨rfl, rfl, rfl⟩⟩
    rw [zc]
    simp (disch := first | omega | (simp (disch := omega) only [zwr_s, zwr_a, zwr_i, zn_put, zn_new, zn_fil, zn_chg, zV_n]; omega)) only [zentry, zs0, zs1, zs2, zs3, zg_lo, zg_st, zg_st2, zg_ald, zg_ast, zs_ia, zs_i0, zcs, zg_ii, zi_max, zi_min, zi_abi, zi_abf, zi_fb, zi_bf, lget, lst, lst2, lc2, Option.map_some, zso, if_true, if_false, zc1, and_true, true_and, and_self, List.length_nil, List.length_cons, Nat.zero_le, reduceIte, reduceCtorEq, false_and, and_false, Bool.false_eq_true, zca_some, zr0, zr100, Option.bind_some, zb_none, zb_some, zrc, or_true, true_or, eq_self, ne_eq, not_true_eq_false, not_false_eq_true, zrt_i, zrt_zb, zrt_b, zrt_c, zrt_l, zrt_f, zrt_r, zrt_n, zrt_v, zft_0, zft_1, zft_zb, zft_3, zft_4, zft_5, zft_7r, zft_7n, iI_t, zb_i, zb_0, zb_1, Nat.reduceAdd, Nat.reduceLeDiff, Nat.reduceEqDiff, Nat.reduceSub, Int.reduceNeg, iI_add, iI_sub, iI_mul, iI_neg, iI_n, zbz, zchar_id, zin, zwr_s, zwr_a, zwr_i, if_pos, if_neg, Int.toNat_natCast, Int.natCast_zero, Int.reduceToNat, z218, zc3, zc68, e, zt2]
  · have hh : zhT 218 2 4 = some (3, 12) := by decide +kernel
    refine ⟨zchg h1 1 6, D1, ?_, Or.inr ⟨by omega, rfl, rfl⟩⟩
    rw [zc]
    simp (disch := first | omega | (simp (disch := omega) only [zwr_s, zwr_a, zwr_i, zn_put, zn_new, zn_fil, zn_chg, zV_n]; omega)) only [zentry, zs0, zs1, zs2, zs3, zg_lo, zg_st, zg_st2, zg_ald, zg_ast, zs_ia, zs_i0, zcs, zg_ii, zi_max, zi_min, zi_abi, zi_abf, zi_fb, zi_bf, lget, lst, lst2, lc2, Option.map_some, zso, if_true, if_false, zc1, and_true, true_and, and_self, List.length_nil, List.length_cons, Nat.zero_le, reduceIte, reduceCtorEq, false_and, and_false, Bool.false_eq_true, zca_some, zr0, zr100, Option.bind_some, zb_none, zb_some, zrc, or_true, true_or, eq_self, ne_eq, not_true_eq_false, not_false_eq_true, zrt_i, zrt_zb, zrt_b, zrt_c, zrt_l, zrt_f, zrt_r, zrt_n, zrt_v, zft_0, zft_1, zft_zb, zft_3, zft_4, zft_5, zft_7r, zft_7n, iI_t, zb_i, zb_0, zb_1, Nat.reduceAdd, Nat.reduceLeDiff, Nat.reduceEqDiff, Nat.reduceSub, Int.reduceNeg, iI_add, iI_sub, iI_mul, iI_neg, iI_n, zbz, zchar_id, zin, zwr_s, zwr_a, zwr_i, if_pos, if_neg, Int.toNat_natCast, Int.natCast_zero, Int.reduceToNat, z218, zc3, zc68, e, zb_h hh, lclr, zt2]

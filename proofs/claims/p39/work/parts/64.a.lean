/-! the class: what fills the gaps: its pieces -/
theorem fi_in0 : ((List.range 256).all fun c => (List.range 8).all fun i => decide ((Int32.ofInt (c : Int) >>> (Int32.ofInt ((7 : Int) - (i : Int)) &&& 31)) &&& Int32.ofInt 1 = Int32.ofInt (if c.testBit (7 - i) = true then 1 else 0))) = true := by decide +kernel
theorem fi_in {c i : Nat} (hc : c < 256) (hi : i < 8) : (Int32.ofInt (c : Int) >>> (Int32.ofInt ((7 : Int) - (i : Int)) &&& 31)) &&& Int32.ofInt 1 = Int32.ofInt (if c.testBit (7 - i) = true then 1 else 0) :=
  of_decide_eq_true (List.all_eq_true.mp (List.all_eq_true.mp fi_in0 c (List.mem_range.mpr hc)) i (List.mem_range.mpr hi))
set_option maxRecDepth 20000 in
theorem c10 {c i : Nat} {h : zH} {D : zD} (hc : c < 256) (hi : i < 8) : zc 10 3 [.ref 14, .int (Int32.ofInt (c : Int)), .int (Int32.ofInt (i : Int))] (zV h D) = some (.inl (some (.int (Int32.ofInt (zb (c.testBit (7 - i) = true))))), zV h D) := by
  have hb := fi_in hc hi
  rw [zc]
  by_cases g : c.testBit (7 - i) = true
  · rw [if_pos g] at hb
    rw [zb_t g]
    simp (disch := first | omega | (simp (disch := omega) only [zwr_s, zwr_a, zwr_i, zn_put, zn_new, zn_fil, zn_chg, zV_n]; omega)) only [zentry, zs0, zs1, zs2, zs3, zg_lo, zg_st, zg_st2, zg_ald, zg_ast, zs_ia, zs_i0, zcs, zg_ii, zi_max, zi_min, zi_abi, zi_abf, zi_fb, zi_bf, lget, lst, lst2, lc2, Option.map_some, zso, if_true, if_false, zc1, and_true, true_and, and_self, List.length_nil, List.length_cons, Nat.zero_le, reduceIte, reduceCtorEq, false_and, and_false, Bool.false_eq_true, zca_some, zr0, zr100, Option.bind_some, zb_none, zb_some, zrc, or_true, true_or, eq_self, ne_eq, not_true_eq_false, not_false_eq_true, zrt_i, zrt_zb, zrt_b, zrt_c, zrt_l, zrt_f, zrt_r, zrt_n, zrt_v, zft_0, zft_1, zft_zb, zft_3, zft_4, zft_5, zft_7r, zft_7n, iI_t, zb_i, zb_0, zb_1, Nat.reduceAdd, Nat.reduceLeDiff, Nat.reduceEqDiff, Nat.reduceSub, Int.reduceNeg, iI_add, iI_sub, iI_mul, iI_neg, iI_n, zbz, zchar_id, zin, zwr_s, zwr_a, zwr_i, if_pos, if_neg, Int.toNat_natCast, Int.natCast_zero, Int.reduceToNat, z10, hb, zc14]
  · rw [if_neg g] at hb
    rw [zb_f g]
    simp (disch := first | omega | (simp (disch := omega) only [zwr_s, zwr_a, zwr_i, zn_put, zn_new, zn_fil, zn_chg, zV_n]; omega)) only [zentry, zs0, zs1, zs2, zs3, zg_lo, zg_st, zg_st2, zg_ald, zg_ast, zs_ia, zs_i0, zcs, zg_ii, zi_max, zi_min, zi_abi, zi_abf, zi_fb, zi_bf, lget, lst, lst2, lc2, Option.map_some, zso, if_true, if_false, zc1, and_true, true_and, and_self, List.length_nil, List.length_cons, Nat.zero_le, reduceIte, reduceCtorEq, false_and, and_false, Bool.false_eq_true, zca_some, zr0, zr100, Option.bind_some, zb_none, zb_some, zrc, or_true, true_or, eq_self, ne_eq, not_true_eq_false, not_false_eq_true, zrt_i, zrt_zb, zrt_b, zrt_c, zrt_l, zrt_f, zrt_r, zrt_n, zrt_v, zft_0, zft_1, zft_zb, zft_3, zft_4, zft_5, zft_7r, zft_7n, iI_t, zb_i, zb_0, zb_1, Nat.reduceAdd, Nat.reduceLeDiff, Nat.reduceEqDiff, Nat.reduceSub, Int.reduceNeg, iI_add, iI_sub, iI_mul, iI_neg, iI_n, zbz, zchar_id, zin, zwr_s, zwr_a, zwr_i, if_pos, if_neg, Int.toNat_natCast, Int.natCast_zero, Int.reduceToNat, z10, hb, zc14]
set_option maxRecDepth 20000 in
theorem c11 {i : Nat} {h : zH} {D : zD} (hi : (i : Int) < D 14 3) (hn : D 14 3 ≤ 8) : zc 11 2 [.ref 14, .int (Int32.ofInt (i : Int))] (zV h D) = some (.inl (some (.int (Int32.ofInt (D 15 i)))), zV h D) := by
  rw [zc]
  simp (disch := first | omega | (simp (disch := omega) only [zwr_s, zwr_a, zwr_i, zn_put, zn_new, zn_fil, zn_chg, zV_n]; omega)) only [zentry, zs0, zs1, zs2, zs3, zg_lo, zg_st, zg_st2, zg_ald, zg_ast, zs_ia, zs_i0, zcs, zg_ii, zi_max, zi_min, zi_abi, zi_abf, zi_fb, zi_bf, lget, lst, lst2, lc2, Option.map_some, zso, if_true, if_false, zc1, and_true, true_and, and_self, List.length_nil, List.length_cons, Nat.zero_le, reduceIte, reduceCtorEq, false_and, and_false, Bool.false_eq_true, zca_some, zr0, zr100, Option.bind_some, zb_none, zb_some, zrc, or_true, true_or, eq_self, ne_eq, not_true_eq_false, not_false_eq_true, zrt_i, zrt_zb, zrt_b, zrt_c, zrt_l, zrt_f, zrt_r, zrt_n, zrt_v, zft_0, zft_1, zft_zb, zft_3, zft_4, zft_5, zft_7r, zft_7n, iI_t, zb_i, zb_0, zb_1, Nat.reduceAdd, Nat.reduceLeDiff, Nat.reduceEqDiff, Nat.reduceSub, Int.reduceNeg, iI_add, iI_sub, iI_mul, iI_neg, iI_n, zbz, zchar_id, zin, zwr_s, zwr_a, zwr_i, if_pos, if_neg, Int.toNat_natCast, Int.natCast_zero, Int.reduceToNat, z11, zc14, zc15]
set_option maxRecDepth 20000 in
theorem c12 {i : Nat} {h : zH} {D : zD} (hi : (i : Int) < D 14 3) (hn : D 14 3 ≤ 8) : zc 12 2 [.ref 14, .int (Int32.ofInt (i : Int))] (zV h D) = some (.inl (some (.int (Int32.ofInt (D 16 i)))), zV h D) := by
  rw [zc]
  simp (disch := first | omega | (simp (disch := omega) only [zwr_s, zwr_a, zwr_i, zn_put, zn_new, zn_fil, zn_chg, zV_n]; omega)) only [zentry, zs0, zs1, zs2, zs3, zg_lo, zg_st, zg_st2, zg_ald, zg_ast, zs_ia, zs_i0, zcs, zg_ii, zi_max, zi_min, zi_abi, zi_abf, zi_fb, zi_bf, lget, lst, lst2, lc2, Option.map_some, zso, if_true, if_false, zc1, and_true, true_and, and_self, List.length_nil, List.length_cons, Nat.zero_le, reduceIte, reduceCtorEq, false_and, and_false, Bool.false_eq_true, zca_some, zr0, zr100, Option.bind_some, zb_none, zb_some, zrc, or_true, true_or, eq_self, ne_eq, not_true_eq_false, not_false_eq_true, zrt_i, zrt_zb, zrt_b, zrt_c, zrt_l, zrt_f, zrt_r, zrt_n, zrt_v, zft_0, zft_1, zft_zb, zft_3, zft_4, zft_5, zft_7r, zft_7n, iI_t, zb_i, zb_0, zb_1, Nat.reduceAdd, Nat.reduceLeDiff, Nat.reduceEqDiff, Nat.reduceSub, Int.reduceNeg, iI_add, iI_sub, iI_mul, iI_neg, iI_n, zbz, zchar_id, zin, zwr_s, zwr_a, zwr_i, if_pos, if_neg, Int.toNat_natCast, Int.natCast_zero, Int.reduceToNat, z12, zc14, zc16]
set_option maxRecDepth 20000 in
theorem c13 {i : Nat} {h : zH} {D : zD} (hi : (i : Int) < D 14 3) (hn : D 14 3 ≤ 8) : zc 13 2 [.ref 14, .int (Int32.ofInt (i : Int))] (zV h D) = some (.inl (some (.int (Int32.ofInt (D 17 i)))), zV h D) := by
  rw [zc]
  simp (disch := first | omega | (simp (disch := omega) only [zwr_s, zwr_a, zwr_i, zn_put, zn_new, zn_fil, zn_chg, zV_n]; omega)) only [zentry, zs0, zs1, zs2, zs3, zg_lo, zg_st, zg_st2, zg_ald, zg_ast, zs_ia, zs_i0, zcs, zg_ii, zi_max, zi_min, zi_abi, zi_abf, zi_fb, zi_bf, lget, lst, lst2, lc2, Option.map_some, zso, if_true, if_false, zc1, and_true, true_and, and_self, List.length_nil, List.length_cons, Nat.zero_le, reduceIte, reduceCtorEq, false_and, and_false, Bool.false_eq_true, zca_some, zr0, zr100, Option.bind_some, zb_none, zb_some, zrc, or_true, true_or, eq_self, ne_eq, not_true_eq_false, not_false_eq_true, zrt_i, zrt_zb, zrt_b, zrt_c, zrt_l, zrt_f, zrt_r, zrt_n, zrt_v, zft_0, zft_1, zft_zb, zft_3, zft_4, zft_5, zft_7r, zft_7n, iI_t, zb_i, zb_0, zb_1, Nat.reduceAdd, Nat.reduceLeDiff, Nat.reduceEqDiff, Nat.reduceSub, Int.reduceNeg, iI_add, iI_sub, iI_mul, iI_neg, iI_n, zbz, zchar_id, zin, zwr_s, zwr_a, zwr_i, if_pos, if_neg, Int.toNat_natCast, Int.natCast_zero, Int.reduceToNat, z13, zc14, zc17]
/-- the pieces' values are in their bounds -/
def fiB (D : zD) : Prop := (0 ≤ D 14 3 ∧ D 14 3 ≤ 8) ∧ ∀ i : Nat, (i : Int) < D 14 3 → (0 ≤ D 15 i ∧ D 15 i < 12) ∧ (1 ≤ D 16 i ∧ D 16 i ≤ 900) ∧ (-60 ≤ D 17 i ∧ D 17 i ≤ 0)
def fzs (D : zD) (c : Nat) : Nat → Int
  | 0 => 0
  | i + 1 => if c.testBit (7 - i) = true then fzs D c i + D 17 i * D 16 i else fzs D c i
def fvs (D : zD) (c : Nat) : Nat → UInt32
  | 0 => FP.fconst0
  | i + 1 => if c.testBit (7 - i) = true then FP.fadd (fvs D c i) (FP.i2f (Int32.ofInt (D 17 i * D 16 i))) else fvs D c i
theorem fvs_int {D : zD} (hD : fiB D) (m : Nat) : ∀ c : Nat, (c : Int) ≤ D 14 3 → FP.Core.FInt (fzs D m c) (fvs D m c) ∧ (-108000 * c ≤ fzs D m c ∧ fzs D m c ≤ 0)
  | 0, _ => ⟨fl_0, by simp [fzs]⟩
  | c + 1, h => by
    obtain ⟨ih, i1, i2⟩ := fvs_int hD m c (by omega)
    obtain ⟨-, l1, l2⟩ := hD.2 c (by omega)
    have hb := mul_b (x := D 17 c) (y := D 16 c) l2 (by omega)
    have hn := hD.1
    unfold fzs fvs
    by_cases g : m.testBit (7 - c) = true
    · rw [if_pos g, if_pos g]
      exact ⟨fl_add ih (fl_i2f (by omega)) (by omega), by omega, by omega⟩
    · rw [if_neg g, if_neg g]
      exact ⟨ih, by omega, by omega⟩
theorem fvs_zn {D : zD} (hD : fiB D) (m c : Nat) (h : (c : Int) ≤ D 14 3) : zn32 (fvs D m c) := fl_zn (fl_int (fvs_int hD m c h).1)
/-- what a choice is off the level, with its sign -/
def fdf (D : zD) (m : Nat) (gap lev : Int) : UInt32 := FP.fsub (FP.fdiv (fvs D m (D 14 3).toNat) (FP.i2f (Int32.ofInt gap))) (FP.i2f (Int32.ofInt lev))
theorem fdf_n1 {D : zD} (hD : fiB D) {m : Nat} {gap : Int} (hg : 1 ≤ gap ∧ gap ≤ 3600) : FP.Core.fIsNaN (FP.fdiv (fvs D m (D 14 3).toNat) (FP.i2f (Int32.ofInt gap))) = false :=
  fl_div (fl_int (fvs_int hD m (D 14 3).toNat (by have := hD.1; omega)).1) (by omega)
theorem fdf_nn {D : zD} (hD : fiB D) {m : Nat} {gap lev : Int} (hg : 1 ≤ gap ∧ gap ≤ 3600) : FP.Core.fIsNaN (fdf D m gap lev) = false := fl_sub (fdf_n1 hD hg)
noncomputable def fdv (D : zD) (m : Nat) (gap lev : Int) : UInt32 := if FP.Core.fkey (fdf D m gap lev) < 0 then FP.fneg (fdf D m gap lev) else fdf D m gap lev
theorem fdv_nn {D : zD} (hD : fiB D) {m : Nat} {gap lev : Int} (hg : 1 ≤ gap ∧ gap ≤ 3600) : FP.Core.fIsNaN (fdv D m gap lev) = false := fl_neg (fdf_nn hD hg)
set_option maxRecDepth 20000 in
theorem c14 {m : Nat} {gap lev : Int} {h : zH} {D : zD} (hD : fiB D) (hm : m < 256) (hg : 1 ≤ gap ∧ gap ≤ 3600) (hl : -60 ≤ lev ∧ lev ≤ 0) :
    zc 14 6 [.ref 14, .int (Int32.ofInt (m : Int)), .int (Int32.ofInt gap), .int (Int32.ofInt lev)] (zV h D) = some (.inl (some (.float (fdv D m gap lev))), zV h D) := by
  rw [zc]
  have hn := hD.1
  simp (disch := first | omega | (simp (disch := omega) only [zwr_s, zwr_a, zwr_i, zn_put, zn_new, zn_fil, zn_chg, zV_n]; omega)) only [zentry, zs0, zs1, zs2, zs3, zg_lo, zg_st, zg_st2, zg_ald, zg_ast, zs_ia, zs_i0, zcs, zg_ii, zi_max, zi_min, zi_abi, zi_abf, zi_fb, zi_bf, lget, lst, lst2, lc2, Option.map_some, zso, if_true, if_false, zc1, and_true, true_and, and_self, List.length_nil, List.length_cons, Nat.zero_le, reduceIte, reduceCtorEq, false_and, and_false, Bool.false_eq_true, zca_some, zr0, zr100, Option.bind_some, zb_none, zb_some, zrc, or_true, true_or, eq_self, ne_eq, not_true_eq_false, not_false_eq_true, zrt_i, zrt_zb, zrt_b, zrt_c, zrt_l, zrt_f, zrt_r, zrt_n, zrt_v, zft_0, zft_1, zft_zb, zft_3, zft_4, zft_5, zft_7r, zft_7n, iI_t, zb_i, zb_0, zb_1, Nat.reduceAdd, Nat.reduceLeDiff, Nat.reduceEqDiff, Nat.reduceSub, Int.reduceNeg, iI_add, iI_sub, iI_mul, iI_neg, iI_n, zbz, zchar_id, zin, zwr_s, zwr_a, zwr_i, if_pos, if_neg, Int.toNat_natCast, Int.natCast_zero, Int.reduceToNat, z14, if_pos]
  have hloop := zloop (k := 14) (pc := 13) (fun i => [some (.ref 14), some (.int (Int32.ofInt (m : Int))), some (.int (Int32.ofInt gap)), some (.int (Int32.ofInt lev)), some (.float (fvs D m i)), some (.int (Int32.ofInt (i : Int)))]) (fun _ => zV h D) (D 14 3).toNat (fun i hi => by
    have hi' : (i : Int) < D 14 3 := by omega
    have hz := fvs_zn hD m (i + 1) (by omega)
    have e10 := c10 (h := h) (D := D) hm (show i < 8 by omega)
    have e12 := c12 (h := h) hi' hn.2
    have e13 := c13 (h := h) hi' hn.2
    obtain ⟨-, l1, l2⟩ := hD.2 i hi'
    have hm9 := mul_b (x := D 17 i) (y := D 16 i) l2 (by omega)
    conv => lhs; rw [z14_13]
    rw [fvs] at hz ⊢
    by_cases g : m.testBit (7 - i) = true
    · rw [if_pos g] at hz
      rw [zb_t g] at e10
      rw [if_pos g]
      simp (disch := first | omega | (simp (disch := omega) only [zwr_s, zwr_a, zwr_i, zn_put, zn_new, zn_fil, zn_chg, zV_n]; omega)) only [zentry, zs0, zs1, zs2, zs3, zg_lo, zg_st, zg_st2, zg_ald, zg_ast, zs_ia, zs_i0, zcs, zg_ii, zi_max, zi_min, zi_abi, zi_abf, zi_fb, zi_bf, lget, lst, lst2, lc2, Option.map_some, zso, if_true, if_false, zc1, and_true, true_and, and_self, List.length_nil, List.length_cons, Nat.zero_le, reduceIte, reduceCtorEq, false_and, and_false, Bool.false_eq_true, zca_some, zr0, zr100, Option.bind_some, zb_none, zb_some, zrc, or_true, true_or, eq_self, ne_eq, not_true_eq_false, not_false_eq_true, zrt_i, zrt_zb, zrt_b, zrt_c, zrt_l, zrt_f, zrt_r, zrt_n, zrt_v, zft_0, zft_1, zft_zb, zft_3, zft_4, zft_5, zft_7r, zft_7n, iI_t, zb_i, zb_0, zb_1, Nat.reduceAdd, Nat.reduceLeDiff, Nat.reduceEqDiff, Nat.reduceSub, Int.reduceNeg, iI_add, iI_sub, iI_mul, iI_neg, iI_n, zbz, zchar_id, zin, zwr_s, zwr_a, zwr_i, if_pos, if_neg, Int.toNat_natCast, Int.natCast_zero, Int.reduceToNat, z14, e10, e12, e13, hz, zc14, zt2, zt3]
    · rw [zb_f g] at e10
      rw [if_neg g]
      simp (disch := first | omega | (simp (disch := omega) only [zwr_s, zwr_a, zwr_i, zn_put, zn_new, zn_fil, zn_chg, zV_n]; omega)) only [zentry, zs0, zs1, zs2, zs3, zg_lo, zg_st, zg_st2, zg_ald, zg_ast, zs_ia, zs_i0, zcs, zg_ii, zi_max, zi_min, zi_abi, zi_abf, zi_fb, zi_bf, lget, lst, lst2, lc2, Option.map_some, zso, if_true, if_false, zc1, and_true, true_and, and_self, List.length_nil, List.length_cons, Nat.zero_le, reduceIte, reduceCtorEq, false_and, and_false, Bool.false_eq_true, zca_some, zr0, zr100, Option.bind_some, zb_none, zb_some, zrc, or_true, true_or, eq_self, ne_eq, not_true_eq_false, not_false_eq_true, zrt_i, zrt_zb, zrt_b, zrt_c, zrt_l, zrt_f, zrt_r, zrt_n, zrt_v, zft_0, zft_1, zft_zb, zft_3, zft_4, zft_5, zft_7r, zft_7n, iI_t, zb_i, zb_0, zb_1, Nat.reduceAdd, Nat.reduceLeDiff, Nat.reduceEqDiff, Nat.reduceSub, Int.reduceNeg, iI_add, iI_sub, iI_mul, iI_neg, iI_n, zbz, zchar_id, zin, zwr_s, zwr_a, zwr_i, if_pos, if_neg, Int.toNat_natCast, Int.natCast_zero, Int.reduceToNat, z14, e10, zc14, zt2, zt3]) (D 14 3).toNat (Nat.le_refl _)
  refine Eq.trans hloop ?_
  rw [z14_13]
  have z1 := fl_zn (fdf_n1 hD (m := m) hg)
  have z2 := fl_zn (fdf_nn hD (m := m) (lev := lev) hg)
  have nn := fdf_nn hD (m := m) (lev := lev) hg
  have n0 : FP.Core.fIsNaN FP.fconst0 = false := fl_int fl_0
  have k0 : FP.Core.fkey FP.fconst0 = 0 := by
    have : FP.fconst0 = 0 := by decide +kernel
    rw [this]
    exact fl_key0
  have hlt := fl_lt nn n0 .g
  rw [k0] at hlt
  have hnn : (((D 14 3).toNat : Nat) : Int) = D 14 3 := by omega
  unfold fdv
  unfold fdf at z2 hlt ⊢
  generalize fvs D m (D 14 3).toNat = S at *
  generalize hQ : FP.fdiv S (FP.i2f (Int32.ofInt gap)) = Q at *
  generalize hR : FP.fsub Q (FP.i2f (Int32.ofInt lev)) = R at *
  clear hloop n0 k0 nn
  by_cases g : FP.Core.fkey R < 0
  · rw [if_pos g]
    have hlt : (Op.cmpValue (FP.fcmp R FP.fconst0) .g).toInt < 0 := by rw [hlt]; exact g
    generalize FP.Core.fkey R = kr at *
    simp (disch := first | omega | (simp (disch := omega) only [zwr_s, zwr_a, zwr_i, zn_put, zn_new, zn_fil, zn_chg, zV_n]; omega)) only [zentry, zs0, zs1, zs2, zs3, zg_lo, zg_st, zg_st2, zg_ald, zg_ast, zs_ia, zs_i0, zcs, zg_ii, zi_max, zi_min, zi_abi, zi_abf, zi_fb, zi_bf, lget, lst, lst2, lc2, Option.map_some, zso, if_true, if_false, zc1, and_true, true_and, and_self, List.length_nil, List.length_cons, Nat.zero_le, reduceIte, reduceCtorEq, false_and, and_false, Bool.false_eq_true, zca_some, zr0, zr100, Option.bind_some, zb_none, zb_some, zrc, or_true, true_or, eq_self, ne_eq, not_true_eq_false, not_false_eq_true, zrt_i, zrt_zb, zrt_b, zrt_c, zrt_l, zrt_f, zrt_r, zrt_n, zrt_v, zft_0, zft_1, zft_zb, zft_3, zft_4, zft_5, zft_7r, zft_7n, iI_t, zb_i, zb_0, zb_1, Nat.reduceAdd, Nat.reduceLeDiff, Nat.reduceEqDiff, Nat.reduceSub, Int.reduceNeg, iI_add, iI_sub, iI_mul, iI_neg, iI_n, zbz, zchar_id, zin, zwr_s, zwr_a, zwr_i, if_pos, if_neg, Int.toNat_natCast, Int.natCast_zero, Int.reduceToNat, z14, hQ, hR, z1, z2, hnn, hlt, zc14]
  · rw [if_neg g]
    have hlt : ¬ (Op.cmpValue (FP.fcmp R FP.fconst0) .g).toInt < 0 := by rw [hlt]; exact g
    generalize FP.Core.fkey R = kr at *
    simp (disch := first | omega | (simp (disch := omega) only [zwr_s, zwr_a, zwr_i, zn_put, zn_new, zn_fil, zn_chg, zV_n]; omega)) only [zentry, zs0, zs1, zs2, zs3, zg_lo, zg_st, zg_st2, zg_ald, zg_ast, zs_ia, zs_i0, zcs, zg_ii, zi_max, zi_min, zi_abi, zi_abf, zi_fb, zi_bf, lget, lst, lst2, lc2, Option.map_some, zso, if_true, if_false, zc1, and_true, true_and, and_self, List.length_nil, List.length_cons, Nat.zero_le, reduceIte, reduceCtorEq, false_and, and_false, Bool.false_eq_true, zca_some, zr0, zr100, Option.bind_some, zb_none, zb_some, zrc, or_true, true_or, eq_self, ne_eq, not_true_eq_false, not_false_eq_true, zrt_i, zrt_zb, zrt_b, zrt_c, zrt_l, zrt_f, zrt_r, zrt_n, zrt_v, zft_0, zft_1, zft_zb, zft_3, zft_4, zft_5, zft_7r, zft_7n, iI_t, zb_i, zb_0, zb_1, Nat.reduceAdd, Nat.reduceLeDiff, Nat.reduceEqDiff, Nat.reduceSub, Int.reduceNeg, iI_add, iI_sub, iI_mul, iI_neg, iI_n, zbz, zchar_id, zin, zwr_s, zwr_a, zwr_i, if_pos, if_neg, Int.toNat_natCast, Int.natCast_zero, Int.reduceToNat, z14, hQ, hR, z1, z2, hnn, hlt, zc14]

/-! the bits of a mean level -/
theorem fb_neg {v : UInt32} {e t : Nat} (he : 1 ≤ e ∧ e ≤ 254) (ht : t < 8388608) (hv : v.toNat = 2147483648 + (e * 8388608 + t)) : FP.fneg v = fb e t ∧ FP.Core.fIsNaN v = false ∧ FP.Core.fkey v = -((e : Int) * 8388608 + t) := by
  have h1 : FP.Core.val32 v = FP.Core.negate (FP.Core.val32 (fb e t)) := FP.Core.val32_neg_bits (Or.inr (by rw [hv, fb_nat (by omega) ht]; omega))
  have hn : FP.Core.val32 (fb e t) ≠ .nan := by
    rw [fb_val he ht]
    intro q
    cases q
  refine ⟨?_, ?_, ?_⟩
  · refine (FP.Core.val32_inj hn ?_).symm
    rw [FP.val32_fneg, h1, FP.Core.negate_negate]
  · refine (FP.Core.notNaN_iff32 _).mpr ?_
    rw [h1, fb_val he ht]
    intro q
    cases q
  · unfold FP.Core.fkey
    rw [hv, if_pos (by omega)]
    omega
theorem fk1 : FP.Core.fkey FP.fconst1 = 1065353216 := by decide +kernel
theorem fk2 : FP.Core.fkey FP.fconst2 = 1073741824 := by decide +kernel
theorem fk0 : FP.Core.fkey FP.fconst0 = 0 := by decide +kernel
theorem fn1 : FP.Core.fIsNaN FP.fconst1 = false := by decide +kernel
theorem fn2 : FP.Core.fIsNaN FP.fconst2 = false := by decide +kernel
theorem fb_or {e t : Nat} (he : e < 256) (ht : t < 8388608) : Int32.ofInt 1 <<< Int32.ofInt 31 ||| Int32.ofInt (e : Int) <<< Int32.ofInt 23 ||| Int32.ofInt (t : Int) = (UInt32.ofNat (2147483648 + (e * 8388608 + t))).toInt32 := by
  apply Int32.toBitVec_inj.mp
  have h31 : Int32.ofInt 1 <<< Int32.ofInt 31 = Int32.ofInt (-2147483648) := by decide
  have eb : ∀ n : Nat, (Int32.ofInt (n : Int)).toBitVec = BitVec.ofNat 32 n := fun n => by
    show BitVec.ofInt 32 (n : Int) = _
    exact BitVec.ofInt_natCast 32 n
  have e23 : (Int32.ofInt (e : Int) <<< Int32.ofInt 23).toBitVec = BitVec.ofNat 32 e <<< 23 := by
    rw [← eb e]
    rfl
  rw [h31, Int32.toBitVec_or, Int32.toBitVec_or, e23, eb]
  have e31 : (Int32.ofInt (-2147483648)).toBitVec = BitVec.ofNat 32 2147483648 := by decide
  rw [e31]
  show BitVec.ofNat 32 2147483648 ||| BitVec.ofNat 32 e <<< 23 ||| BitVec.ofNat 32 t = (UInt32.ofNat (2147483648 + (e * 8388608 + t))).toBitVec
  apply BitVec.eq_of_toNat_eq
  have e1 : (BitVec.ofNat 32 e <<< 23).toNat = e <<< 23 := by
    have m1 : e % 2 ^ 32 = e := Nat.mod_eq_of_lt (by omega)
    have m2 : (e <<< 23) % 2 ^ 32 = e <<< 23 := Nat.mod_eq_of_lt (by rw [Nat.shiftLeft_eq]; omega)
    rw [BitVec.toNat_shiftLeft, BitVec.toNat_ofNat, m1, m2]
  rw [BitVec.toNat_or, BitVec.toNat_or, e1, BitVec.toNat_ofNat, BitVec.toNat_ofNat]
  have e2 : (2147483648 % 2 ^ 32 : Nat) = 1 <<< 31 := by decide
  have e3 : (1 <<< 31 ||| e <<< 23 : Nat) = (256 + e) <<< 23 := by
    rw [← Nat.shiftLeft_add_eq_or_of_lt (by rw [Nat.shiftLeft_eq]; omega), Nat.shiftLeft_eq, Nat.shiftLeft_eq, Nat.shiftLeft_eq]
    omega
  rw [e2, e3, Nat.mod_eq_of_lt (show t < 2 ^ 32 by omega), ← Nat.shiftLeft_add_eq_or_of_lt ht, Nat.shiftLeft_eq]
  show _ = (UInt32.ofNat (2147483648 + (e * 8388608 + t))).toNat
  rw [UInt32.toNat_ofNat']
  omega
set_option maxRecDepth 20000 in
theorem c101_a {e t : Nat} {v : UInt32} {h : zH} (ht : t < 8388608) : ∀ (n s : Nat), 127 + n ≤ 254 → s + n ≤ 127 →
    zx 101 26 [some (.float v), some (.float (fb (127 + n) t)), some (.int (Int32.ofInt (127 + (s : Int)))), some (.int (Int32.ofInt (s : Int))), none] [] h =
    zx 101 53 [some (.float v), some (.float (fb 127 t)), some (.int (Int32.ofInt (127 + (s : Int) + (n : Int)))), some (.int (Int32.ofInt 0)), none] [] h
  | 0, s, h1, h2 => by
    have hlt := fl_lt (fb_nn (e := 127) (t := t) (by omega) ht) fn2 .l
    rw [fb_key (by omega) ht, fk2] at hlt
    have hlt : (Op.cmpValue (FP.fcmp (fb 127 t) FP.fconst2) .l).toInt < 0 := by rw [hlt]; omega
    conv => lhs; rw [z101_26]
    have e0 : 127 + (s : Int) + ((0 : Nat) : Int) = 127 + s := by omega
    rw [e0]
    by_cases g : s = 127
    · subst g
      simp (disch := first | omega | (simp (disch := omega) only [zwr_s, zwr_a, zwr_i, zn_put, zn_new, zn_fil, zn_chg, zV_n]; omega)) only [zentry, zs0, zs1, zs2, zs3, zg_lo, zg_st, zg_st2, zg_ald, zg_ast, zs_ia, zs_i0, zcs, zg_ii, zi_max, zi_min, zi_abi, zi_abf, zi_fb, zi_bf, lget, lst, lst2, lc2, Option.map_some, zso, if_true, if_false, zc1, and_true, true_and, and_self, List.length_nil, List.length_cons, Nat.zero_le, reduceIte, reduceCtorEq, false_and, and_false, Bool.false_eq_true, zca_some, zr0, zr100, Option.bind_some, zb_none, zb_some, zrc, or_true, true_or, eq_self, ne_eq, not_true_eq_false, not_false_eq_true, zrt_i, zrt_zb, zrt_b, zrt_c, zrt_l, zrt_f, zrt_r, zrt_n, zrt_v, zft_0, zft_1, zft_zb, zft_3, zft_4, zft_5, zft_7r, zft_7n, iI_t, zb_i, zb_0, zb_1, Nat.reduceAdd, Nat.reduceLeDiff, Nat.reduceEqDiff, Nat.reduceSub, Int.reduceNeg, iI_add, iI_sub, iI_mul, iI_neg, iI_n, zbz, zchar_id, zin, zwr_s, zwr_a, zwr_i, if_pos, if_neg, Int.toNat_natCast, Int.natCast_zero, Int.reduceToNat, z101, hlt]
    · generalize fb 127 t = x at *
      simp (disch := first | omega | (simp (disch := omega) only [zwr_s, zwr_a, zwr_i, zn_put, zn_new, zn_fil, zn_chg, zV_n]; omega)) only [zentry, zs0, zs1, zs2, zs3, zg_lo, zg_st, zg_st2, zg_ald, zg_ast, zs_ia, zs_i0, zcs, zg_ii, zi_max, zi_min, zi_abi, zi_abf, zi_fb, zi_bf, lget, lst, lst2, lc2, Option.map_some, zso, if_true, if_false, zc1, and_true, true_and, and_self, List.length_nil, List.length_cons, Nat.zero_le, reduceIte, reduceCtorEq, false_and, and_false, Bool.false_eq_true, zca_some, zr0, zr100, Option.bind_some, zb_none, zb_some, zrc, or_true, true_or, eq_self, ne_eq, not_true_eq_false, not_false_eq_true, zrt_i, zrt_zb, zrt_b, zrt_c, zrt_l, zrt_f, zrt_r, zrt_n, zrt_v, zft_0, zft_1, zft_zb, zft_3, zft_4, zft_5, zft_7r, zft_7n, iI_t, zb_i, zb_0, zb_1, Nat.reduceAdd, Nat.reduceLeDiff, Nat.reduceEqDiff, Nat.reduceSub, Int.reduceNeg, iI_add, iI_sub, iI_mul, iI_neg, iI_n, zbz, zchar_id, zin, zwr_s, zwr_a, zwr_i, if_pos, if_neg, Int.toNat_natCast, Int.natCast_zero, Int.reduceToNat, z101, hlt]
  | n + 1, s, h1, h2 => by
    have hlt := fl_lt (fb_nn (e := 127 + (n + 1)) (t := t) (by omega) ht) fn2 .l
    rw [fb_key (by omega) ht, fk2] at hlt
    have hlt : ¬ (Op.cmpValue (FP.fcmp (fb (127 + (n + 1)) t) FP.fconst2) .l).toInt < 0 := by rw [hlt]; omega
    have hh := fb_half (e := 127 + (n + 1)) (t := t) (by omega) ht
    have hz := fl_zn (fb_nn (e := 127 + n) (t := t) (by omega) ht)
    rw [show 127 + (n + 1) - 1 = 127 + n by omega] at hh
    have ih := c101_a (e := e) (v := v) (h := h) ht n (s + 1) (by omega) (by omega)
    rw [show 127 + (s : Int) + ((n + 1 : Nat) : Int) = 127 + ((s + 1 : Nat) : Int) + (n : Int) by omega, ← ih]
    have e1 : 127 + ((s + 1 : Nat) : Int) = 127 + (s : Int) + 1 := by omega
    have e2 : ((s + 1 : Nat) : Int) = (s : Int) + 1 := by omega
    rw [e1, e2]
    conv => lhs; rw [z101_26]
    generalize fb (127 + (n + 1)) t = x at *
    generalize fb (127 + n) t = y at *
    simp (disch := first | omega | (simp (disch := omega) only [zwr_s, zwr_a, zwr_i, zn_put, zn_new, zn_fil, zn_chg, zV_n]; omega)) only [zentry, zs0, zs1, zs2, zs3, zg_lo, zg_st, zg_st2, zg_ald, zg_ast, zs_ia, zs_i0, zcs, zg_ii, zi_max, zi_min, zi_abi, zi_abf, zi_fb, zi_bf, lget, lst, lst2, lc2, Option.map_some, zso, if_true, if_false, zc1, and_true, true_and, and_self, List.length_nil, List.length_cons, Nat.zero_le, reduceIte, reduceCtorEq, false_and, and_false, Bool.false_eq_true, zca_some, zr0, zr100, Option.bind_some, zb_none, zb_some, zrc, or_true, true_or, eq_self, ne_eq, not_true_eq_false, not_false_eq_true, zrt_i, zrt_zb, zrt_b, zrt_c, zrt_l, zrt_f, zrt_r, zrt_n, zrt_v, zft_0, zft_1, zft_zb, zft_3, zft_4, zft_5, zft_7r, zft_7n, iI_t, zb_i, zb_0, zb_1, Nat.reduceAdd, Nat.reduceLeDiff, Nat.reduceEqDiff, Nat.reduceSub, Int.reduceNeg, iI_add, iI_sub, iI_mul, iI_neg, iI_n, zbz, zchar_id, zin, zwr_s, zwr_a, zwr_i, if_pos, if_neg, Int.toNat_natCast, Int.natCast_zero, Int.reduceToNat, z101, hlt, hh, hz]
set_option maxRecDepth 20000 in
theorem c101_b {e t : Nat} {v : UInt32} {h : zH} (ht : t < 8388608) : ∀ (n s : Nat), s + n ≤ 126 → ∀ E : Int,
    ∃ s' : Nat, s' ≤ 126 ∧ zx 101 53 [some (.float v), some (.float (fb (127 - n) t)), some (.int (Int32.ofInt E)), some (.int (Int32.ofInt (s : Int))), none] [] h =
    zx 101 78 [some (.float v), some (.float (fb 127 t)), some (.int (Int32.ofInt (E - (n : Int)))), some (.int (Int32.ofInt (s' : Int))), none] [] h
  | 0, s, h1, E => by
    have hlt := fl_lt (fb_nn (e := 127) (t := t) (by omega) ht) fn1 .g
    rw [fb_key (by omega) ht, fk1] at hlt
    have hlt : ¬ (Op.cmpValue (FP.fcmp (fb 127 t) FP.fconst1) .g).toInt < 0 := by rw [hlt]; omega
    refine ⟨s, by omega, ?_⟩
    have e0 : E - ((0 : Nat) : Int) = E := by omega
    rw [e0, show 127 - 0 = 127 from rfl]
    conv => lhs; rw [z101_53]
    by_cases g : s = 126
    · subst g
      generalize fb 127 t = x at *
      simp (disch := first | omega | (simp (disch := omega) only [zwr_s, zwr_a, zwr_i, zn_put, zn_new, zn_fil, zn_chg, zV_n]; omega)) only [zentry, zs0, zs1, zs2, zs3, zg_lo, zg_st, zg_st2, zg_ald, zg_ast, zs_ia, zs_i0, zcs, zg_ii, zi_max, zi_min, zi_abi, zi_abf, zi_fb, zi_bf, lget, lst, lst2, lc2, Option.map_some, zso, if_true, if_false, zc1, and_true, true_and, and_self, List.length_nil, List.length_cons, Nat.zero_le, reduceIte, reduceCtorEq, false_and, and_false, Bool.false_eq_true, zca_some, zr0, zr100, Option.bind_some, zb_none, zb_some, zrc, or_true, true_or, eq_self, ne_eq, not_true_eq_false, not_false_eq_true, zrt_i, zrt_zb, zrt_b, zrt_c, zrt_l, zrt_f, zrt_r, zrt_n, zrt_v, zft_0, zft_1, zft_zb, zft_3, zft_4, zft_5, zft_7r, zft_7n, iI_t, zb_i, zb_0, zb_1, Nat.reduceAdd, Nat.reduceLeDiff, Nat.reduceEqDiff, Nat.reduceSub, Int.reduceNeg, iI_add, iI_sub, iI_mul, iI_neg, iI_n, zbz, zchar_id, zin, zwr_s, zwr_a, zwr_i, if_pos, if_neg, Int.toNat_natCast, Int.natCast_zero, Int.reduceToNat, z101, hlt]
    · generalize fb 127 t = x at *
      simp (disch := first | omega | (simp (disch := omega) only [zwr_s, zwr_a, zwr_i, zn_put, zn_new, zn_fil, zn_chg, zV_n]; omega)) only [zentry, zs0, zs1, zs2, zs3, zg_lo, zg_st, zg_st2, zg_ald, zg_ast, zs_ia, zs_i0, zcs, zg_ii, zi_max, zi_min, zi_abi, zi_abf, zi_fb, zi_bf, lget, lst, lst2, lc2, Option.map_some, zso, if_true, if_false, zc1, and_true, true_and, and_self, List.length_nil, List.length_cons, Nat.zero_le, reduceIte, reduceCtorEq, false_and, and_false, Bool.false_eq_true, zca_some, zr0, zr100, Option.bind_some, zb_none, zb_some, zrc, or_true, true_or, eq_self, ne_eq, not_true_eq_false, not_false_eq_true, zrt_i, zrt_zb, zrt_b, zrt_c, zrt_l, zrt_f, zrt_r, zrt_n, zrt_v, zft_0, zft_1, zft_zb, zft_3, zft_4, zft_5, zft_7r, zft_7n, iI_t, zb_i, zb_0, zb_1, Nat.reduceAdd, Nat.reduceLeDiff, Nat.reduceEqDiff, Nat.reduceSub, Int.reduceNeg, iI_add, iI_sub, iI_mul, iI_neg, iI_n, zbz, zchar_id, zin, zwr_s, zwr_a, zwr_i, if_pos, if_neg, Int.toNat_natCast, Int.natCast_zero, Int.reduceToNat, z101, hlt]
  | n + 1, s, h1, E => by
    have hlt := fl_lt (fb_nn (e := 127 - (n + 1)) (t := t) (by omega) ht) fn1 .g
    rw [fb_key (by omega) ht, fk1] at hlt
    have hlt : (Op.cmpValue (FP.fcmp (fb (127 - (n + 1)) t) FP.fconst1) .g).toInt < 0 := by rw [hlt]; omega
    have hh := fb_dbl (e := 127 - (n + 1)) (t := t) (by omega) ht
    rw [show 127 - (n + 1) + 1 = 127 - n by omega] at hh
    have hz := fl_zn (fb_nn (e := 127 - n) (t := t) (by omega) ht)
    obtain ⟨s', a1, a2⟩ := c101_b (e := e) (v := v) (h := h) ht n (s + 1) (by omega) (E + -1)
    refine ⟨s', a1, ?_⟩
    rw [show E - ((n + 1 : Nat) : Int) = E + -1 - (n : Int) by omega, ← a2]
    have e2 : ((s + 1 : Nat) : Int) = (s : Int) + 1 := by omega
    rw [e2]
    conv => lhs; rw [z101_53]
    generalize fb (127 - (n + 1)) t = x at *
    generalize fb (127 - n) t = y at *
    simp (disch := first | omega | (simp (disch := omega) only [zwr_s, zwr_a, zwr_i, zn_put, zn_new, zn_fil, zn_chg, zV_n]; omega)) only [zentry, zs0, zs1, zs2, zs3, zg_lo, zg_st, zg_st2, zg_ald, zg_ast, zs_ia, zs_i0, zcs, zg_ii, zi_max, zi_min, zi_abi, zi_abf, zi_fb, zi_bf, lget, lst, lst2, lc2, Option.map_some, zso, if_true, if_false, zc1, and_true, true_and, and_self, List.length_nil, List.length_cons, Nat.zero_le, reduceIte, reduceCtorEq, false_and, and_false, Bool.false_eq_true, zca_some, zr0, zr100, Option.bind_some, zb_none, zb_some, zrc, or_true, true_or, eq_self, ne_eq, not_true_eq_false, not_false_eq_true, zrt_i, zrt_zb, zrt_b, zrt_c, zrt_l, zrt_f, zrt_r, zrt_n, zrt_v, zft_0, zft_1, zft_zb, zft_3, zft_4, zft_5, zft_7r, zft_7n, iI_t, zb_i, zb_0, zb_1, Nat.reduceAdd, Nat.reduceLeDiff, Nat.reduceEqDiff, Nat.reduceSub, Int.reduceNeg, iI_add, iI_sub, iI_mul, iI_neg, iI_n, zbz, zchar_id, zin, zwr_s, zwr_a, zwr_i, if_pos, if_neg, Int.toNat_natCast, Int.natCast_zero, Int.reduceToNat, z101, hlt, hh, hz]
set_option maxRecDepth 20000 in
theorem c101_z {h : zH} : zc 101 5 [.float FP.fconst0] h = some (.inl (some (.int (Int32.ofInt 0))), h) := by
  have e1 : (Op.cmpValue (FP.fcmp FP.fconst0 FP.fconst0) .l).toInt = 0 := by decide +kernel
  rw [zc]
  simp (disch := first | omega | (simp (disch := omega) only [zwr_s, zwr_a, zwr_i, zn_put, zn_new, zn_fil, zn_chg, zV_n]; omega)) only [zentry, zs0, zs1, zs2, zs3, zg_lo, zg_st, zg_st2, zg_ald, zg_ast, zs_ia, zs_i0, zcs, zg_ii, zi_max, zi_min, zi_abi, zi_abf, zi_fb, zi_bf, lget, lst, lst2, lc2, Option.map_some, zso, if_true, if_false, zc1, and_true, true_and, and_self, List.length_nil, List.length_cons, Nat.zero_le, reduceIte, reduceCtorEq, false_and, and_false, Bool.false_eq_true, zca_some, zr0, zr100, Option.bind_some, zb_none, zb_some, zrc, or_true, true_or, eq_self, ne_eq, not_true_eq_false, not_false_eq_true, zrt_i, zrt_zb, zrt_b, zrt_c, zrt_l, zrt_f, zrt_r, zrt_n, zrt_v, zft_0, zft_1, zft_zb, zft_3, zft_4, zft_5, zft_7r, zft_7n, iI_t, zb_i, zb_0, zb_1, Nat.reduceAdd, Nat.reduceLeDiff, Nat.reduceEqDiff, Nat.reduceSub, Int.reduceNeg, iI_add, iI_sub, iI_mul, iI_neg, iI_n, zbz, zchar_id, zin, zwr_s, zwr_a, zwr_i, if_pos, if_neg, Int.toNat_natCast, Int.natCast_zero, Int.reduceToNat, z101, e1]
set_option maxRecDepth 20000 in
theorem c101 {e t : Nat} {v : UInt32} {h : zH} (he : 1 ≤ e ∧ e ≤ 254) (ht : t < 8388608) (hv : v.toNat = 2147483648 + (e * 8388608 + t)) : zc 101 5 [.float v] h = some (.inl (some (.int v.toInt32)), h) := by
  obtain ⟨f1, f2, f3⟩ := fb_neg he ht hv
  have n0 : FP.Core.fIsNaN FP.fconst0 = false := fl_nn0
  have heq := fl_eq f2 n0 .l
  have hlt := fl_lt f2 n0 .g
  rw [fk0, f3] at heq hlt
  have heq : ¬ (Op.cmpValue (FP.fcmp v FP.fconst0) .l).toInt = 0 := by rw [heq]; omega
  have hlt : (Op.cmpValue (FP.fcmp v FP.fconst0) .g).toInt < 0 := by rw [hlt]; omega
  have hvv : v = UInt32.ofNat (2147483648 + (e * 8388608 + t)) := by
    rw [← hv, UInt32.ofNat_toNat]
  -- up to the second loop's end
  have key : ∃ s' : Nat, s' ≤ 126 ∧ zx 101 26 [some (.float v), some (.float (fb e t)), some (.int (Int32.ofInt 127)), some (.int (Int32.ofInt 0)), none] [] h = zx 101 78 [some (.float v), some (.float (fb 127 t)), some (.int (Int32.ofInt (e : Int))), some (.int (Int32.ofInt (s' : Int))), none] [] h := by
    by_cases g : 127 ≤ e
    · have a := c101_a (e := e) (v := v) (h := h) ht (e - 127) 0 (by omega) (by omega)
      obtain ⟨s', b1, b2⟩ := c101_b (e := e) (v := v) (h := h) ht 0 0 (by omega) (e : Int)
      refine ⟨s', b1, ?_⟩
      rw [show 127 + (e - 127) = e by omega, show 127 + ((0 : Nat) : Int) + ((e - 127 : Nat) : Int) = (e : Int) by omega, show 127 + ((0 : Nat) : Int) = 127 by omega, show ((0 : Nat) : Int) = 0 from rfl] at a
      rw [show (e : Int) - ((0 : Nat) : Int) = e by omega, show 127 - 0 = 127 from rfl, show ((0 : Nat) : Int) = 0 from rfl] at b2
      rw [a, b2]
    · obtain ⟨s', b1, b2⟩ := c101_b (e := e) (v := v) (h := h) ht (127 - e) 0 (by omega) 127
      refine ⟨s', b1, ?_⟩
      rw [show 127 - (127 - e) = e by omega, show (127 : Int) - ((127 - e : Nat) : Int) = e by omega, show ((0 : Nat) : Int) = 0 from rfl] at b2
      rw [← b2]
      have hl2 := fl_lt (fb_nn (e := e) (t := t) he ht) fn2 .l
      rw [fb_key (by omega) ht, fk2] at hl2
      have hl2 : (Op.cmpValue (FP.fcmp (fb e t) FP.fconst2) .l).toInt < 0 := by rw [hl2]; omega
      conv => lhs; rw [z101_26]
      clear b2 hv hvv f1 f3 heq hlt
      generalize fb e t = x at *
      simp (disch := first | omega | (simp (disch := omega) only [zwr_s, zwr_a, zwr_i, zn_put, zn_new, zn_fil, zn_chg, zV_n]; omega)) only [zentry, zs0, zs1, zs2, zs3, zg_lo, zg_st, zg_st2, zg_ald, zg_ast, zs_ia, zs_i0, zcs, zg_ii, zi_max, zi_min, zi_abi, zi_abf, zi_fb, zi_bf, lget, lst, lst2, lc2, Option.map_some, zso, if_true, if_false, zc1, and_true, true_and, and_self, List.length_nil, List.length_cons, Nat.zero_le, reduceIte, reduceCtorEq, false_and, and_false, Bool.false_eq_true, zca_some, zr0, zr100, Option.bind_some, zb_none, zb_some, zrc, or_true, true_or, eq_self, ne_eq, not_true_eq_false, not_false_eq_true, zrt_i, zrt_zb, zrt_b, zrt_c, zrt_l, zrt_f, zrt_r, zrt_n, zrt_v, zft_0, zft_1, zft_zb, zft_3, zft_4, zft_5, zft_7r, zft_7n, iI_t, zb_i, zb_0, zb_1, Nat.reduceAdd, Nat.reduceLeDiff, Nat.reduceEqDiff, Nat.reduceSub, Int.reduceNeg, iI_add, iI_sub, iI_mul, iI_neg, iI_n, zbz, zchar_id, zin, zwr_s, zwr_a, zwr_i, if_pos, if_neg, Int.toNat_natCast, Int.natCast_zero, Int.reduceToNat, z101, hl2]
  obtain ⟨s', -, k2⟩ := key
  have st : zc 101 5 [.float v] h = zx 101 26 [some (.float v), some (.float (fb e t)), some (.int (Int32.ofInt 127)), some (.int (Int32.ofInt 0)), none] [] h := by
    rw [zc]
    clear k2 hv hvv f3
    generalize fb e t = x at *
    simp (disch := first | omega | (simp (disch := omega) only [zwr_s, zwr_a, zwr_i, zn_put, zn_new, zn_fil, zn_chg, zV_n]; omega)) only [zentry, zs0, zs1, zs2, zs3, zg_lo, zg_st, zg_st2, zg_ald, zg_ast, zs_ia, zs_i0, zcs, zg_ii, zi_max, zi_min, zi_abi, zi_abf, zi_fb, zi_bf, lget, lst, lst2, lc2, Option.map_some, zso, if_true, if_false, zc1, and_true, true_and, and_self, List.length_nil, List.length_cons, Nat.zero_le, reduceIte, reduceCtorEq, false_and, and_false, Bool.false_eq_true, zca_some, zr0, zr100, Option.bind_some, zb_none, zb_some, zrc, or_true, true_or, eq_self, ne_eq, not_true_eq_false, not_false_eq_true, zrt_i, zrt_zb, zrt_b, zrt_c, zrt_l, zrt_f, zrt_r, zrt_n, zrt_v, zft_0, zft_1, zft_zb, zft_3, zft_4, zft_5, zft_7r, zft_7n, iI_t, zb_i, zb_0, zb_1, Nat.reduceAdd, Nat.reduceLeDiff, Nat.reduceEqDiff, Nat.reduceSub, Int.reduceNeg, iI_add, iI_sub, iI_mul, iI_neg, iI_n, zbz, zchar_id, zin, zwr_s, zwr_a, zwr_i, if_pos, if_neg, Int.toNat_natCast, Int.natCast_zero, Int.reduceToNat, z101, heq, hlt, f1]
  rw [st, k2]
  obtain ⟨r1, r2⟩ := fb_frac ht
  have hf2i : FP.f2i (FP.fmul (FP.fsub (fb 127 t) FP.fconst1) 1258291200) = Int32.ofInt (t : Int) := FP.Core.f2i_int (by
    rw [iI_t (by omega)]
    exact r1)
  have z1 := fl_zn r2
  have z2 := fl_zn (fl_int r1)
  have z2 : zn32 (FP.fmul (FP.fsub (fb 127 t) FP.fconst1) 1258291200) := z2
  have hor := fb_or (e := e) (t := t) (by omega) ht
  rw [← hvv] at hor
  have c31 : Int32.ofInt 31 &&& 31 = Int32.ofInt 31 := by decide
  have c23 : Int32.ofInt 23 &&& 31 = Int32.ofInt 23 := by decide
  have cK : UInt32.ofNat 1258291200 = 1258291200 := rfl
  rw [← hor]
  clear st k2 r1 r2 hv hvv f1 f3 hor
  generalize fb 127 t = x at *
  simp (disch := first | omega | (simp (disch := omega) only [zwr_s, zwr_a, zwr_i, zn_put, zn_new, zn_fil, zn_chg, zV_n]; omega)) only [zentry, zs0, zs1, zs2, zs3, zg_lo, zg_st, zg_st2, zg_ald, zg_ast, zs_ia, zs_i0, zg_ii, zi_max, zi_min, zi_abi, zi_abf, zi_fb, zi_bf, lget, lst, lst2, lc2, Option.map_some, zso, if_true, if_false, zc1, and_true, true_and, and_self, List.length_nil, List.length_cons, Nat.zero_le, reduceIte, reduceCtorEq, false_and, and_false, Bool.false_eq_true, zca_some, zr0, zr100, Option.bind_some, zb_none, zb_some, zrc, or_true, true_or, eq_self, ne_eq, not_true_eq_false, not_false_eq_true, zrt_i, zrt_zb, zrt_b, zrt_c, zrt_l, zrt_f, zrt_r, zrt_n, zrt_v, zft_0, zft_1, zft_zb, zft_3, zft_4, zft_5, zft_7r, zft_7n, iI_t, zb_i, zb_0, zb_1, Nat.reduceAdd, Nat.reduceLeDiff, Nat.reduceEqDiff, Nat.reduceSub, Int.reduceNeg, iI_add, iI_sub, iI_mul, iI_neg, zbz, zchar_id, zin, zwr_s, zwr_a, zwr_i, if_pos, if_neg, Int.toNat_natCast, Int.natCast_zero, Int.reduceToNat, z101, hlt, z1, z2, cK, hf2i, c31, c23]

/-! the reference inserts, removes, hangs -/
set_option maxRecDepth 20000 in
theorem m115 {p c md st : Int} {h : zH} {D : zD} (hp : iR p) (hc : iR c) (hmd : 0 ≤ md ∧ md ≤ 65535) (hst : iR st) (h7 : 0 ≤ D 32 7 ∧ D 32 7 ≤ 12) (h15 : 0 ≤ D 32 15 ∧ D 32 15 ≤ 12) (h38 : ∀ i, D 38 i = 0 ∨ D 38 i = 1) (h43 : m43 D) :
    zc 115 7 [.ref 32, .int (Int32.ofInt p), .int (Int32.ofInt c), .int (Int32.ofInt md), .int (Int32.ofInt st)] (zV h D) = some (.inl (some (.int (Int32.ofInt (if qIn D p c md st = 0 then D 32 15 + 1 else 0)))), zV h (if qIn D p c md st = 0 then mInD D p c md st else zwr D 32 32 (qIn D p c md st))) := by
  rw [m115_t hp hc hmd hst h7 h15 h38]
  have hv : 0 ≤ qIn D p c md st ∧ qIn D p c md st ≤ 4 := by
    unfold qIn
    split
    · split
      · omega
      · split
        · split <;> omega
        · omega
    · omega
  by_cases g : qIn D p c md st = 0
  · have hb : (0 ≤ p ∧ p ≤ D 32 15) ∧ D 32 15 < 12 := by
      unfold qIn at g
      split at g
      · rename_i z
        split at g
        · omega
        · split at g
          · split at g
            · omega
            · exact ⟨z.2, by omega⟩
          · omega
      · omega
    rw [if_pos g, if_pos g, g]
    have hloop := zloop (k := 115) (pc := 122) (fun i => [some (.ref 32), some (.int (Int32.ofInt p)), some (.int (Int32.ofInt c)), some (.int (Int32.ofInt md)), some (.int (Int32.ofInt st)), some (.int (Int32.ofInt (zb (mdOk md st)))), some (.int (Int32.ofInt (D 32 15 - (i : Int))))]) (fun i => zV h (mSU (zwr D 32 32 0) ((D 32 15).toNat - i) (D 32 15).toNat)) (D 32 15 - p).toNat (fun i hi => by
      have m := (m43.su (D := zwr D 32 32 0) (fun j => by rw [zwr_a (by omega)]; exact h43 j) ((D 32 15).toNat - i) (D 32 15).toNat) ((D 32 15 - (i : Int) - 1).toNat)
      have e113 := m113 (f := D 32 15 - (i : Int) - 1) (t := D 32 15 - (i : Int)) (h := h) (D := mSU (zwr D 32 32 0) ((D 32 15).toNat - i) (D 32 15).toNat) (by omega) (by omega) m
      rw [mGo_F (by omega) (by omega)] at e113
      have es := mSU_s (D := zwr D 32 32 0) (p := (D 32 15).toNat - (i + 1)) (n := (D 32 15).toNat) (by omega) (by omega)
      rw [show (D 32 15).toNat - (i + 1) + 1 = (D 32 15).toNat - i by omega] at es
      rw [show (D 32 15 - (i : Int) - 1).toNat = (D 32 15).toNat - (i + 1) by omega, show (D 32 15 - (i : Int)).toNat = (D 32 15).toNat - i by omega, es] at e113
      have ee : D 32 15 - (i : Int) + -1 = D 32 15 - ((i + 1 : Nat) : Int) := by omega
      have ee1 : ((i + 1 : Nat) : Int) = (i : Int) + 1 := rfl
      conv => lhs; rw [z115_122]
      clear m es hp hc hst h38 h43 hv g
      generalize mSU (zwr D 32 32 0) ((D 32 15).toNat - i) (D 32 15).toNat = D1 at *
      generalize mSU (zwr D 32 32 0) ((D 32 15).toNat - (i + 1)) (D 32 15).toNat = D2 at *
      generalize zb (mdOk md st) = zz at *
      rw [ee1] at ee
      simp (disch := first | omega | (simp (disch := omega) only [zwr_s, zwr_a, zwr_i, zn_put, zn_new, zn_fil, zn_chg, zV_n]; omega)) only [zentry, zs0, zs1, zs2, zs3, zg_lo, zg_st, zg_st2, zg_ald, zg_ast, zs_ia, zs_i0, zcs, zg_ii, zi_max, zi_min, zi_abi, zi_abf, zi_fb, zi_bf, lget, lst, lst2, lc2, Option.map_some, zso, if_true, if_false, zc1, and_true, true_and, and_self, List.length_nil, List.length_cons, Nat.zero_le, reduceIte, reduceCtorEq, false_and, and_false, Bool.false_eq_true, zca_some, zr0, zr100, Option.bind_some, zb_none, zb_some, zrc, or_true, true_or, eq_self, ne_eq, not_true_eq_false, not_false_eq_true, zrt_i, zrt_zb, zrt_b, zrt_c, zrt_l, zrt_f, zrt_r, zrt_n, zrt_v, zft_0, zft_1, zft_zb, zft_3, zft_4, zft_5, zft_7r, zft_7n, iI_t, zb_i, zb_0, zb_1, Nat.reduceAdd, Nat.reduceLeDiff, Nat.reduceEqDiff, Nat.reduceSub, Int.reduceNeg, iI_add, iI_sub, iI_mul, iI_neg, iI_n, zbz, zchar_id, zin, zwr_s, zwr_a, zwr_i, if_pos, if_neg, Int.toNat_natCast, Int.natCast_zero, Int.reduceToNat, z115, zt3, e113, ee, zc32]) (D 32 15 - p).toNat (Nat.le_refl _)
    have st1 : zx 115 104 [some (.ref 32), some (.int (Int32.ofInt p)), some (.int (Int32.ofInt c)), some (.int (Int32.ofInt md)), some (.int (Int32.ofInt st)), some (.int (Int32.ofInt (zb (mdOk md st)))), none] [.int (Int32.ofInt 0), .ref 32] (zV h D) = zx 115 122 [some (.ref 32), some (.int (Int32.ofInt p)), some (.int (Int32.ofInt c)), some (.int (Int32.ofInt md)), some (.int (Int32.ofInt st)), some (.int (Int32.ofInt (zb (mdOk md st)))), some (.int (Int32.ofInt (D 32 15)))] [] (zV h (zwr D 32 32 0)) := by
      clear hloop hp hc hst h38 h43 hv g
      generalize zb (mdOk md st) = zz at *
      simp (disch := first | omega | (simp (disch := omega) only [zwr_s, zwr_a, zwr_i, zn_put, zn_new, zn_fil, zn_chg, zV_n]; omega)) only [zentry, zs0, zs1, zs2, zs3, zg_lo, zg_st, zg_st2, zg_ald, zg_ast, zs_ia, zs_i0, zcs, zg_ii, zi_max, zi_min, zi_abi, zi_abf, zi_fb, zi_bf, lget, lst, lst2, lc2, Option.map_some, zso, if_true, if_false, zc1, and_true, true_and, and_self, List.length_nil, List.length_cons, Nat.zero_le, reduceIte, reduceCtorEq, false_and, and_false, Bool.false_eq_true, zca_some, zr0, zr100, Option.bind_some, zb_none, zb_some, zrc, or_true, true_or, eq_self, ne_eq, not_true_eq_false, not_false_eq_true, zrt_i, zrt_zb, zrt_b, zrt_c, zrt_l, zrt_f, zrt_r, zrt_n, zrt_v, zft_0, zft_1, zft_zb, zft_3, zft_4, zft_5, zft_7r, zft_7n, iI_t, zb_i, zb_0, zb_1, Nat.reduceAdd, Nat.reduceLeDiff, Nat.reduceEqDiff, Nat.reduceSub, Int.reduceNeg, iI_add, iI_sub, iI_mul, iI_neg, iI_n, zbz, zchar_id, zin, zwr_s, zwr_a, zwr_i, if_pos, if_neg, Int.toNat_natCast, Int.natCast_zero, Int.reduceToNat, z115, zc32]
    have e0 : D 32 15 - ((0 : Nat) : Int) = D 32 15 := by omega
    have e1 : D 32 15 - (((D 32 15 - p).toNat : Nat) : Int) = p := by omega
    have e2 : (D 32 15).toNat - (D 32 15 - p).toNat = p.toNat := by omega
    simp only [e0, e1, e2, Nat.sub_zero, mSU_0] at hloop
    rw [st1, hloop, z115_122]
    unfold mInD
    have d15 : mSU D p.toNat (D 32 15).toNat 32 15 = D 32 15 := mSU_32
    rw [mSU_zw]
    clear hloop hp hc hst h38 h43 hv g st1
    generalize mSU D p.toNat (D 32 15).toNat = D1 at *
    generalize zb (mdOk md st) = zz at *
    simp (disch := first | omega | (simp (disch := omega) only [zwr_s, zwr_a, zwr_i, zn_put, zn_new, zn_fil, zn_chg, zV_n]; omega)) only [zentry, zs0, zs1, zs2, zs3, zg_lo, zg_st, zg_st2, zg_ald, zg_ast, zs_ia, zs_i0, zcs, zg_ii, zi_max, zi_min, zi_abi, zi_abf, zi_fb, zi_bf, lget, lst, lst2, lc2, Option.map_some, zso, if_true, if_false, zc1, and_true, true_and, and_self, List.length_nil, List.length_cons, Nat.zero_le, reduceIte, reduceCtorEq, false_and, and_false, Bool.false_eq_true, zca_some, zr0, zr100, Option.bind_some, zb_none, zb_some, zrc, or_true, true_or, eq_self, ne_eq, not_true_eq_false, not_false_eq_true, zrt_i, zrt_zb, zrt_b, zrt_c, zrt_l, zrt_f, zrt_r, zrt_n, zrt_v, zft_0, zft_1, zft_zb, zft_3, zft_4, zft_5, zft_7r, zft_7n, iI_t, zb_i, zb_0, zb_1, Nat.reduceAdd, Nat.reduceLeDiff, Nat.reduceEqDiff, Nat.reduceSub, Int.reduceNeg, iI_add, iI_sub, iI_mul, iI_neg, iI_n, zbz, zchar_id, zin, zwr_s, zwr_a, zwr_i, if_pos, if_neg, Int.toNat_natCast, Int.natCast_zero, Int.reduceToNat, z115, d15, zc32, zc40, zc41, zc42, zc43, zc57]
  · rw [if_neg g, if_neg g]
    generalize qIn D p c md st = q at *
    generalize zb (mdOk md st) = zz at *
    clear h38 h43
    simp (disch := first | omega | (simp (disch := omega) only [zwr_s, zwr_a, zwr_i, zn_put, zn_new, zn_fil, zn_chg, zV_n]; omega)) only [zentry, zs0, zs1, zs2, zs3, zg_lo, zg_st, zg_st2, zg_ald, zg_ast, zs_ia, zs_i0, zcs, zg_ii, zi_max, zi_min, zi_abi, zi_abf, zi_fb, zi_bf, lget, lst, lst2, lc2, Option.map_some, zso, if_true, if_false, zc1, and_true, true_and, and_self, List.length_nil, List.length_cons, Nat.zero_le, reduceIte, reduceCtorEq, false_and, and_false, Bool.false_eq_true, zca_some, zr0, zr100, Option.bind_some, zb_none, zb_some, zrc, or_true, true_or, eq_self, ne_eq, not_true_eq_false, not_false_eq_true, zrt_i, zrt_zb, zrt_b, zrt_c, zrt_l, zrt_f, zrt_r, zrt_n, zrt_v, zft_0, zft_1, zft_zb, zft_3, zft_4, zft_5, zft_7r, zft_7n, iI_t, zb_i, zb_0, zb_1, Nat.reduceAdd, Nat.reduceLeDiff, Nat.reduceEqDiff, Nat.reduceSub, Int.reduceNeg, iI_add, iI_sub, iI_mul, iI_neg, iI_n, zbz, zchar_id, zin, zwr_s, zwr_a, zwr_i, if_pos, if_neg, Int.toNat_natCast, Int.natCast_zero, Int.reduceToNat, z115, zc32]
def mRmD (D : zD) (p : Int) : zD := zwr (zwr (mSD D p.toNat ((D 32 15).toNat - 1)) 32 32 0) 32 15 (D 32 15 - 1)
theorem mSD_32 {D : zD} {p n i : Nat} : mSD D p n 32 i = D 32 i := by
  unfold mSD
  rw [if_neg (by omega), if_neg (by omega)]
theorem mSD_zw {D : zD} {p n i : Nat} {τ : Int} : mSD (zwr D 32 i τ) p n = zwr (mSD D p n) 32 i τ := by
  funext a j
  by_cases h : a = 32
  · subst h
    rw [mSD_32, zwr_e, zwr_e, mSD_32]
  · rw [zwr_a h]
    unfold mSD
    split
    · rw [zwr_a h]
    · split
      · rw [zwr_a (by omega)]
      · rw [zwr_a h]
set_option maxRecDepth 20000 in
theorem m116 {p : Int} {h : zH} {D : zD} (hp : iR p) (h15 : 0 ≤ D 32 15 ∧ D 32 15 ≤ 12) (h43 : m43 D) :
    zc 116 3 [.ref 32, .int (Int32.ofInt p)] (zV h D) = some (.inl (some (.int (Int32.ofInt (if qEv D p = 0 then D 32 15 - 1 else 0)))), zV h (if qEv D p = 0 then mRmD D p else zwr D 32 32 1)) := by
  have e114 := m114 (c := p) (h := h) (D := D) hp h15
  by_cases g : 0 ≤ p ∧ p ≤ D 32 15 - 1
  · have hq : qEv D p = 0 := if_pos g
    rw [zb_t g] at e114
    rw [if_pos hq, if_pos hq]
    have hloop := zloop (k := 116) (pc := 38) (fun i => [some (.ref 32), some (.int (Int32.ofInt p)), some (.int (Int32.ofInt (p + (i : Int))))]) (fun i => zV h (mSD (zwr (zwr D 32 32 0) 32 15 (D 32 15 - 1)) p.toNat (p.toNat + i))) (D 32 15 - 1 - p).toNat (fun i hi => by
      have m := (m43.sd (D := zwr (zwr D 32 32 0) 32 15 (D 32 15 - 1)) (fun j => by rw [zwr_a (by omega), zwr_a (by omega)]; exact h43 j) p.toNat (p.toNat + i)) ((p + (i : Int) + 1).toNat)
      have e113 := m113 (f := p + (i : Int) + 1) (t := p + (i : Int)) (h := h) (D := mSD (zwr (zwr D 32 32 0) 32 15 (D 32 15 - 1)) p.toNat (p.toNat + i)) (by omega) (by omega) m
      rw [mGo_F (by omega) (by omega)] at e113
      have es := mSD_s (D := zwr (zwr D 32 32 0) 32 15 (D 32 15 - 1)) (p := p.toNat) (q := p.toNat + i) (by omega) (by omega)
      rw [show (p + (i : Int) + 1).toNat = p.toNat + i + 1 by omega, show (p + (i : Int)).toNat = p.toNat + i by omega, es] at e113
      have ee : p + (i : Int) + 1 = p + ((i + 1 : Nat) : Int) := by omega
      have ee1 : ((i + 1 : Nat) : Int) = (i : Int) + 1 := rfl
      have d15 : mSD (zwr (zwr D 32 32 0) 32 15 (D 32 15 - 1)) p.toNat (p.toNat + i) 32 15 = D 32 15 - 1 := by rw [mSD_32, zwr_s]
      conv => lhs; rw [z116_38]
      clear m es hp h43
      rw [show p.toNat + (i + 1) = p.toNat + i + 1 by omega]
      generalize mSD (zwr (zwr D 32 32 0) 32 15 (D 32 15 - 1)) p.toNat (p.toNat + i) = D1 at *
      generalize mSD (zwr (zwr D 32 32 0) 32 15 (D 32 15 - 1)) p.toNat (p.toNat + i + 1) = D2 at *
      rw [ee1] at ee
      rw [ee] at e113
      simp (disch := first | omega | (simp (disch := omega) only [zwr_s, zwr_a, zwr_i, zn_put, zn_new, zn_fil, zn_chg, zV_n]; omega)) only [zentry, zs0, zs1, zs2, zs3, zg_lo, zg_st, zg_st2, zg_ald, zg_ast, zs_ia, zs_i0, zcs, zg_ii, zi_max, zi_min, zi_abi, zi_abf, zi_fb, zi_bf, lget, lst, lst2, lc2, Option.map_some, zso, if_true, if_false, zc1, and_true, true_and, and_self, List.length_nil, List.length_cons, Nat.zero_le, reduceIte, reduceCtorEq, false_and, and_false, Bool.false_eq_true, zca_some, zr0, zr100, Option.bind_some, zb_none, zb_some, zrc, or_true, true_or, eq_self, ne_eq, not_true_eq_false, not_false_eq_true, zrt_i, zrt_zb, zrt_b, zrt_c, zrt_l, zrt_f, zrt_r, zrt_n, zrt_v, zft_0, zft_1, zft_zb, zft_3, zft_4, zft_5, zft_7r, zft_7n, iI_t, zb_i, zb_0, zb_1, Nat.reduceAdd, Nat.reduceLeDiff, Nat.reduceEqDiff, Nat.reduceSub, Int.reduceNeg, iI_add, iI_sub, iI_mul, iI_neg, iI_n, zbz, zchar_id, zin, zwr_s, zwr_a, zwr_i, if_pos, if_neg, Int.toNat_natCast, Int.natCast_zero, Int.reduceToNat, z116, zt3, e113, d15, ee, zc32]) (D 32 15 - 1 - p).toNat (Nat.le_refl _)
    have st1 : zc 116 3 [.ref 32, .int (Int32.ofInt p)] (zV h D) = zx 116 38 [some (.ref 32), some (.int (Int32.ofInt p)), some (.int (Int32.ofInt p))] [] (zV h (zwr (zwr D 32 32 0) 32 15 (D 32 15 - 1))) := by
      rw [zc]
      clear hloop hp h43
      simp (disch := first | omega | (simp (disch := omega) only [zwr_s, zwr_a, zwr_i, zn_put, zn_new, zn_fil, zn_chg, zV_n]; omega)) only [zentry, zs0, zs1, zs2, zs3, zg_lo, zg_st, zg_st2, zg_ald, zg_ast, zs_ia, zs_i0, zcs, zg_ii, zi_max, zi_min, zi_abi, zi_abf, zi_fb, zi_bf, lget, lst, lst2, lc2, Option.map_some, zso, if_true, if_false, zc1, and_true, true_and, and_self, List.length_nil, List.length_cons, Nat.zero_le, reduceIte, reduceCtorEq, false_and, and_false, Bool.false_eq_true, zca_some, zr0, zr100, Option.bind_some, zb_none, zb_some, zrc, or_true, true_or, eq_self, ne_eq, not_true_eq_false, not_false_eq_true, zrt_i, zrt_zb, zrt_b, zrt_c, zrt_l, zrt_f, zrt_r, zrt_n, zrt_v, zft_0, zft_1, zft_zb, zft_3, zft_4, zft_5, zft_7r, zft_7n, iI_t, zb_i, zb_0, zb_1, Nat.reduceAdd, Nat.reduceLeDiff, Nat.reduceEqDiff, Nat.reduceSub, Int.reduceNeg, iI_add, iI_sub, iI_mul, iI_neg, iI_n, zbz, zchar_id, zin, zwr_s, zwr_a, zwr_i, if_pos, if_neg, Int.toNat_natCast, Int.natCast_zero, Int.reduceToNat, z116, e114, zt2, zc32]
    have e0 : p + ((0 : Nat) : Int) = p := by omega
    have e1 : p + (((D 32 15 - 1 - p).toNat : Nat) : Int) = D 32 15 - 1 := by omega
    have e2 : p.toNat + (D 32 15 - 1 - p).toNat = (D 32 15).toNat - 1 := by omega
    simp only [e0, e1, e2, Nat.add_zero, mSD_0] at hloop
    rw [st1, hloop, z116_38]
    unfold mRmD
    rw [mSD_zw, mSD_zw]
    clear hloop hp h43 st1
    generalize mSD D p.toNat ((D 32 15).toNat - 1) = D1 at *
    simp (disch := first | omega | (simp (disch := omega) only [zwr_s, zwr_a, zwr_i, zn_put, zn_new, zn_fil, zn_chg, zV_n]; omega)) only [zentry, zs0, zs1, zs2, zs3, zg_lo, zg_st, zg_st2, zg_ald, zg_ast, zs_ia, zs_i0, zcs, zg_ii, zi_max, zi_min, zi_abi, zi_abf, zi_fb, zi_bf, lget, lst, lst2, lc2, Option.map_some, zso, if_true, if_false, zc1, and_true, true_and, and_self, List.length_nil, List.length_cons, Nat.zero_le, reduceIte, reduceCtorEq, false_and, and_false, Bool.false_eq_true, zca_some, zr0, zr100, Option.bind_some, zb_none, zb_some, zrc, or_true, true_or, eq_self, ne_eq, not_true_eq_false, not_false_eq_true, zrt_i, zrt_zb, zrt_b, zrt_c, zrt_l, zrt_f, zrt_r, zrt_n, zrt_v, zft_0, zft_1, zft_zb, zft_3, zft_4, zft_5, zft_7r, zft_7n, iI_t, zb_i, zb_0, zb_1, Nat.reduceAdd, Nat.reduceLeDiff, Nat.reduceEqDiff, Nat.reduceSub, Int.reduceNeg, iI_add, iI_sub, iI_mul, iI_neg, iI_n, zbz, zchar_id, zin, zwr_s, zwr_a, zwr_i, if_pos, if_neg, Int.toNat_natCast, Int.natCast_zero, Int.reduceToNat, z116, zc32]
  · have hq : ¬ qEv D p = 0 := by unfold qEv; rw [if_neg g]; omega
    rw [zb_f g] at e114
    rw [if_neg hq, if_neg hq, zc]
    clear h43
    simp (disch := first | omega | (simp (disch := omega) only [zwr_s, zwr_a, zwr_i, zn_put, zn_new, zn_fil, zn_chg, zV_n]; omega)) only [zentry, zs0, zs1, zs2, zs3, zg_lo, zg_st, zg_st2, zg_ald, zg_ast, zs_ia, zs_i0, zcs, zg_ii, zi_max, zi_min, zi_abi, zi_abf, zi_fb, zi_bf, lget, lst, lst2, lc2, Option.map_some, zso, if_true, if_false, zc1, and_true, true_and, and_self, List.length_nil, List.length_cons, Nat.zero_le, reduceIte, reduceCtorEq, false_and, and_false, Bool.false_eq_true, zca_some, zr0, zr100, Option.bind_some, zb_none, zb_some, zrc, or_true, true_or, eq_self, ne_eq, not_true_eq_false, not_false_eq_true, zrt_i, zrt_zb, zrt_b, zrt_c, zrt_l, zrt_f, zrt_r, zrt_n, zrt_v, zft_0, zft_1, zft_zb, zft_3, zft_4, zft_5, zft_7r, zft_7n, iI_t, zb_i, zb_0, zb_1, Nat.reduceAdd, Nat.reduceLeDiff, Nat.reduceEqDiff, Nat.reduceSub, Int.reduceNeg, iI_add, iI_sub, iI_mul, iI_neg, iI_n, zbz, zchar_id, zin, zwr_s, zwr_a, zwr_i, if_pos, if_neg, Int.toNat_natCast, Int.natCast_zero, Int.reduceToNat, z116, e114, zt2, zc32]
abbrev sdOk (sd o l : Int) : Prop := (sd = 115 ∨ sd = 101) ∧ (0 ≤ o ∧ o ≤ 900) ∧ (1 ≤ l ∧ l ≤ 900)
def qAt (D : zD) (p sd o l : Int) : Int := if 0 ≤ p ∧ p ≤ D 32 15 - 1 then (if sdOk sd o l then (if D 57 p.toNat = 3 then 3 else 0) else 2) else 1
def mAtD (D : zD) (p sd o l : Int) : zD := zwr (zwr (zwr (zwr (zwr D 32 32 0) (45 + p.toNat) (3 * (D 57 p.toNat).toNat) (if sd = 115 then 0 else 1)) (45 + p.toNat) (3 * (D 57 p.toNat).toNat + 1) o) (45 + p.toNat) (3 * (D 57 p.toNat).toNat + 2) l) 57 p.toNat (D 57 p.toNat + 1)
set_option maxRecDepth 20000 in
theorem m119 {p sd o l : Int} {h : zH} {D : zD} (hp : iR p) (hsd : 0 ≤ sd ∧ sd ≤ 65535) (ho : iR o) (hl : iR l) (h15 : 0 ≤ D 32 15 ∧ D 32 15 ≤ 12) (hH : mHg D) :
    zc 119 7 [.ref 32, .int (Int32.ofInt p), .int (Int32.ofInt sd), .int (Int32.ofInt o), .int (Int32.ofInt l)] (zV h D) = some (.inl (some (.int (Int32.ofInt (if qAt D p sd o l = 0 then D 57 p.toNat + 1 else 0)))), zV h (if qAt D p sd o l = 0 then mAtD D p sd o l else zwr D 32 32 (qAt D p sd o l))) := by
  have e114 := m114 (c := p) (h := h) (D := D) hp h15
  have m1 : zc 119 7 [.ref 32, .int (Int32.ofInt p), .int (Int32.ofInt sd), .int (Int32.ofInt o), .int (Int32.ofInt l)] (zV h D) = zx 119 40 [some (.ref 32), some (.int (Int32.ofInt p)), some (.int (Int32.ofInt sd)), some (.int (Int32.ofInt o)), some (.int (Int32.ofInt l)), none, none] [.int (Int32.ofInt (zb (sdOk sd o l)))] (zV h D) := by
    rw [zc]
    clear e114 hH
    by_cases g0 : sd = 115 ∨ sd = 101
    · by_cases g1 : 0 ≤ o ∧ o ≤ 900
      · by_cases g2 : 1 ≤ l ∧ l ≤ 900
        · rw [zb_t ⟨g0, g1, g2⟩]
          rcases g0 with rfl | rfl
          · simp (disch := first | omega | (simp (disch := omega) only [zwr_s, zwr_a, zwr_i, zn_put, zn_new, zn_fil, zn_chg, zV_n]; omega)) only [zentry, zs0, zs1, zs2, zs3, zg_lo, zg_st, zg_st2, zg_ald, zg_ast, zs_ia, zs_i0, zcs, zg_ii, zi_max, zi_min, zi_abi, zi_abf, zi_fb, zi_bf, lget, lst, lst2, lc2, Option.map_some, zso, if_true, if_false, zc1, and_true, true_and, and_self, List.length_nil, List.length_cons, Nat.zero_le, reduceIte, reduceCtorEq, false_and, and_false, Bool.false_eq_true, zca_some, zr0, zr100, Option.bind_some, zb_none, zb_some, zrc, or_true, true_or, eq_self, ne_eq, not_true_eq_false, not_false_eq_true, zrt_i, zrt_zb, zrt_b, zrt_c, zrt_l, zrt_f, zrt_r, zrt_n, zrt_v, zft_0, zft_1, zft_zb, zft_3, zft_4, zft_5, zft_7r, zft_7n, iI_t, zb_i, zb_0, zb_1, Nat.reduceAdd, Nat.reduceLeDiff, Nat.reduceEqDiff, Nat.reduceSub, Int.reduceNeg, iI_add, iI_sub, iI_mul, iI_neg, iI_n, zbz, zchar_id, zin, zwr_s, zwr_a, zwr_i, if_pos, if_neg, Int.toNat_natCast, Int.natCast_zero, Int.reduceToNat, z119, zt3, m105, zb_t]
          · simp (disch := first | omega | (simp (disch := omega) only [zwr_s, zwr_a, zwr_i, zn_put, zn_new, zn_fil, zn_chg, zV_n]; omega)) only [zentry, zs0, zs1, zs2, zs3, zg_lo, zg_st, zg_st2, zg_ald, zg_ast, zs_ia, zs_i0, zcs, zg_ii, zi_max, zi_min, zi_abi, zi_abf, zi_fb, zi_bf, lget, lst, lst2, lc2, Option.map_some, zso, if_true, if_false, zc1, and_true, true_and, and_self, List.length_nil, List.length_cons, Nat.zero_le, reduceIte, reduceCtorEq, false_and, and_false, Bool.false_eq_true, zca_some, zr0, zr100, Option.bind_some, zb_none, zb_some, zrc, or_true, true_or, eq_self, ne_eq, not_true_eq_false, not_false_eq_true, zrt_i, zrt_zb, zrt_b, zrt_c, zrt_l, zrt_f, zrt_r, zrt_n, zrt_v, zft_0, zft_1, zft_zb, zft_3, zft_4, zft_5, zft_7r, zft_7n, iI_t, zb_i, zb_0, zb_1, Nat.reduceAdd, Nat.reduceLeDiff, Nat.reduceEqDiff, Nat.reduceSub, Int.reduceNeg, iI_add, iI_sub, iI_mul, iI_neg, iI_n, zbz, zchar_id, zin, zwr_s, zwr_a, zwr_i, if_pos, if_neg, Int.toNat_natCast, Int.natCast_zero, Int.reduceToNat, z119, zt3, m105, zb_t]
        · rw [zb_f (fun q => g2 q.2.2)]
          rcases g0 with rfl | rfl
          · simp (disch := first | omega | (simp (disch := omega) only [zwr_s, zwr_a, zwr_i, zn_put, zn_new, zn_fil, zn_chg, zV_n]; omega)) only [zentry, zs0, zs1, zs2, zs3, zg_lo, zg_st, zg_st2, zg_ald, zg_ast, zs_ia, zs_i0, zcs, zg_ii, zi_max, zi_min, zi_abi, zi_abf, zi_fb, zi_bf, lget, lst, lst2, lc2, Option.map_some, zso, if_true, if_false, zc1, and_true, true_and, and_self, List.length_nil, List.length_cons, Nat.zero_le, reduceIte, reduceCtorEq, false_and, and_false, Bool.false_eq_true, zca_some, zr0, zr100, Option.bind_some, zb_none, zb_some, zrc, or_true, true_or, eq_self, ne_eq, not_true_eq_false, not_false_eq_true, zrt_i, zrt_zb, zrt_b, zrt_c, zrt_l, zrt_f, zrt_r, zrt_n, zrt_v, zft_0, zft_1, zft_zb, zft_3, zft_4, zft_5, zft_7r, zft_7n, iI_t, zb_i, zb_0, zb_1, Nat.reduceAdd, Nat.reduceLeDiff, Nat.reduceEqDiff, Nat.reduceSub, Int.reduceNeg, iI_add, iI_sub, iI_mul, iI_neg, iI_n, zbz, zchar_id, zin, zwr_s, zwr_a, zwr_i, if_pos, if_neg, Int.toNat_natCast, Int.natCast_zero, Int.reduceToNat, z119, zt3, m105, zb_t, zb_f]
          · simp (disch := first | omega | (simp (disch := omega) only [zwr_s, zwr_a, zwr_i, zn_put, zn_new, zn_fil, zn_chg, zV_n]; omega)) only [zentry, zs0, zs1, zs2, zs3, zg_lo, zg_st, zg_st2, zg_ald, zg_ast, zs_ia, zs_i0, zcs, zg_ii, zi_max, zi_min, zi_abi, zi_abf, zi_fb, zi_bf, lget, lst, lst2, lc2, Option.map_some, zso, if_true, if_false, zc1, and_true, true_and, and_self, List.length_nil, List.length_cons, Nat.zero_le, reduceIte, reduceCtorEq, false_and, and_false, Bool.false_eq_true, zca_some, zr0, zr100, Option.bind_some, zb_none, zb_some, zrc, or_true, true_or, eq_self, ne_eq, not_true_eq_false, not_false_eq_true, zrt_i, zrt_zb, zrt_b, zrt_c, zrt_l, zrt_f, zrt_r, zrt_n, zrt_v, zft_0, zft_1, zft_zb, zft_3, zft_4, zft_5, zft_7r, zft_7n, iI_t, zb_i, zb_0, zb_1, Nat.reduceAdd, Nat.reduceLeDiff, Nat.reduceEqDiff, Nat.reduceSub, Int.reduceNeg, iI_add, iI_sub, iI_mul, iI_neg, iI_n, zbz, zchar_id, zin, zwr_s, zwr_a, zwr_i, if_pos, if_neg, Int.toNat_natCast, Int.natCast_zero, Int.reduceToNat, z119, zt3, m105, zb_t, zb_f]
      · rw [zb_f (fun q => g1 q.2.1)]
        rcases g0 with rfl | rfl
        · simp (disch := first | omega | (simp (disch := omega) only [zwr_s, zwr_a, zwr_i, zn_put, zn_new, zn_fil, zn_chg, zV_n]; omega)) only [zentry, zs0, zs1, zs2, zs3, zg_lo, zg_st, zg_st2, zg_ald, zg_ast, zs_ia, zs_i0, zcs, zg_ii, zi_max, zi_min, zi_abi, zi_abf, zi_fb, zi_bf, lget, lst, lst2, lc2, Option.map_some, zso, if_true, if_false, zc1, and_true, true_and, and_self, List.length_nil, List.length_cons, Nat.zero_le, reduceIte, reduceCtorEq, false_and, and_false, Bool.false_eq_true, zca_some, zr0, zr100, Option.bind_some, zb_none, zb_some, zrc, or_true, true_or, eq_self, ne_eq, not_true_eq_false, not_false_eq_true, zrt_i, zrt_zb, zrt_b, zrt_c, zrt_l, zrt_f, zrt_r, zrt_n, zrt_v, zft_0, zft_1, zft_zb, zft_3, zft_4, zft_5, zft_7r, zft_7n, iI_t, zb_i, zb_0, zb_1, Nat.reduceAdd, Nat.reduceLeDiff, Nat.reduceEqDiff, Nat.reduceSub, Int.reduceNeg, iI_add, iI_sub, iI_mul, iI_neg, iI_n, zbz, zchar_id, zin, zwr_s, zwr_a, zwr_i, if_pos, if_neg, Int.toNat_natCast, Int.natCast_zero, Int.reduceToNat, z119, zt3, m105, zb_f]
        · simp (disch := first | omega | (simp (disch := omega) only [zwr_s, zwr_a, zwr_i, zn_put, zn_new, zn_fil, zn_chg, zV_n]; omega)) only [zentry, zs0, zs1, zs2, zs3, zg_lo, zg_st, zg_st2, zg_ald, zg_ast, zs_ia, zs_i0, zcs, zg_ii, zi_max, zi_min, zi_abi, zi_abf, zi_fb, zi_bf, lget, lst, lst2, lc2, Option.map_some, zso, if_true, if_false, zc1, and_true, true_and, and_self, List.length_nil, List.length_cons, Nat.zero_le, reduceIte, reduceCtorEq, false_and, and_false, Bool.false_eq_true, zca_some, zr0, zr100, Option.bind_some, zb_none, zb_some, zrc, or_true, true_or, eq_self, ne_eq, not_true_eq_false, not_false_eq_true, zrt_i, zrt_zb, zrt_b, zrt_c, zrt_l, zrt_f, zrt_r, zrt_n, zrt_v, zft_0, zft_1, zft_zb, zft_3, zft_4, zft_5, zft_7r, zft_7n, iI_t, zb_i, zb_0, zb_1, Nat.reduceAdd, Nat.reduceLeDiff, Nat.reduceEqDiff, Nat.reduceSub, Int.reduceNeg, iI_add, iI_sub, iI_mul, iI_neg, iI_n, zbz, zchar_id, zin, zwr_s, zwr_a, zwr_i, if_pos, if_neg, Int.toNat_natCast, Int.natCast_zero, Int.reduceToNat, z119, zt3, m105, zb_f]
    · rw [zb_f (fun q => g0 q.1)]
      simp (disch := first | omega | (simp (disch := omega) only [zwr_s, zwr_a, zwr_i, zn_put, zn_new, zn_fil, zn_chg, zV_n]; omega)) only [zentry, zs0, zs1, zs2, zs3, zg_lo, zg_st, zg_st2, zg_ald, zg_ast, zs_ia, zs_i0, zcs, zg_ii, zi_max, zi_min, zi_abi, zi_abf, zi_fb, zi_bf, lget, lst, lst2, lc2, Option.map_some, zso, if_true, if_false, zc1, and_true, true_and, and_self, List.length_nil, List.length_cons, Nat.zero_le, reduceIte, reduceCtorEq, false_and, and_false, Bool.false_eq_true, zca_some, zr0, zr100, Option.bind_some, zb_none, zb_some, zrc, or_true, true_or, eq_self, ne_eq, not_true_eq_false, not_false_eq_true, zrt_i, zrt_zb, zrt_b, zrt_c, zrt_l, zrt_f, zrt_r, zrt_n, zrt_v, zft_0, zft_1, zft_zb, zft_3, zft_4, zft_5, zft_7r, zft_7n, iI_t, zb_i, zb_0, zb_1, Nat.reduceAdd, Nat.reduceLeDiff, Nat.reduceEqDiff, Nat.reduceSub, Int.reduceNeg, iI_add, iI_sub, iI_mul, iI_neg, iI_n, zbz, zchar_id, zin, zwr_s, zwr_a, zwr_i, if_pos, if_neg, Int.toNat_natCast, Int.natCast_zero, Int.reduceToNat, z119]
  rw [m1]
  clear m1
  by_cases g : 0 ≤ p ∧ p ≤ D 32 15 - 1
  · obtain ⟨c1, -⟩ := hH p.toNat (by omega)
    rw [zb_t g] at e114
    clear hH
    by_cases g1 : sdOk sd o l
    · rw [zb_t g1]
      by_cases g2 : D 57 p.toNat = 3
      · have hq : qAt D p sd o l = 3 := by unfold qAt; rw [if_pos g, if_pos g1, if_pos g2]
        rw [hq, if_neg (by omega), if_neg (by omega)]
        clear g1
        simp (disch := first | omega | (simp (disch := omega) only [zwr_s, zwr_a, zwr_i, zn_put, zn_new, zn_fil, zn_chg, zV_n]; omega)) only [zentry, zs0, zs1, zs2, zs3, zg_lo, zg_st, zg_st2, zg_ald, zg_ast, zs_ia, zs_i0, zcs, zg_ii, zi_max, zi_min, zi_abi, zi_abf, zi_fb, zi_bf, lget, lst, lst2, lc2, Option.map_some, zso, if_true, if_false, zc1, and_true, true_and, and_self, List.length_nil, List.length_cons, Nat.zero_le, reduceIte, reduceCtorEq, false_and, and_false, Bool.false_eq_true, zca_some, zr0, zr100, Option.bind_some, zb_none, zb_some, zrc, or_true, true_or, eq_self, ne_eq, not_true_eq_false, not_false_eq_true, zrt_i, zrt_zb, zrt_b, zrt_c, zrt_l, zrt_f, zrt_r, zrt_n, zrt_v, zft_0, zft_1, zft_zb, zft_3, zft_4, zft_5, zft_7r, zft_7n, iI_t, zb_i, zb_0, zb_1, Nat.reduceAdd, Nat.reduceLeDiff, Nat.reduceEqDiff, Nat.reduceSub, Int.reduceNeg, iI_add, iI_sub, iI_mul, iI_neg, iI_n, zbz, zchar_id, zin, zwr_s, zwr_a, zwr_i, if_pos, if_neg, Int.toNat_natCast, Int.natCast_zero, Int.reduceToNat, z119, e114, zt2, g2, zc32, zc57]
      · have hq : qAt D p sd o l = 0 := by unfold qAt; rw [if_pos g, if_pos g1, if_neg g2]
        rw [hq, if_pos rfl, if_pos rfl]
        unfold mAtD
        have e0 : ((3 : Int) * D 57 p.toNat).toNat = 3 * (D 57 p.toNat).toNat := by omega
        have e1 : ((3 : Int) * D 57 p.toNat + 1).toNat = 3 * (D 57 p.toNat).toNat + 1 := by omega
        have e2 : ((3 : Int) * D 57 p.toNat + 2).toNat = 3 * (D 57 p.toNat).toNat + 2 := by omega
        clear g1
        by_cases g3 : sd = 115
        · rw [if_pos g3]
          simp (disch := first | omega | (simp (disch := omega) only [zwr_s, zwr_a, zwr_i, zn_put, zn_new, zn_fil, zn_chg, zV_n]; omega)) only [zentry, zs0, zs1, zs2, zs3, zg_lo, zg_st, zg_st2, zg_ald, zg_ast, zs_ia, zs_i0, zcs, zg_ii, zi_max, zi_min, zi_abi, zi_abf, zi_fb, zi_bf, lget, lst, lst2, lc2, Option.map_some, zso, if_true, if_false, zc1, and_true, true_and, and_self, List.length_nil, List.length_cons, Nat.zero_le, reduceIte, reduceCtorEq, false_and, and_false, Bool.false_eq_true, zca_some, zr0, zr100, Option.bind_some, zb_none, zb_some, zrc, or_true, true_or, eq_self, ne_eq, not_true_eq_false, not_false_eq_true, zrt_i, zrt_zb, zrt_b, zrt_c, zrt_l, zrt_f, zrt_r, zrt_n, zrt_v, zft_0, zft_1, zft_zb, zft_3, zft_4, zft_5, zft_7r, zft_7n, iI_t, zb_i, zb_0, zb_1, Nat.reduceAdd, Nat.reduceLeDiff, Nat.reduceEqDiff, Nat.reduceSub, Int.reduceNeg, iI_add, iI_sub, iI_mul, iI_neg, iI_n, zbz, zchar_id, zin, zwr_s, zwr_a, zwr_i, if_pos, if_neg, Int.toNat_natCast, Int.natCast_zero, Int.reduceToNat, z119, e114, zt2, e0, e1, e2, zc32, zc57, zc44, zc44r, zcR_k, zcR_l, zcR_m, zcR_p]
        · rw [if_neg g3]
          simp (disch := first | omega | (simp (disch := omega) only [zwr_s, zwr_a, zwr_i, zn_put, zn_new, zn_fil, zn_chg, zV_n]; omega)) only [zentry, zs0, zs1, zs2, zs3, zg_lo, zg_st, zg_st2, zg_ald, zg_ast, zs_ia, zs_i0, zcs, zg_ii, zi_max, zi_min, zi_abi, zi_abf, zi_fb, zi_bf, lget, lst, lst2, lc2, Option.map_some, zso, if_true, if_false, zc1, and_true, true_and, and_self, List.length_nil, List.length_cons, Nat.zero_le, reduceIte, reduceCtorEq, false_and, and_false, Bool.false_eq_true, zca_some, zr0, zr100, Option.bind_some, zb_none, zb_some, zrc, or_true, true_or, eq_self, ne_eq, not_true_eq_false, not_false_eq_true, zrt_i, zrt_zb, zrt_b, zrt_c, zrt_l, zrt_f, zrt_r, zrt_n, zrt_v, zft_0, zft_1, zft_zb, zft_3, zft_4, zft_5, zft_7r, zft_7n, iI_t, zb_i, zb_0, zb_1, Nat.reduceAdd, Nat.reduceLeDiff, Nat.reduceEqDiff, Nat.reduceSub, Int.reduceNeg, iI_add, iI_sub, iI_mul, iI_neg, iI_n, zbz, zchar_id, zin, zwr_s, zwr_a, zwr_i, if_pos, if_neg, Int.toNat_natCast, Int.natCast_zero, Int.reduceToNat, z119, e114, zt2, e0, e1, e2, zc32, zc57, zc44, zc44r, zcR_k, zcR_l, zcR_m, zcR_p]
    · have hq : qAt D p sd o l = 2 := by unfold qAt; rw [if_pos g, if_neg g1]
      rw [zb_f g1, hq, if_neg (by omega), if_neg (by omega)]
      clear g1
      simp (disch := first | omega | (simp (disch := omega) only [zwr_s, zwr_a, zwr_i, zn_put, zn_new, zn_fil, zn_chg, zV_n]; omega)) only [zentry, zs0, zs1, zs2, zs3, zg_lo, zg_st, zg_st2, zg_ald, zg_ast, zs_ia, zs_i0, zcs, zg_ii, zi_max, zi_min, zi_abi, zi_abf, zi_fb, zi_bf, lget, lst, lst2, lc2, Option.map_some, zso, if_true, if_false, zc1, and_true, true_and, and_self, List.length_nil, List.length_cons, Nat.zero_le, reduceIte, reduceCtorEq, false_and, and_false, Bool.false_eq_true, zca_some, zr0, zr100, Option.bind_some, zb_none, zb_some, zrc, or_true, true_or, eq_self, ne_eq, not_true_eq_false, not_false_eq_true, zrt_i, zrt_zb, zrt_b, zrt_c, zrt_l, zrt_f, zrt_r, zrt_n, zrt_v, zft_0, zft_1, zft_zb, zft_3, zft_4, zft_5, zft_7r, zft_7n, iI_t, zb_i, zb_0, zb_1, Nat.reduceAdd, Nat.reduceLeDiff, Nat.reduceEqDiff, Nat.reduceSub, Int.reduceNeg, iI_add, iI_sub, iI_mul, iI_neg, iI_n, zbz, zchar_id, zin, zwr_s, zwr_a, zwr_i, if_pos, if_neg, Int.toNat_natCast, Int.natCast_zero, Int.reduceToNat, z119, e114, zt2, zc32, zc57]
  · have hq : qAt D p sd o l = 1 := by unfold qAt; rw [if_neg g]
    rw [zb_f g] at e114
    clear hH
    rw [hq, if_neg (by omega), if_neg (by omega)]
    generalize zb (sdOk sd o l) = zz at *
    simp (disch := first | omega | (simp (disch := omega) only [zwr_s, zwr_a, zwr_i, zn_put, zn_new, zn_fil, zn_chg, zV_n]; omega)) only [zentry, zs0, zs1, zs2, zs3, zg_lo, zg_st, zg_st2, zg_ald, zg_ast, zs_ia, zs_i0, zcs, zg_ii, zi_max, zi_min, zi_abi, zi_abf, zi_fb, zi_bf, lget, lst, lst2, lc2, Option.map_some, zso, if_true, if_false, zc1, and_true, true_and, and_self, List.length_nil, List.length_cons, Nat.zero_le, reduceIte, reduceCtorEq, false_and, and_false, Bool.false_eq_true, zca_some, zr0, zr100, Option.bind_some, zb_none, zb_some, zrc, or_true, true_or, eq_self, ne_eq, not_true_eq_false, not_false_eq_true, zrt_i, zrt_zb, zrt_b, zrt_c, zrt_l, zrt_f, zrt_r, zrt_n, zrt_v, zft_0, zft_1, zft_zb, zft_3, zft_4, zft_5, zft_7r, zft_7n, iI_t, zb_i, zb_0, zb_1, Nat.reduceAdd, Nat.reduceLeDiff, Nat.reduceEqDiff, Nat.reduceSub, Int.reduceNeg, iI_add, iI_sub, iI_mul, iI_neg, iI_n, zbz, zchar_id, zin, zwr_s, zwr_a, zwr_i, if_pos, if_neg, Int.toNat_natCast, Int.natCast_zero, Int.reduceToNat, z119, e114, zt2, zc32]

/-! the reference changes its list -/
/-- an event's cells go from one place to another -/
def mGoF (D : zD) (f t : Nat) : zD := fun a i => if (a = 40 ∨ a = 41 ∨ a = 42 ∨ a = 43 ∨ a = 57) ∧ i = t then D a f else if a = 45 + t ∧ i < 9 then D (45 + f) i else D a i
theorem mGo_F {D : zD} {f t : Nat} (hf : f < 12) (ht : t < 12) : mGo D f t = mGoF D f t := by
  funext a i
  unfold mGo mGoF mCp
  by_cases h1 : a = 45 + t ∧ i < 9
  · rw [if_pos h1, if_neg (by omega), if_pos h1]
    have e : 45 + f ≠ 40 ∧ 45 + f ≠ 41 ∧ 45 + f ≠ 42 ∧ 45 + f ≠ 43 ∧ 45 + f ≠ 57 := by omega
    rw [zwr_a e.2.2.2.2, zwr_a e.2.2.2.1, zwr_a e.2.2.1, zwr_a e.2.1, zwr_a e.1]
  · rw [if_neg h1]
    simp only [zwr_e]
    by_cases g5 : a = 57 ∧ i = t
    · rw [if_pos g5, if_pos (by omega), g5.1]
    · rw [if_neg g5]
      by_cases g4 : a = 43 ∧ i = t
      · rw [if_pos g4, if_pos (by omega), g4.1]
      · rw [if_neg g4]
        by_cases g3 : a = 42 ∧ i = t
        · rw [if_pos g3, if_pos (by omega), g3.1]
        · rw [if_neg g3]
          by_cases g2 : a = 41 ∧ i = t
          · rw [if_pos g2, if_pos (by omega), g2.1]
          · rw [if_neg g2]
            by_cases g1 : a = 40 ∧ i = t
            · rw [if_pos g1, if_pos (by omega), g1.1]
            · rw [if_neg g1, if_neg (by omega), if_neg h1]
/-- all events from p + 1 to n are those one place ahead -/
def mSU (D : zD) (p n : Nat) : zD := fun a i => if (a = 40 ∨ a = 41 ∨ a = 42 ∨ a = 43 ∨ a = 57) ∧ p < i ∧ i ≤ n then D a (i - 1) else if (45 + p < a ∧ a ≤ 45 + n) ∧ i < 9 then D (a - 1) i else D a i
theorem mSU_s {D : zD} {p n : Nat} (hn : n < 12) (hp : p < n) : mGoF (mSU D (p + 1) n) p (p + 1) = mSU D p n := by
  funext a i
  unfold mGoF mSU
  by_cases h1 : (a = 40 ∨ a = 41 ∨ a = 42 ∨ a = 43 ∨ a = 57) ∧ i = p + 1
  · rw [if_pos h1, if_neg (by omega), if_neg (by omega), if_pos (by omega), show i - 1 = p by omega]
  · rw [if_neg h1]
    by_cases h2 : a = 45 + (p + 1) ∧ i < 9
    · rw [if_pos h2, if_neg (by omega), if_neg (by omega), if_neg (by omega), if_pos (by omega), show a - 1 = 45 + p by omega]
    · rw [if_neg h2]
      by_cases h3 : (a = 40 ∨ a = 41 ∨ a = 42 ∨ a = 43 ∨ a = 57) ∧ p + 1 < i ∧ i ≤ n
      · rw [if_pos h3, if_pos (by omega)]
      · rw [if_neg h3]
        by_cases h4 : (45 + (p + 1) < a ∧ a ≤ 45 + n) ∧ i < 9
        · rw [if_pos h4, if_neg (by omega), if_pos (by omega)]
        · rw [if_neg h4, if_neg (by omega), if_neg (by omega)]
theorem mSU_0 {D : zD} {n : Nat} : mSU D n n = D := by
  funext a i
  unfold mSU
  rw [if_neg (by omega), if_neg (by omega)]
/-- all events from p to q - 1 are those one place behind -/
def mSD (D : zD) (p q : Nat) : zD := fun a i => if (a = 40 ∨ a = 41 ∨ a = 42 ∨ a = 43 ∨ a = 57) ∧ p ≤ i ∧ i < q then D a (i + 1) else if (45 + p ≤ a ∧ a < 45 + q) ∧ i < 9 then D (a + 1) i else D a i
theorem mSD_s {D : zD} {p q : Nat} (hq : q + 1 < 12) (hp : p ≤ q) : mGoF (mSD D p q) (q + 1) q = mSD D p (q + 1) := by
  funext a i
  unfold mGoF mSD
  by_cases h1 : (a = 40 ∨ a = 41 ∨ a = 42 ∨ a = 43 ∨ a = 57) ∧ i = q
  · rw [if_pos h1, if_neg (by omega), if_neg (by omega), if_pos (by omega), h1.2]
  · rw [if_neg h1]
    by_cases h2 : a = 45 + q ∧ i < 9
    · rw [if_pos h2, if_neg (by omega), if_neg (by omega), if_neg (by omega), if_pos (by omega), show a + 1 = 45 + (q + 1) by omega]
    · rw [if_neg h2]
      by_cases h3 : (a = 40 ∨ a = 41 ∨ a = 42 ∨ a = 43 ∨ a = 57) ∧ p ≤ i ∧ i < q
      · rw [if_pos h3, if_pos (by omega)]
      · rw [if_neg h3]
        by_cases h4 : (45 + p ≤ a ∧ a < 45 + q) ∧ i < 9
        · rw [if_pos h4, if_neg (by omega), if_pos (by omega)]
        · rw [if_neg h4, if_neg (by omega), if_neg (by omega)]
theorem mSD_0 {D : zD} {n : Nat} : mSD D n n = D := by
  funext a i
  unfold mSD
  rw [if_neg (by omega), if_neg (by omega)]
/-- the modes are chars -/
def m43 (D : zD) : Prop := ∀ i, 0 ≤ D 43 i ∧ D 43 i ≤ 65535
theorem m43.su {D : zD} (h : m43 D) (p n : Nat) : m43 (mSU D p n) := fun i => by
  unfold mSU
  split
  · exact h _
  · rw [if_neg (by omega)]
    exact h _
theorem m43.sd {D : zD} (h : m43 D) (p n : Nat) : m43 (mSD D p n) := fun i => by
  unfold mSD
  split
  · exact h _
  · rw [if_neg (by omega)]
    exact h _
abbrev mdOk (md st : Int) : Prop := md = 102 ∨ ((md = 99 ∨ md = 112 ∨ md = 106) ∧ (0 ≤ st ∧ st ≤ 3599))
def qIn (D : zD) (p c md st : Int) : Int := if (0 ≤ c ∧ c ≤ D 32 7 - 1) ∧ (0 ≤ p ∧ p ≤ D 32 15) then (if D 38 c.toNat = 1 then 2 else if mdOk md st then (if D 32 15 = 12 then 4 else 0) else 3) else 1
def mInD (D : zD) (p c md st : Int) : zD := zwr (zwr (zwr (zwr (zwr (zwr (zwr (mSU D p.toNat (D 32 15).toNat) 32 32 0) 40 p.toNat c) 41 p.toNat st) 42 p.toNat 0) 43 p.toNat md) 57 p.toNat 0) 32 15 (D 32 15 + 1)
theorem mSU_32 {D : zD} {p n i : Nat} : mSU D p n 32 i = D 32 i := by
  unfold mSU
  rw [if_neg (by omega), if_neg (by omega)]
theorem mSU_zw {D : zD} {p n : Nat} {τ : Int} : mSU (zwr D 32 32 τ) p n = zwr (mSU D p n) 32 32 τ := by
  funext a i
  by_cases h : a = 32
  · subst h
    rw [mSU_32, zwr_e, zwr_e, mSU_32]
  · rw [zwr_a h]
    unfold mSU
    split
    · rw [zwr_a h]
    · split
      · rw [zwr_a (by omega)]
      · rw [zwr_a h]
set_option maxRecDepth 20000 in
theorem m115_t {p c md st : Int} {h : zH} {D : zD} (hp : iR p) (hc : iR c) (hmd : 0 ≤ md ∧ md ≤ 65535) (hst : iR st) (h7 : 0 ≤ D 32 7 ∧ D 32 7 ≤ 12) (h15 : 0 ≤ D 32 15 ∧ D 32 15 ≤ 12) (h38 : ∀ i, D 38 i = 0 ∨ D 38 i = 1) :
    zc 115 7 [.ref 32, .int (Int32.ofInt p), .int (Int32.ofInt c), .int (Int32.ofInt md), .int (Int32.ofInt st)] (zV h D) = zx 115 104 [some (.ref 32), some (.int (Int32.ofInt p)), some (.int (Int32.ofInt c)), some (.int (Int32.ofInt md)), some (.int (Int32.ofInt st)), some (.int (Int32.ofInt (zb (mdOk md st)))), none] [.int (Int32.ofInt (qIn D p c md st)), .ref 32] (zV h D) := by
  have b38 := h38 c.toNat
  have m1 : zc 115 7 [.ref 32, .int (Int32.ofInt p), .int (Int32.ofInt c), .int (Int32.ofInt md), .int (Int32.ofInt st)] (zV h D) = zx 115 41 [some (.ref 32), some (.int (Int32.ofInt p)), some (.int (Int32.ofInt c)), some (.int (Int32.ofInt md)), some (.int (Int32.ofInt st)), none, none] [.int (Int32.ofInt (zb (mdOk md st)))] (zV h D) := by
    rw [zc]
    by_cases g0 : md = 102
    · rw [zb_t (Or.inl g0)]
      simp (disch := first | omega | (simp (disch := omega) only [zwr_s, zwr_a, zwr_i, zn_put, zn_new, zn_fil, zn_chg, zV_n]; omega)) only [zentry, zs0, zs1, zs2, zs3, zg_lo, zg_st, zg_st2, zg_ald, zg_ast, zs_ia, zs_i0, zcs, zg_ii, zi_max, zi_min, zi_abi, zi_abf, zi_fb, zi_bf, lget, lst, lst2, lc2, Option.map_some, zso, if_true, if_false, zc1, and_true, true_and, and_self, List.length_nil, List.length_cons, Nat.zero_le, reduceIte, reduceCtorEq, false_and, and_false, Bool.false_eq_true, zca_some, zr0, zr100, Option.bind_some, zb_none, zb_some, zrc, or_true, true_or, eq_self, ne_eq, not_true_eq_false, not_false_eq_true, zrt_i, zrt_zb, zrt_b, zrt_c, zrt_l, zrt_f, zrt_r, zrt_n, zrt_v, zft_0, zft_1, zft_zb, zft_3, zft_4, zft_5, zft_7r, zft_7n, iI_t, zb_i, zb_0, zb_1, Nat.reduceAdd, Nat.reduceLeDiff, Nat.reduceEqDiff, Nat.reduceSub, Int.reduceNeg, iI_add, iI_sub, iI_mul, iI_neg, iI_n, zbz, zchar_id, zin, zwr_s, zwr_a, zwr_i, if_pos, if_neg, Int.toNat_natCast, Int.natCast_zero, Int.reduceToNat, z115, g0, zc32]
    · by_cases g1 : md = 99 ∨ md = 112 ∨ md = 106
      · by_cases g2 : 0 ≤ st ∧ st ≤ 3599
        · rw [zb_t (Or.inr ⟨g1, g2⟩)]
          rcases g1 with rfl | rfl | rfl
          · simp (disch := first | omega | (simp (disch := omega) only [zwr_s, zwr_a, zwr_i, zn_put, zn_new, zn_fil, zn_chg, zV_n]; omega)) only [zentry, zs0, zs1, zs2, zs3, zg_lo, zg_st, zg_st2, zg_ald, zg_ast, zs_ia, zs_i0, zcs, zg_ii, zi_max, zi_min, zi_abi, zi_abf, zi_fb, zi_bf, lget, lst, lst2, lc2, Option.map_some, zso, if_true, if_false, zc1, and_true, true_and, and_self, List.length_nil, List.length_cons, Nat.zero_le, reduceIte, reduceCtorEq, false_and, and_false, Bool.false_eq_true, zca_some, zr0, zr100, Option.bind_some, zb_none, zb_some, zrc, or_true, true_or, eq_self, ne_eq, not_true_eq_false, not_false_eq_true, zrt_i, zrt_zb, zrt_b, zrt_c, zrt_l, zrt_f, zrt_r, zrt_n, zrt_v, zft_0, zft_1, zft_zb, zft_3, zft_4, zft_5, zft_7r, zft_7n, iI_t, zb_i, zb_0, zb_1, Nat.reduceAdd, Nat.reduceLeDiff, Nat.reduceEqDiff, Nat.reduceSub, Int.reduceNeg, iI_add, iI_sub, iI_mul, iI_neg, iI_n, zbz, zchar_id, zin, zwr_s, zwr_a, zwr_i, if_pos, if_neg, Int.toNat_natCast, Int.natCast_zero, Int.reduceToNat, z115, zt3, m105, zb_t, zc32]
          · simp (disch := first | omega | (simp (disch := omega) only [zwr_s, zwr_a, zwr_i, zn_put, zn_new, zn_fil, zn_chg, zV_n]; omega)) only [zentry, zs0, zs1, zs2, zs3, zg_lo, zg_st, zg_st2, zg_ald, zg_ast, zs_ia, zs_i0, zcs, zg_ii, zi_max, zi_min, zi_abi, zi_abf, zi_fb, zi_bf, lget, lst, lst2, lc2, Option.map_some, zso, if_true, if_false, zc1, and_true, true_and, and_self, List.length_nil, List.length_cons, Nat.zero_le, reduceIte, reduceCtorEq, false_and, and_false, Bool.false_eq_true, zca_some, zr0, zr100, Option.bind_some, zb_none, zb_some, zrc, or_true, true_or, eq_self, ne_eq, not_true_eq_false, not_false_eq_true, zrt_i, zrt_zb, zrt_b, zrt_c, zrt_l, zrt_f, zrt_r, zrt_n, zrt_v, zft_0, zft_1, zft_zb, zft_3, zft_4, zft_5, zft_7r, zft_7n, iI_t, zb_i, zb_0, zb_1, Nat.reduceAdd, Nat.reduceLeDiff, Nat.reduceEqDiff, Nat.reduceSub, Int.reduceNeg, iI_add, iI_sub, iI_mul, iI_neg, iI_n, zbz, zchar_id, zin, zwr_s, zwr_a, zwr_i, if_pos, if_neg, Int.toNat_natCast, Int.natCast_zero, Int.reduceToNat, z115, zt3, m105, zb_t, zc32]
          · simp (disch := first | omega | (simp (disch := omega) only [zwr_s, zwr_a, zwr_i, zn_put, zn_new, zn_fil, zn_chg, zV_n]; omega)) only [zentry, zs0, zs1, zs2, zs3, zg_lo, zg_st, zg_st2, zg_ald, zg_ast, zs_ia, zs_i0, zcs, zg_ii, zi_max, zi_min, zi_abi, zi_abf, zi_fb, zi_bf, lget, lst, lst2, lc2, Option.map_some, zso, if_true, if_false, zc1, and_true, true_and, and_self, List.length_nil, List.length_cons, Nat.zero_le, reduceIte, reduceCtorEq, false_and, and_false, Bool.false_eq_true, zca_some, zr0, zr100, Option.bind_some, zb_none, zb_some, zrc, or_true, true_or, eq_self, ne_eq, not_true_eq_false, not_false_eq_true, zrt_i, zrt_zb, zrt_b, zrt_c, zrt_l, zrt_f, zrt_r, zrt_n, zrt_v, zft_0, zft_1, zft_zb, zft_3, zft_4, zft_5, zft_7r, zft_7n, iI_t, zb_i, zb_0, zb_1, Nat.reduceAdd, Nat.reduceLeDiff, Nat.reduceEqDiff, Nat.reduceSub, Int.reduceNeg, iI_add, iI_sub, iI_mul, iI_neg, iI_n, zbz, zchar_id, zin, zwr_s, zwr_a, zwr_i, if_pos, if_neg, Int.toNat_natCast, Int.natCast_zero, Int.reduceToNat, z115, zt3, m105, zb_t, zc32]
        · rw [zb_f (by omega)]
          rcases g1 with rfl | rfl | rfl
          · simp (disch := first | omega | (simp (disch := omega) only [zwr_s, zwr_a, zwr_i, zn_put, zn_new, zn_fil, zn_chg, zV_n]; omega)) only [zentry, zs0, zs1, zs2, zs3, zg_lo, zg_st, zg_st2, zg_ald, zg_ast, zs_ia, zs_i0, zcs, zg_ii, zi_max, zi_min, zi_abi, zi_abf, zi_fb, zi_bf, lget, lst, lst2, lc2, Option.map_some, zso, if_true, if_false, zc1, and_true, true_and, and_self, List.length_nil, List.length_cons, Nat.zero_le, reduceIte, reduceCtorEq, false_and, and_false, Bool.false_eq_true, zca_some, zr0, zr100, Option.bind_some, zb_none, zb_some, zrc, or_true, true_or, eq_self, ne_eq, not_true_eq_false, not_false_eq_true, zrt_i, zrt_zb, zrt_b, zrt_c, zrt_l, zrt_f, zrt_r, zrt_n, zrt_v, zft_0, zft_1, zft_zb, zft_3, zft_4, zft_5, zft_7r, zft_7n, iI_t, zb_i, zb_0, zb_1, Nat.reduceAdd, Nat.reduceLeDiff, Nat.reduceEqDiff, Nat.reduceSub, Int.reduceNeg, iI_add, iI_sub, iI_mul, iI_neg, iI_n, zbz, zchar_id, zin, zwr_s, zwr_a, zwr_i, if_pos, if_neg, Int.toNat_natCast, Int.natCast_zero, Int.reduceToNat, z115, zt3, m105, zb_f, zc32]
          · simp (disch := first | omega | (simp (disch := omega) only [zwr_s, zwr_a, zwr_i, zn_put, zn_new, zn_fil, zn_chg, zV_n]; omega)) only [zentry, zs0, zs1, zs2, zs3, zg_lo, zg_st, zg_st2, zg_ald, zg_ast, zs_ia, zs_i0, zcs, zg_ii, zi_max, zi_min, zi_abi, zi_abf, zi_fb, zi_bf, lget, lst, lst2, lc2, Option.map_some, zso, if_true, if_false, zc1, and_true, true_and, and_self, List.length_nil, List.length_cons, Nat.zero_le, reduceIte, reduceCtorEq, false_and, and_false, Bool.false_eq_true, zca_some, zr0, zr100, Option.bind_some, zb_none, zb_some, zrc, or_true, true_or, eq_self, ne_eq, not_true_eq_false, not_false_eq_true, zrt_i, zrt_zb, zrt_b, zrt_c, zrt_l, zrt_f, zrt_r, zrt_n, zrt_v, zft_0, zft_1, zft_zb, zft_3, zft_4, zft_5, zft_7r, zft_7n, iI_t, zb_i, zb_0, zb_1, Nat.reduceAdd, Nat.reduceLeDiff, Nat.reduceEqDiff, Nat.reduceSub, Int.reduceNeg, iI_add, iI_sub, iI_mul, iI_neg, iI_n, zbz, zchar_id, zin, zwr_s, zwr_a, zwr_i, if_pos, if_neg, Int.toNat_natCast, Int.natCast_zero, Int.reduceToNat, z115, zt3, m105, zb_f, zc32]
          · simp (disch := first | omega | (simp (disch := omega) only [zwr_s, zwr_a, zwr_i, zn_put, zn_new, zn_fil, zn_chg, zV_n]; omega)) only [zentry, zs0, zs1, zs2, zs3, zg_lo, zg_st, zg_st2, zg_ald, zg_ast, zs_ia, zs_i0, zcs, zg_ii, zi_max, zi_min, zi_abi, zi_abf, zi_fb, zi_bf, lget, lst, lst2, lc2, Option.map_some, zso, if_true, if_false, zc1, and_true, true_and, and_self, List.length_nil, List.length_cons, Nat.zero_le, reduceIte, reduceCtorEq, false_and, and_false, Bool.false_eq_true, zca_some, zr0, zr100, Option.bind_some, zb_none, zb_some, zrc, or_true, true_or, eq_self, ne_eq, not_true_eq_false, not_false_eq_true, zrt_i, zrt_zb, zrt_b, zrt_c, zrt_l, zrt_f, zrt_r, zrt_n, zrt_v, zft_0, zft_1, zft_zb, zft_3, zft_4, zft_5, zft_7r, zft_7n, iI_t, zb_i, zb_0, zb_1, Nat.reduceAdd, Nat.reduceLeDiff, Nat.reduceEqDiff, Nat.reduceSub, Int.reduceNeg, iI_add, iI_sub, iI_mul, iI_neg, iI_n, zbz, zchar_id, zin, zwr_s, zwr_a, zwr_i, if_pos, if_neg, Int.toNat_natCast, Int.natCast_zero, Int.reduceToNat, z115, zt3, m105, zb_f, zc32]
      · rw [zb_f (by omega)]
        simp (disch := first | omega | (simp (disch := omega) only [zwr_s, zwr_a, zwr_i, zn_put, zn_new, zn_fil, zn_chg, zV_n]; omega)) only [zentry, zs0, zs1, zs2, zs3, zg_lo, zg_st, zg_st2, zg_ald, zg_ast, zs_ia, zs_i0, zcs, zg_ii, zi_max, zi_min, zi_abi, zi_abf, zi_fb, zi_bf, lget, lst, lst2, lc2, Option.map_some, zso, if_true, if_false, zc1, and_true, true_and, and_self, List.length_nil, List.length_cons, Nat.zero_le, reduceIte, reduceCtorEq, false_and, and_false, Bool.false_eq_true, zca_some, zr0, zr100, Option.bind_some, zb_none, zb_some, zrc, or_true, true_or, eq_self, ne_eq, not_true_eq_false, not_false_eq_true, zrt_i, zrt_zb, zrt_b, zrt_c, zrt_l, zrt_f, zrt_r, zrt_n, zrt_v, zft_0, zft_1, zft_zb, zft_3, zft_4, zft_5, zft_7r, zft_7n, iI_t, zb_i, zb_0, zb_1, Nat.reduceAdd, Nat.reduceLeDiff, Nat.reduceEqDiff, Nat.reduceSub, Int.reduceNeg, iI_add, iI_sub, iI_mul, iI_neg, iI_n, zbz, zchar_id, zin, zwr_s, zwr_a, zwr_i, if_pos, if_neg, Int.toNat_natCast, Int.natCast_zero, Int.reduceToNat, z115, zc32]
  rw [m1]
  have e110 := m110 (c := c) (h := h) (D := D) hc h7
  have e105 := m105 (v := p) (lo := 0) (hi := D 32 15) (h := zV h D) hp (by omega) (by omega)
  unfold qIn
  clear m1 h38
  by_cases g1 : 0 ≤ c ∧ c ≤ D 32 7 - 1
  · rw [zb_t g1] at e110
    by_cases g2 : 0 ≤ p ∧ p ≤ D 32 15
    · rw [zb_t g2] at e105
      rw [if_pos ⟨g1, g2⟩]
      by_cases g3 : D 38 c.toNat = 1
      · rw [if_pos g3]
        simp (disch := first | omega | (simp (disch := omega) only [zwr_s, zwr_a, zwr_i, zn_put, zn_new, zn_fil, zn_chg, zV_n]; omega)) only [zentry, zs0, zs1, zs2, zs3, zg_lo, zg_st, zg_st2, zg_ald, zg_ast, zs_ia, zs_i0, zcs, zg_ii, zi_max, zi_min, zi_abi, zi_abf, zi_fb, zi_bf, lget, lst, lst2, lc2, Option.map_some, zso, if_true, if_false, zc1, and_true, true_and, and_self, List.length_nil, List.length_cons, Nat.zero_le, reduceIte, reduceCtorEq, false_and, and_false, Bool.false_eq_true, zca_some, zr0, zr100, Option.bind_some, zb_none, zb_some, zrc, or_true, true_or, eq_self, ne_eq, not_true_eq_false, not_false_eq_true, zrt_i, zrt_zb, zrt_b, zrt_c, zrt_l, zrt_f, zrt_r, zrt_n, zrt_v, zft_0, zft_1, zft_zb, zft_3, zft_4, zft_5, zft_7r, zft_7n, iI_t, zb_i, zb_0, zb_1, Nat.reduceAdd, Nat.reduceLeDiff, Nat.reduceEqDiff, Nat.reduceSub, Int.reduceNeg, iI_add, iI_sub, iI_mul, iI_neg, iI_n, zbz, zchar_id, zin, zwr_s, zwr_a, zwr_i, if_pos, if_neg, Int.toNat_natCast, Int.natCast_zero, Int.reduceToNat, z115, zt2, zt3, e110, e105, g3, zc32, zc38]
      · rw [if_neg g3]
        by_cases g4 : mdOk md st
        · rw [if_pos g4, zb_t g4]
          clear g4
          by_cases g5 : D 32 15 = 12
          · rw [if_pos g5]
            simp (disch := first | omega | (simp (disch := omega) only [zwr_s, zwr_a, zwr_i, zn_put, zn_new, zn_fil, zn_chg, zV_n]; omega)) only [zentry, zs0, zs1, zs2, zs3, zg_lo, zg_st, zg_st2, zg_ald, zg_ast, zs_ia, zs_i0, zcs, zg_ii, zi_max, zi_min, zi_abi, zi_abf, zi_fb, zi_bf, lget, lst, lst2, lc2, Option.map_some, zso, if_true, if_false, zc1, and_true, true_and, and_self, List.length_nil, List.length_cons, Nat.zero_le, reduceIte, reduceCtorEq, false_and, and_false, Bool.false_eq_true, zca_some, zr0, zr100, Option.bind_some, zb_none, zb_some, zrc, or_true, true_or, eq_self, ne_eq, not_true_eq_false, not_false_eq_true, zrt_i, zrt_zb, zrt_b, zrt_c, zrt_l, zrt_f, zrt_r, zrt_n, zrt_v, zft_0, zft_1, zft_zb, zft_3, zft_4, zft_5, zft_7r, zft_7n, iI_t, zb_i, zb_0, zb_1, Nat.reduceAdd, Nat.reduceLeDiff, Nat.reduceEqDiff, Nat.reduceSub, Int.reduceNeg, iI_add, iI_sub, iI_mul, iI_neg, iI_n, zbz, zchar_id, zin, zwr_s, zwr_a, zwr_i, if_pos, if_neg, Int.toNat_natCast, Int.natCast_zero, Int.reduceToNat, z115, zt2, zt3, e110, e105, zc32, zc38]
          · rw [if_neg g5]
            simp (disch := first | omega | (simp (disch := omega) only [zwr_s, zwr_a, zwr_i, zn_put, zn_new, zn_fil, zn_chg, zV_n]; omega)) only [zentry, zs0, zs1, zs2, zs3, zg_lo, zg_st, zg_st2, zg_ald, zg_ast, zs_ia, zs_i0, zcs, zg_ii, zi_max, zi_min, zi_abi, zi_abf, zi_fb, zi_bf, lget, lst, lst2, lc2, Option.map_some, zso, if_true, if_false, zc1, and_true, true_and, and_self, List.length_nil, List.length_cons, Nat.zero_le, reduceIte, reduceCtorEq, false_and, and_false, Bool.false_eq_true, zca_some, zr0, zr100, Option.bind_some, zb_none, zb_some, zrc, or_true, true_or, eq_self, ne_eq, not_true_eq_false, not_false_eq_true, zrt_i, zrt_zb, zrt_b, zrt_c, zrt_l, zrt_f, zrt_r, zrt_n, zrt_v, zft_0, zft_1, zft_zb, zft_3, zft_4, zft_5, zft_7r, zft_7n, iI_t, zb_i, zb_0, zb_1, Nat.reduceAdd, Nat.reduceLeDiff, Nat.reduceEqDiff, Nat.reduceSub, Int.reduceNeg, iI_add, iI_sub, iI_mul, iI_neg, iI_n, zbz, zchar_id, zin, zwr_s, zwr_a, zwr_i, if_pos, if_neg, Int.toNat_natCast, Int.natCast_zero, Int.reduceToNat, z115, zt2, zt3, e110, e105, zc32, zc38]
        · rw [if_neg g4, zb_f g4]
          clear g4
          simp (disch := first | omega | (simp (disch := omega) only [zwr_s, zwr_a, zwr_i, zn_put, zn_new, zn_fil, zn_chg, zV_n]; omega)) only [zentry, zs0, zs1, zs2, zs3, zg_lo, zg_st, zg_st2, zg_ald, zg_ast, zs_ia, zs_i0, zcs, zg_ii, zi_max, zi_min, zi_abi, zi_abf, zi_fb, zi_bf, lget, lst, lst2, lc2, Option.map_some, zso, if_true, if_false, zc1, and_true, true_and, and_self, List.length_nil, List.length_cons, Nat.zero_le, reduceIte, reduceCtorEq, false_and, and_false, Bool.false_eq_true, zca_some, zr0, zr100, Option.bind_some, zb_none, zb_some, zrc, or_true, true_or, eq_self, ne_eq, not_true_eq_false, not_false_eq_true, zrt_i, zrt_zb, zrt_b, zrt_c, zrt_l, zrt_f, zrt_r, zrt_n, zrt_v, zft_0, zft_1, zft_zb, zft_3, zft_4, zft_5, zft_7r, zft_7n, iI_t, zb_i, zb_0, zb_1, Nat.reduceAdd, Nat.reduceLeDiff, Nat.reduceEqDiff, Nat.reduceSub, Int.reduceNeg, iI_add, iI_sub, iI_mul, iI_neg, iI_n, zbz, zchar_id, zin, zwr_s, zwr_a, zwr_i, if_pos, if_neg, Int.toNat_natCast, Int.natCast_zero, Int.reduceToNat, z115, zt2, zt3, e110, e105, zc32, zc38]
    · rw [zb_f g2] at e105
      rw [if_neg (fun q => g2 q.2)]
      simp (disch := first | omega | (simp (disch := omega) only [zwr_s, zwr_a, zwr_i, zn_put, zn_new, zn_fil, zn_chg, zV_n]; omega)) only [zentry, zs0, zs1, zs2, zs3, zg_lo, zg_st, zg_st2, zg_ald, zg_ast, zs_ia, zs_i0, zcs, zg_ii, zi_max, zi_min, zi_abi, zi_abf, zi_fb, zi_bf, lget, lst, lst2, lc2, Option.map_some, zso, if_true, if_false, zc1, and_true, true_and, and_self, List.length_nil, List.length_cons, Nat.zero_le, reduceIte, reduceCtorEq, false_and, and_false, Bool.false_eq_true, zca_some, zr0, zr100, Option.bind_some, zb_none, zb_some, zrc, or_true, true_or, eq_self, ne_eq, not_true_eq_false, not_false_eq_true, zrt_i, zrt_zb, zrt_b, zrt_c, zrt_l, zrt_f, zrt_r, zrt_n, zrt_v, zft_0, zft_1, zft_zb, zft_3, zft_4, zft_5, zft_7r, zft_7n, iI_t, zb_i, zb_0, zb_1, Nat.reduceAdd, Nat.reduceLeDiff, Nat.reduceEqDiff, Nat.reduceSub, Int.reduceNeg, iI_add, iI_sub, iI_mul, iI_neg, iI_n, zbz, zchar_id, zin, zwr_s, zwr_a, zwr_i, if_pos, if_neg, Int.toNat_natCast, Int.natCast_zero, Int.reduceToNat, z115, zt2, zt3, e110, e105, zc32, zc38]
  · rw [zb_f g1] at e110
    rw [if_neg (fun q => g1 q.1)]
    simp (disch := first | omega | (simp (disch := omega) only [zwr_s, zwr_a, zwr_i, zn_put, zn_new, zn_fil, zn_chg, zV_n]; omega)) only [zentry, zs0, zs1, zs2, zs3, zg_lo, zg_st, zg_st2, zg_ald, zg_ast, zs_ia, zs_i0, zcs, zg_ii, zi_max, zi_min, zi_abi, zi_abf, zi_fb, zi_bf, lget, lst, lst2, lc2, Option.map_some, zso, if_true, if_false, zc1, and_true, true_and, and_self, List.length_nil, List.length_cons, Nat.zero_le, reduceIte, reduceCtorEq, false_and, and_false, Bool.false_eq_true, zca_some, zr0, zr100, Option.bind_some, zb_none, zb_some, zrc, or_true, true_or, eq_self, ne_eq, not_true_eq_false, not_false_eq_true, zrt_i, zrt_zb, zrt_b, zrt_c, zrt_l, zrt_f, zrt_r, zrt_n, zrt_v, zft_0, zft_1, zft_zb, zft_3, zft_4, zft_5, zft_7r, zft_7n, iI_t, zb_i, zb_0, zb_1, Nat.reduceAdd, Nat.reduceLeDiff, Nat.reduceEqDiff, Nat.reduceSub, Int.reduceNeg, iI_add, iI_sub, iI_mul, iI_neg, iI_n, zbz, zchar_id, zin, zwr_s, zwr_a, zwr_i, if_pos, if_neg, Int.toNat_natCast, Int.natCast_zero, Int.reduceToNat, z115, zt2, zt3, e110, zc32, zc38]

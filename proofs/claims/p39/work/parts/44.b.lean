/-! a set against the best so far -/
def mLst (D : zD) : UInt32 := UInt32.ofNat (D 32 27).toNat
abbrev mTkc (D : zD) (m : Nat) (gap lev : Int) : Prop := D 32 26 = 0 ∨ popB 12 m < popB 12 (D 32 26).toNat ∨ (popB 12 m = popB 12 (D 32 26).toNat ∧ (FP.Core.fkey (mdv D m gap lev) < FP.Core.fkey (mLst D) ∨ (FP.Core.fkey (mdv D m gap lev) = FP.Core.fkey (mLst D) ∧ lowr 12 m (D 32 26).toNat = true)))
def mTk (D : zD) (m : Nat) (gap lev : Int) : zD := if mTkc D m gap lev then zwr (zwr D 32 26 m) 32 27 ((mdv D m gap lev).toNat : Nat) else D
set_option maxRecDepth 20000 in
theorem m126_c {mi gi li : Int32} {mn : Int} {h : zH} {D : zD} {off ls0 : UInt32} {pm pc : Int} {lw : Prop} [Decidable lw] {o : Option Ordering} {k1 k2 : Int} (hmi : mi = Int32.ofInt mn)
    (e1 : zc 123 6 [.ref 32, .int mi, .int gi, .int li] (zV h D) = some (.inl (some (.float off)), zV h D))
    (e2 : zc 182 1 [.int (Int32.ofInt (D 32 26))] (zV h D) = some (.inl (some (.int (Int32.ofInt pc))), zV h D))
    (e3 : zc 182 1 [.int mi] (zV h D) = some (.inl (some (.int (Int32.ofInt pm))), zV h D))
    (e4 : zc 124 3 [.int mi, .int (Int32.ofInt (D 32 26))] (zV h D) = some (.inl (some (.int (Int32.ofInt (zb lw)))), zV h D))
    (hl : UInt32.ofNat (D 32 27).toNat = ls0) (ho : FP.fcmp off ls0 = o) (l1 : ∀ op, ((Op.cmpValue o op).toInt < 0) = (k1 < k2)) (l2 : ∀ op, ((Op.cmpValue o op).toInt = 0) = (k1 = k2))
    (p1 : 0 ≤ pm ∧ pm ≤ 12) (p2 : 0 ≤ pc ∧ pc ≤ 12) (hc : 0 ≤ D 32 26 ∧ D 32 26 < 4096) :
    zc 126 6 [.ref 32, .int mi, .int gi, .int li] (zV h D) = some (.inl none, zV h (if D 32 26 = 0 ∨ pm < pc ∨ (pm = pc ∧ (k1 < k2 ∨ (k1 = k2 ∧ lw))) then zwr (zwr D 32 26 mn) 32 27 (off.toNat : Nat) else D)) := by
  rw [zc]
  by_cases h0 : D 32 26 = 0
  · rw [if_pos (Or.inl h0)]
    subst hmi
    simp (disch := first | omega | (simp (disch := omega) only [zwr_s, zwr_a, zwr_i]; omega)) only [zentry, zs0, zs1, zs2, zs3, zg_lo, zg_st, zg_st2, zg_ald, zg_ast, zs_ia, zs_i0, zcs, zg_ii, zi_max, zi_min, zi_abi, zi_abf, zi_fb, zi_bf, lget, lst, lst2, lc2, Option.map_some, zso, if_true, if_false, zc1, and_true, true_and, and_self, List.length_nil, List.length_cons, Nat.zero_le, reduceIte, reduceCtorEq, false_and, and_false, Bool.false_eq_true, zca_some, zr0, zr100, Option.bind_some, zb_none, zb_some, zrc, or_true, true_or, eq_self, ne_eq, not_true_eq_false, not_false_eq_true, zrt_i, zrt_zb, zrt_b, zrt_c, zrt_l, zrt_f, zrt_r, zrt_n, zrt_v, zft_0, zft_1, zft_zb, zft_3, zft_4, zft_5, zft_7r, zft_7n, iI_t, zb_i, zb_0, zb_1, Nat.reduceAdd, Nat.reduceLeDiff, Nat.reduceEqDiff, Nat.reduceSub, Int.reduceNeg, iI_add, iI_sub, iI_mul, iI_neg, iI_n, z126, zt4, e1, zc32, if_pos, if_neg]
  · by_cases h1 : pm < pc
    · rw [if_pos (Or.inr (Or.inl h1))]
      subst hmi
      simp (disch := first | omega | (simp (disch := omega) only [zwr_s, zwr_a, zwr_i]; omega)) only [zentry, zs0, zs1, zs2, zs3, zg_lo, zg_st, zg_st2, zg_ald, zg_ast, zs_ia, zs_i0, zcs, zg_ii, zi_max, zi_min, zi_abi, zi_abf, zi_fb, zi_bf, lget, lst, lst2, lc2, Option.map_some, zso, if_true, if_false, zc1, and_true, true_and, and_self, List.length_nil, List.length_cons, Nat.zero_le, reduceIte, reduceCtorEq, false_and, and_false, Bool.false_eq_true, zca_some, zr0, zr100, Option.bind_some, zb_none, zb_some, zrc, or_true, true_or, eq_self, ne_eq, not_true_eq_false, not_false_eq_true, zrt_i, zrt_zb, zrt_b, zrt_c, zrt_l, zrt_f, zrt_r, zrt_n, zrt_v, zft_0, zft_1, zft_zb, zft_3, zft_4, zft_5, zft_7r, zft_7n, iI_t, zb_i, zb_0, zb_1, Nat.reduceAdd, Nat.reduceLeDiff, Nat.reduceEqDiff, Nat.reduceSub, Int.reduceNeg, iI_add, iI_sub, iI_mul, iI_neg, iI_n, z126, zt4, zt1, e1, e2, e3, zc32, if_pos, if_neg]
    · by_cases h2 : pm = pc
      · by_cases h3 : k1 < k2
        · rw [if_pos (Or.inr (Or.inr ⟨h2, Or.inl h3⟩))]
          subst hmi
          simp (disch := first | omega | (simp (disch := omega) only [zwr_s, zwr_a, zwr_i]; omega)) only [zentry, zs0, zs1, zs2, zs3, zg_lo, zg_st, zg_st2, zg_ald, zg_ast, zs_ia, zs_i0, zcs, zg_ii, zi_max, zi_min, zi_abi, zi_abf, zi_fb, zi_bf, lget, lst, lst2, lc2, Option.map_some, zso, if_true, if_false, zc1, and_true, true_and, and_self, List.length_nil, List.length_cons, Nat.zero_le, reduceIte, reduceCtorEq, false_and, and_false, Bool.false_eq_true, zca_some, zr0, zr100, Option.bind_some, zb_none, zb_some, zrc, or_true, true_or, eq_self, ne_eq, not_true_eq_false, not_false_eq_true, zrt_i, zrt_zb, zrt_b, zrt_c, zrt_l, zrt_f, zrt_r, zrt_n, zrt_v, zft_0, zft_1, zft_zb, zft_3, zft_4, zft_5, zft_7r, zft_7n, iI_t, zb_i, zb_0, zb_1, Nat.reduceAdd, Nat.reduceLeDiff, Nat.reduceEqDiff, Nat.reduceSub, Int.reduceNeg, iI_add, iI_sub, iI_mul, iI_neg, iI_n, z126, zt4, zt1, e1, e2, e3, hl, ho, l1, l2, zc32, if_pos, if_neg]
        · by_cases h4 : k1 = k2
          · by_cases h5 : lw
            · rw [if_pos (Or.inr (Or.inr ⟨h2, Or.inr ⟨h4, h5⟩⟩))]
              rw [zb_t h5] at e4
              subst hmi
              simp (disch := first | omega | (simp (disch := omega) only [zwr_s, zwr_a, zwr_i]; omega)) only [zentry, zs0, zs1, zs2, zs3, zg_lo, zg_st, zg_st2, zg_ald, zg_ast, zs_ia, zs_i0, zcs, zg_ii, zi_max, zi_min, zi_abi, zi_abf, zi_fb, zi_bf, lget, lst, lst2, lc2, Option.map_some, zso, if_true, if_false, zc1, and_true, true_and, and_self, List.length_nil, List.length_cons, Nat.zero_le, reduceIte, reduceCtorEq, false_and, and_false, Bool.false_eq_true, zca_some, zr0, zr100, Option.bind_some, zb_none, zb_some, zrc, or_true, true_or, eq_self, ne_eq, not_true_eq_false, not_false_eq_true, zrt_i, zrt_zb, zrt_b, zrt_c, zrt_l, zrt_f, zrt_r, zrt_n, zrt_v, zft_0, zft_1, zft_zb, zft_3, zft_4, zft_5, zft_7r, zft_7n, iI_t, zb_i, zb_0, zb_1, Nat.reduceAdd, Nat.reduceLeDiff, Nat.reduceEqDiff, Nat.reduceSub, Int.reduceNeg, iI_add, iI_sub, iI_mul, iI_neg, iI_n, z126, zt4, zt1, zt2, e1, e2, e3, e4, hl, ho, l1, l2, zc32, if_pos, if_neg]
            · rw [if_neg (by rintro (q | q | ⟨-, q | ⟨-, q⟩⟩) <;> first | exact h0 q | exact h1 q | exact h3 q | exact h5 q)]
              rw [zb_f h5] at e4
              subst hmi
              simp (disch := first | omega | (simp (disch := omega) only [zwr_s, zwr_a, zwr_i]; omega)) only [zentry, zs0, zs1, zs2, zs3, zg_lo, zg_st, zg_st2, zg_ald, zg_ast, zs_ia, zs_i0, zcs, zg_ii, zi_max, zi_min, zi_abi, zi_abf, zi_fb, zi_bf, lget, lst, lst2, lc2, Option.map_some, zso, if_true, if_false, zc1, and_true, true_and, and_self, List.length_nil, List.length_cons, Nat.zero_le, reduceIte, reduceCtorEq, false_and, and_false, Bool.false_eq_true, zca_some, zr0, zr100, Option.bind_some, zb_none, zb_some, zrc, or_true, true_or, eq_self, ne_eq, not_true_eq_false, not_false_eq_true, zrt_i, zrt_zb, zrt_b, zrt_c, zrt_l, zrt_f, zrt_r, zrt_n, zrt_v, zft_0, zft_1, zft_zb, zft_3, zft_4, zft_5, zft_7r, zft_7n, iI_t, zb_i, zb_0, zb_1, Nat.reduceAdd, Nat.reduceLeDiff, Nat.reduceEqDiff, Nat.reduceSub, Int.reduceNeg, iI_add, iI_sub, iI_mul, iI_neg, iI_n, z126, zt4, zt1, zt2, e1, e2, e3, e4, hl, ho, l1, l2, zc32, if_pos, if_neg]
          · rw [if_neg (by rintro (q | q | ⟨-, q | ⟨q, -⟩⟩) <;> first | exact h0 q | exact h1 q | exact h3 q | exact h4 q)]
            subst hmi
            simp (disch := first | omega | (simp (disch := omega) only [zwr_s, zwr_a, zwr_i]; omega)) only [zentry, zs0, zs1, zs2, zs3, zg_lo, zg_st, zg_st2, zg_ald, zg_ast, zs_ia, zs_i0, zcs, zg_ii, zi_max, zi_min, zi_abi, zi_abf, zi_fb, zi_bf, lget, lst, lst2, lc2, Option.map_some, zso, if_true, if_false, zc1, and_true, true_and, and_self, List.length_nil, List.length_cons, Nat.zero_le, reduceIte, reduceCtorEq, false_and, and_false, Bool.false_eq_true, zca_some, zr0, zr100, Option.bind_some, zb_none, zb_some, zrc, or_true, true_or, eq_self, ne_eq, not_true_eq_false, not_false_eq_true, zrt_i, zrt_zb, zrt_b, zrt_c, zrt_l, zrt_f, zrt_r, zrt_n, zrt_v, zft_0, zft_1, zft_zb, zft_3, zft_4, zft_5, zft_7r, zft_7n, iI_t, zb_i, zb_0, zb_1, Nat.reduceAdd, Nat.reduceLeDiff, Nat.reduceEqDiff, Nat.reduceSub, Int.reduceNeg, iI_add, iI_sub, iI_mul, iI_neg, iI_n, z126, zt4, zt1, zt2, e1, e2, e3, e4, hl, ho, l1, l2, zc32, if_pos, if_neg]
      · rw [if_neg (by rintro (q | q | ⟨q, -⟩) <;> first | exact h0 q | exact h1 q | exact h2 q)]
        subst hmi
        simp (disch := first | omega | (simp (disch := omega) only [zwr_s, zwr_a, zwr_i]; omega)) only [zentry, zs0, zs1, zs2, zs3, zg_lo, zg_st, zg_st2, zg_ald, zg_ast, zs_ia, zs_i0, zcs, zg_ii, zi_max, zi_min, zi_abi, zi_abf, zi_fb, zi_bf, lget, lst, lst2, lc2, Option.map_some, zso, if_true, if_false, zc1, and_true, true_and, and_self, List.length_nil, List.length_cons, Nat.zero_le, reduceIte, reduceCtorEq, false_and, and_false, Bool.false_eq_true, zca_some, zr0, zr100, Option.bind_some, zb_none, zb_some, zrc, or_true, true_or, eq_self, ne_eq, not_true_eq_false, not_false_eq_true, zrt_i, zrt_zb, zrt_b, zrt_c, zrt_l, zrt_f, zrt_r, zrt_n, zrt_v, zft_0, zft_1, zft_zb, zft_3, zft_4, zft_5, zft_7r, zft_7n, iI_t, zb_i, zb_0, zb_1, Nat.reduceAdd, Nat.reduceLeDiff, Nat.reduceEqDiff, Nat.reduceSub, Int.reduceNeg, iI_add, iI_sub, iI_mul, iI_neg, iI_n, z126, zt4, zt1, zt2, e1, e2, e3, e4, hl, ho, l1, l2, zc32, if_pos, if_neg]
theorem m126 {m : Nat} {gap lev : Int} {h : zH} {D : zD} (hD : mCl D) (hm : m < 4096) (hg : 1 ≤ gap ∧ gap ≤ 3600) (hl : -60 ≤ lev ∧ lev ≤ 0) (hc : 0 ≤ D 32 26 ∧ D 32 26 < 4096) (hn : FP.Core.fIsNaN (mLst D) = false) :
    zc 126 6 [.ref 32, .int (Int32.ofInt (m : Int)), .int (Int32.ofInt gap), .int (Int32.ofInt lev)] (zV h D) = some (.inl none, zV h (mTk D m gap lev)) := by
  obtain ⟨ch, hch⟩ : ∃ ch : Nat, D 32 26 = ch := ⟨(D 32 26).toNat, by omega⟩
  have hcn : (D 32 26).toNat = ch := by omega
  have hc9 : ch < 4096 := by omega
  have e2 : zc 182 1 [.int (Int32.ofInt (D 32 26))] (zV h D) = some (.inl (some (.int (Int32.ofInt (popB 12 ch : Int)))), zV h D) := by
    rw [hch]
    exact m182 hc9
  have e4 : zc 124 3 [.int (Int32.ofInt (m : Int)), .int (Int32.ofInt (D 32 26))] (zV h D) = some (.inl (some (.int (Int32.ofInt (zb (lowr 12 m ch = true))))), zV h D) := by
    rw [hch]
    exact m124 hm hc9
  have n1 := mdv_nn hD (m := m) (lev := lev) hg
  have q1 : (0 : Int) ≤ (popB 12 m : Int) ∧ (popB 12 m : Int) ≤ 12 := ⟨Int.natCast_nonneg _, Int.ofNat_le.mpr (popB_le 12 m)⟩
  have q2 : (0 : Int) ≤ (popB 12 ch : Int) ∧ (popB 12 ch : Int) ≤ 12 := ⟨Int.natCast_nonneg _, Int.ofNat_le.mpr (popB_le 12 ch)⟩
  have R := m126_c (ls0 := mLst D) (mn := (m : Int)) (gi := Int32.ofInt gap) (li := Int32.ofInt lev) (h := h) (D := D) rfl (m123 (h := h) hD hm hg hl) e2 (m182 hm) e4 rfl rfl (fl_lt n1 hn) (fl_eq n1 hn) q1 q2 hc
  rw [R]
  unfold mTk
  congr 3
  have e : (D 32 26 = 0 ∨ (popB 12 m : Int) < (popB 12 ch : Int) ∨ ((popB 12 m : Int) = (popB 12 ch : Int) ∧ (FP.Core.fkey (mdv D m gap lev) < FP.Core.fkey (mLst D) ∨ (FP.Core.fkey (mdv D m gap lev) = FP.Core.fkey (mLst D) ∧ lowr 12 m ch = true)))) ↔ mTkc D m gap lev := by
    unfold mTkc
    rw [hcn, Int.ofNat_lt, Int.ofNat_inj]
  by_cases g : mTkc D m gap lev
  · rw [if_pos g, if_pos (e.mpr g)]
  · rw [if_neg g, if_neg (fun q => g (e.mp q))]

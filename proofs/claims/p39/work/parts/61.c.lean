/-! the class: how far the air is apart from the log -/
theorem spK_l {t : Int} {sp : zSp} {k : Nat} (h : spC t sp) (hk : k + 1 = sp.length) : (spK sp k).2.2.2 = t := by
  cases sp with
  | nil => simp at hk
  | cons x r =>
    obtain ⟨q1, -, -⟩ := h
    rw [List.length_cons] at hk
    rw [spK_cons, if_neg (by omega), if_pos (by omega)]
    exact q1
theorem apS_run {sp lg : zSp} {i j : Nat} {f : Nat} : ∀ n, (∀ s : Nat, f ≤ s → s < f + n → airIx (s : Int) sp = i ∧ airIx (s : Int) lg = j) → apS sp lg (f + n) = apS sp lg f + (if (spK lg j).1 = (spK sp i).1 then 0 else (n : Int))
  | 0, _ => by
    rw [Nat.add_zero]
    split <;> simp
  | n + 1, h => by
    have ih := apS_run n (fun s h1 h2 => h s h1 (by omega))
    obtain ⟨e1, e2⟩ := h (f + n) (by omega) (by omega)
    rw [show f + (n + 1) = (f + n) + 1 by omega, apS, ih, e1, e2]
    split <;> omega
set_option maxRecDepth 20000 in
theorem c40 {h : zH} {D : zD} {sp lg : zSp} (s1 : D 6 3 = sp.length) (s2 : spC 3600 sp) (s3 : sp.length ≤ 116) (s4 : tRp 6 D sp) (s5 : ∀ x ∈ sp, -1 ≤ x.1 ∧ x.1 < 12) (l1 : D 10 3 = lg.length) (l2 : spC 3600 lg) (l3 : lg.length ≤ 116) (l4 : tRp 10 D lg) (l5 : ∀ x ∈ lg, -1 ≤ x.1 ∧ x.1 < 12) :
    zc 40 7 [.ref 6, .ref 10] (zV h D) = some (.inl (some (.int (Int32.ofInt (apS sp lg 3600)))), zV h D) := by
  have n6 : 0 ≤ D 6 3 ∧ D 6 3 ≤ 116 := by omega
  have n10 : 0 ≤ D 10 3 ∧ D 10 3 ≤ 116 := by omega
  have done : ∀ (i j : Nat) (x5 x6 : Option Value), i ≤ sp.length → j ≤ lg.length → (i = sp.length ∨ j = lg.length) → zx 40 7 [some (.ref 6), some (.ref 10), some (.int (Int32.ofInt (apS sp lg 3600))), some (.int (Int32.ofInt (i : Int))), some (.int (Int32.ofInt (j : Int))), x5, x6] [] (zV h D) = some (.inl (some (.int (Int32.ofInt (apS sp lg 3600)))), zV h D) := by
    intro i j x5 x6 hi hj hij
    rw [z40_7]
    clear s2 s4 s5 l2 l4 l5
    generalize apS sp lg 3600 = ap at *
    by_cases g : i = sp.length
    · simp (disch := first | omega | (simp (disch := omega) only [zwr_s, zwr_a, zwr_i, zn_put, zn_new, zn_fil, zn_chg, zV_n]; omega)) only [zentry, zs0, zs1, zs2, zs3, zg_lo, zg_st, zg_st2, zg_ald, zg_ast, zs_ia, zs_i0, zcs, zg_ii, zi_max, zi_min, zi_abi, zi_abf, zi_fb, zi_bf, lget, lst, lst2, lc2, Option.map_some, zso, if_true, if_false, zc1, and_true, true_and, and_self, List.length_nil, List.length_cons, Nat.zero_le, reduceIte, reduceCtorEq, false_and, and_false, Bool.false_eq_true, zca_some, zr0, zr100, Option.bind_some, zb_none, zb_some, zrc, or_true, true_or, eq_self, ne_eq, not_true_eq_false, not_false_eq_true, zrt_i, zrt_zb, zrt_b, zrt_c, zrt_l, zrt_f, zrt_r, zrt_n, zrt_v, zft_0, zft_1, zft_zb, zft_3, zft_4, zft_5, zft_7r, zft_7n, iI_t, zb_i, zb_0, zb_1, Nat.reduceAdd, Nat.reduceLeDiff, Nat.reduceEqDiff, Nat.reduceSub, Int.reduceNeg, iI_add, iI_sub, iI_mul, iI_neg, iI_n, zbz, zchar_id, zin, zwr_s, zwr_a, zwr_i, if_pos, if_neg, Int.toNat_natCast, Int.natCast_zero, Int.reduceToNat, z40, zc6, zc10]
    · simp (disch := first | omega | (simp (disch := omega) only [zwr_s, zwr_a, zwr_i, zn_put, zn_new, zn_fil, zn_chg, zV_n]; omega)) only [zentry, zs0, zs1, zs2, zs3, zg_lo, zg_st, zg_st2, zg_ald, zg_ast, zs_ia, zs_i0, zcs, zg_ii, zi_max, zi_min, zi_abi, zi_abf, zi_fb, zi_bf, lget, lst, lst2, lc2, Option.map_some, zso, if_true, if_false, zc1, and_true, true_and, and_self, List.length_nil, List.length_cons, Nat.zero_le, reduceIte, reduceCtorEq, false_and, and_false, Bool.false_eq_true, zca_some, zr0, zr100, Option.bind_some, zb_none, zb_some, zrc, or_true, true_or, eq_self, ne_eq, not_true_eq_false, not_false_eq_true, zrt_i, zrt_zb, zrt_b, zrt_c, zrt_l, zrt_f, zrt_r, zrt_n, zrt_v, zft_0, zft_1, zft_zb, zft_3, zft_4, zft_5, zft_7r, zft_7n, iI_t, zb_i, zb_0, zb_1, Nat.reduceAdd, Nat.reduceLeDiff, Nat.reduceEqDiff, Nat.reduceSub, Int.reduceNeg, iI_add, iI_sub, iI_mul, iI_neg, iI_n, zbz, zchar_id, zin, zwr_s, zwr_a, zwr_i, if_pos, if_neg, Int.toNat_natCast, Int.natCast_zero, Int.reduceToNat, z40, zc6, zc10]
  have key : ∀ n (i j : Nat) (P : Nat) (x5 x6 : Option Value), (sp.length - i) + (lg.length - j) ≤ n → i < sp.length → j < lg.length → (P : Int) = max (spK sp i).2.2.1 (spK lg j).2.2.1 → (P : Int) ≤ (spK sp i).2.2.2 → (P : Int) ≤ (spK lg j).2.2.2 →
      zx 40 7 [some (.ref 6), some (.ref 10), some (.int (Int32.ofInt (apS sp lg P))), some (.int (Int32.ofInt (i : Int))), some (.int (Int32.ofInt (j : Int))), x5, x6] [] (zV h D) = some (.inl (some (.int (Int32.ofInt (apS sp lg 3600)))), zV h D) := by
    intro n
    induction n with
    | zero => intro i j P x5 x6 h1 h2 h3; omega
    | succ n ih =>
      intro i j P x5 x6 h1 h2 h3 hP hP1 hP2
      have bi := spC_b s2 _ (spK_mem (sp := sp) h2)
      have bj := spC_b l2 _ (spK_mem (sp := lg) h3)
      have vi := s5 _ (spK_mem (sp := sp) h2)
      have vj := l5 _ (spK_mem (sp := lg) h3)
      have ni := fun q => spK_n s2 i q
      have nj := fun q => spK_n l2 j q
      have li := fun q => spK_l (k := i) s2 q
      have lj := fun q => spK_l (k := j) l2 q
      obtain ⟨T, hT⟩ : ∃ T : Nat, (T : Int) = min (spK sp i).2.2.2 (spK lg j).2.2.2 := ⟨(min (spK sp i).2.2.2 (spK lg j).2.2.2).toNat, by omega⟩
      have hrun : apS sp lg T = apS sp lg P + (if (spK lg j).1 = (spK sp i).1 then 0 else ((T - P : Nat) : Int)) := by
        have := apS_run (sp := sp) (lg := lg) (i := i) (j := j) (f := P) (T - P) (fun s q1 q2 => ⟨airIx_u s2 (by omega) (by omega) h2 (by omega) (by omega), airIx_u l2 (by omega) (by omega) h3 (by omega) (by omega)⟩)
        rw [show P + (T - P) = T by omega] at this
        exact this
      have a1 := apS_b (sp := sp) (lg := lg) P
      have a2 := apS_b (sp := sp) (lg := lg) T
      obtain ⟨u1, u2, u3⟩ := tRp_K s4 i h2
      obtain ⟨w1, w2, w3⟩ := tRp_K l4 j h3
      have p34 := c34_6 (h := h) (D := D) (i := (i : Int)) (by omega) n6
      have p35 := c35_6 (h := h) (D := D) (i := (i : Int)) (by omega) n6
      have p36 := c36_6 (h := h) (D := D) (i := (i : Int)) (by omega) n6
      have q34 := c34_10 (h := h) (D := D) (i := (j : Int)) (by omega) n10
      have q35 := c35_10 (h := h) (D := D) (i := (j : Int)) (by omega) n10
      have q36 := c36_10 (h := h) (D := D) (i := (j : Int)) (by omega) n10
      rw [if_pos (by omega), Int.toNat_natCast, u1] at p34
      rw [if_pos (by omega), Int.toNat_natCast, u2] at p35
      rw [if_pos (by omega), Int.toNat_natCast, u3] at p36
      rw [if_pos (by omega), Int.toNat_natCast, w1] at q34
      rw [if_pos (by omega), Int.toNat_natCast, w2] at q35
      rw [if_pos (by omega), Int.toNat_natCast, w3] at q36
      -- the rest of the round: mine or theirs goes on
      have rest : zx 40 7 [some (.ref 6), some (.ref 10), some (.int (Int32.ofInt (apS sp lg P))), some (.int (Int32.ofInt (i : Int))), some (.int (Int32.ofInt (j : Int))), x5, x6] [] (zV h D) = zx 40 7 [some (.ref 6), some (.ref 10), some (.int (Int32.ofInt (apS sp lg T))), some (.int (Int32.ofInt (if (spK sp i).2.2.2 ≤ T then ((i + 1 : Nat) : Int) else (i : Int)))), some (.int (Int32.ofInt (if (spK sp i).2.2.2 ≤ T then (j : Int) else ((j + 1 : Nat) : Int)))), some (.int (Int32.ofInt (P : Int))), some (.int (Int32.ofInt (T : Int)))] [] (zV h D) := by
        rw [hrun]
        conv => lhs; rw [z40_7]
        clear ih done s2 s4 s5 l2 l4 l5 hrun ni nj li lj u1 u2 u3 w1 w2 w3
        generalize apS sp lg P = ap at *
        generalize apS sp lg T = at9 at *
        generalize spK sp i = sx at *
        generalize spK lg j = sy at *
        have m1 : max sx.2.2.1 sy.2.2.1 = (P : Int) := hP.symm
        have m2 : min sx.2.2.2 sy.2.2.2 = (T : Int) := hT.symm
        by_cases g1 : (P : Int) < T
        · by_cases g2 : sy.1 = sx.1
          · rw [if_pos g2]
            by_cases g3 : sx.2.2.2 ≤ T
            · rw [if_pos g3, if_pos g3]
              simp (disch := first | omega | (simp (disch := omega) only [zwr_s, zwr_a, zwr_i, zn_put, zn_new, zn_fil, zn_chg, zV_n]; omega)) only [zentry, zs0, zs1, zs2, zs3, zg_lo, zg_st, zg_st2, zg_ald, zg_ast, zs_ia, zs_i0, zcs, zg_ii, zi_max, zi_min, zi_abi, zi_abf, zi_fb, zi_bf, lget, lst, lst2, lc2, Option.map_some, zso, if_true, if_false, zc1, and_true, true_and, and_self, List.length_nil, List.length_cons, Nat.zero_le, reduceIte, reduceCtorEq, false_and, and_false, Bool.false_eq_true, zca_some, zr0, zr100, Option.bind_some, zb_none, zb_some, zrc, or_true, true_or, eq_self, ne_eq, not_true_eq_false, not_false_eq_true, zrt_i, zrt_zb, zrt_b, zrt_c, zrt_l, zrt_f, zrt_r, zrt_n, zrt_v, zft_0, zft_1, zft_zb, zft_3, zft_4, zft_5, zft_7r, zft_7n, iI_t, zb_i, zb_0, zb_1, Nat.reduceAdd, Nat.reduceLeDiff, Nat.reduceEqDiff, Nat.reduceSub, Int.reduceNeg, iI_add, iI_sub, iI_mul, iI_neg, iI_n, zbz, zchar_id, zin, zwr_s, zwr_a, zwr_i, if_pos, if_neg, Int.toNat_natCast, Int.natCast_zero, Int.reduceToNat, z40, p34, p35, p36, q34, q35, q36, m1, m2, g2, zt2, zc6, zc10, Int.add_zero]
            · rw [if_neg g3, if_neg g3]
              simp (disch := first | omega | (simp (disch := omega) only [zwr_s, zwr_a, zwr_i, zn_put, zn_new, zn_fil, zn_chg, zV_n]; omega)) only [zentry, zs0, zs1, zs2, zs3, zg_lo, zg_st, zg_st2, zg_ald, zg_ast, zs_ia, zs_i0, zcs, zg_ii, zi_max, zi_min, zi_abi, zi_abf, zi_fb, zi_bf, lget, lst, lst2, lc2, Option.map_some, zso, if_true, if_false, zc1, and_true, true_and, and_self, List.length_nil, List.length_cons, Nat.zero_le, reduceIte, reduceCtorEq, false_and, and_false, Bool.false_eq_true, zca_some, zr0, zr100, Option.bind_some, zb_none, zb_some, zrc, or_true, true_or, eq_self, ne_eq, not_true_eq_false, not_false_eq_true, zrt_i, zrt_zb, zrt_b, zrt_c, zrt_l, zrt_f, zrt_r, zrt_n, zrt_v, zft_0, zft_1, zft_zb, zft_3, zft_4, zft_5, zft_7r, zft_7n, iI_t, zb_i, zb_0, zb_1, Nat.reduceAdd, Nat.reduceLeDiff, Nat.reduceEqDiff, Nat.reduceSub, Int.reduceNeg, iI_add, iI_sub, iI_mul, iI_neg, iI_n, zbz, zchar_id, zin, zwr_s, zwr_a, zwr_i, if_pos, if_neg, Int.toNat_natCast, Int.natCast_zero, Int.reduceToNat, z40, p34, p35, p36, q34, q35, q36, m1, m2, g2, zt2, zc6, zc10, Int.add_zero]
          · rw [if_neg g2]
            have eT : ((T - P : Nat) : Int) = (T : Int) - P := by omega
            rw [eT]
            by_cases g3 : sx.2.2.2 ≤ T
            · rw [if_pos g3, if_pos g3]
              simp (disch := first | omega | (simp (disch := omega) only [zwr_s, zwr_a, zwr_i, zn_put, zn_new, zn_fil, zn_chg, zV_n]; omega)) only [zentry, zs0, zs1, zs2, zs3, zg_lo, zg_st, zg_st2, zg_ald, zg_ast, zs_ia, zs_i0, zcs, zg_ii, zi_max, zi_min, zi_abi, zi_abf, zi_fb, zi_bf, lget, lst, lst2, lc2, Option.map_some, zso, if_true, if_false, zc1, and_true, true_and, and_self, List.length_nil, List.length_cons, Nat.zero_le, reduceIte, reduceCtorEq, false_and, and_false, Bool.false_eq_true, zca_some, zr0, zr100, Option.bind_some, zb_none, zb_some, zrc, or_true, true_or, eq_self, ne_eq, not_true_eq_false, not_false_eq_true, zrt_i, zrt_zb, zrt_b, zrt_c, zrt_l, zrt_f, zrt_r, zrt_n, zrt_v, zft_0, zft_1, zft_zb, zft_3, zft_4, zft_5, zft_7r, zft_7n, iI_t, zb_i, zb_0, zb_1, Nat.reduceAdd, Nat.reduceLeDiff, Nat.reduceEqDiff, Nat.reduceSub, Int.reduceNeg, iI_add, iI_sub, iI_mul, iI_neg, iI_n, zbz, zchar_id, zin, zwr_s, zwr_a, zwr_i, if_pos, if_neg, Int.toNat_natCast, Int.natCast_zero, Int.reduceToNat, z40, p34, p35, p36, q34, q35, q36, m1, m2, zt2, zc6, zc10]
            · rw [if_neg g3, if_neg g3]
              simp (disch := first | omega | (simp (disch := omega) only [zwr_s, zwr_a, zwr_i, zn_put, zn_new, zn_fil, zn_chg, zV_n]; omega)) only [zentry, zs0, zs1, zs2, zs3, zg_lo, zg_st, zg_st2, zg_ald, zg_ast, zs_ia, zs_i0, zcs, zg_ii, zi_max, zi_min, zi_abi, zi_abf, zi_fb, zi_bf, lget, lst, lst2, lc2, Option.map_some, zso, if_true, if_false, zc1, and_true, true_and, and_self, List.length_nil, List.length_cons, Nat.zero_le, reduceIte, reduceCtorEq, false_and, and_false, Bool.false_eq_true, zca_some, zr0, zr100, Option.bind_some, zb_none, zb_some, zrc, or_true, true_or, eq_self, ne_eq, not_true_eq_false, not_false_eq_true, zrt_i, zrt_zb, zrt_b, zrt_c, zrt_l, zrt_f, zrt_r, zrt_n, zrt_v, zft_0, zft_1, zft_zb, zft_3, zft_4, zft_5, zft_7r, zft_7n, iI_t, zb_i, zb_0, zb_1, Nat.reduceAdd, Nat.reduceLeDiff, Nat.reduceEqDiff, Nat.reduceSub, Int.reduceNeg, iI_add, iI_sub, iI_mul, iI_neg, iI_n, zbz, zchar_id, zin, zwr_s, zwr_a, zwr_i, if_pos, if_neg, Int.toNat_natCast, Int.natCast_zero, Int.reduceToNat, z40, p34, p35, p36, q34, q35, q36, m1, m2, zt2, zc6, zc10]
        · have e0 : (if sy.1 = sx.1 then (0 : Int) else ((T - P : Nat) : Int)) = 0 := by
            split
            · rfl
            · omega
          rw [e0]
          by_cases g3 : sx.2.2.2 ≤ T
          · rw [if_pos g3, if_pos g3]
            simp (disch := first | omega | (simp (disch := omega) only [zwr_s, zwr_a, zwr_i, zn_put, zn_new, zn_fil, zn_chg, zV_n]; omega)) only [zentry, zs0, zs1, zs2, zs3, zg_lo, zg_st, zg_st2, zg_ald, zg_ast, zs_ia, zs_i0, zcs, zg_ii, zi_max, zi_min, zi_abi, zi_abf, zi_fb, zi_bf, lget, lst, lst2, lc2, Option.map_some, zso, if_true, if_false, zc1, and_true, true_and, and_self, List.length_nil, List.length_cons, Nat.zero_le, reduceIte, reduceCtorEq, false_and, and_false, Bool.false_eq_true, zca_some, zr0, zr100, Option.bind_some, zb_none, zb_some, zrc, or_true, true_or, eq_self, ne_eq, not_true_eq_false, not_false_eq_true, zrt_i, zrt_zb, zrt_b, zrt_c, zrt_l, zrt_f, zrt_r, zrt_n, zrt_v, zft_0, zft_1, zft_zb, zft_3, zft_4, zft_5, zft_7r, zft_7n, iI_t, zb_i, zb_0, zb_1, Nat.reduceAdd, Nat.reduceLeDiff, Nat.reduceEqDiff, Nat.reduceSub, Int.reduceNeg, iI_add, iI_sub, iI_mul, iI_neg, iI_n, zbz, zchar_id, zin, zwr_s, zwr_a, zwr_i, if_pos, if_neg, Int.toNat_natCast, Int.natCast_zero, Int.reduceToNat, z40, p34, p35, p36, q34, q35, q36, m1, m2, zt2, zc6, zc10, Int.add_zero]
          · rw [if_neg g3, if_neg g3]
            simp (disch := first | omega | (simp (disch := omega) only [zwr_s, zwr_a, zwr_i, zn_put, zn_new, zn_fil, zn_chg, zV_n]; omega)) only [zentry, zs0, zs1, zs2, zs3, zg_lo, zg_st, zg_st2, zg_ald, zg_ast, zs_ia, zs_i0, zcs, zg_ii, zi_max, zi_min, zi_abi, zi_abf, zi_fb, zi_bf, lget, lst, lst2, lc2, Option.map_some, zso, if_true, if_false, zc1, and_true, true_and, and_self, List.length_nil, List.length_cons, Nat.zero_le, reduceIte, reduceCtorEq, false_and, and_false, Bool.false_eq_true, zca_some, zr0, zr100, Option.bind_some, zb_none, zb_some, zrc, or_true, true_or, eq_self, ne_eq, not_true_eq_false, not_false_eq_true, zrt_i, zrt_zb, zrt_b, zrt_c, zrt_l, zrt_f, zrt_r, zrt_n, zrt_v, zft_0, zft_1, zft_zb, zft_3, zft_4, zft_5, zft_7r, zft_7n, iI_t, zb_i, zb_0, zb_1, Nat.reduceAdd, Nat.reduceLeDiff, Nat.reduceEqDiff, Nat.reduceSub, Int.reduceNeg, iI_add, iI_sub, iI_mul, iI_neg, iI_n, zbz, zchar_id, zin, zwr_s, zwr_a, zwr_i, if_pos, if_neg, Int.toNat_natCast, Int.natCast_zero, Int.reduceToNat, z40, p34, p35, p36, q34, q35, q36, m1, m2, zt2, zc6, zc10, Int.add_zero]
      rw [rest]
      by_cases g3 : (spK sp i).2.2.2 ≤ T
      · rw [if_pos g3, if_pos g3]
        by_cases g4 : i + 1 < sp.length
        · have e := ni g4
          have b2 := spC_b s2 _ (spK_mem (sp := sp) g4)
          exact ih (i + 1) j T _ _ (by omega) g4 h3 (by omega) (by omega) (by omega)
        · have e := li (by omega)
          rw [show T = 3600 by omega]
          exact done (i + 1) j _ _ (by omega) (by omega) (Or.inl (by omega))
      · rw [if_neg g3, if_neg g3]
        by_cases g4 : j + 1 < lg.length
        · have e := nj g4
          have b2 := spC_b l2 _ (spK_mem (sp := lg) g4)
          exact ih i (j + 1) T _ _ (by omega) h2 g4 (by omega) (by omega) (by omega)
        · have e := lj (by omega)
          omega
  have i0 : 0 < sp.length := by
    by_cases g : 0 < sp.length
    · exact g
    · have : sp = [] := List.length_eq_zero_iff.mp (by omega)
      rw [this] at s2
      have : (3600 : Int) = 0 := s2
      omega
  have j0 : 0 < lg.length := by
    by_cases g : 0 < lg.length
    · exact g
    · have : lg = [] := List.length_eq_zero_iff.mp (by omega)
      rw [this] at l2
      have : (3600 : Int) = 0 := l2
      omega
  have first : ∀ {sp : zSp}, spC 3600 sp → 0 < sp.length → (spK sp 0).2.2.1 = 0 := by
    intro sp hs h0
    obtain ⟨b1, b2, b3, b4⟩ := airIx_p hs (s := 0) (by omega) (by omega)
    have : airIx 0 sp = 0 := by
      by_cases g : airIx 0 sp = 0
      · exact g
      · have c := spC_b hs _ (spK_mem (sp := sp) (k := 0) h0)
        have := b4 0 (by omega)
        omega
    rw [this] at b2
    have c := spC_b hs _ (spK_mem (sp := sp) (k := 0) h0)
    omega
  have f1 := first s2 i0
  have f2 := first l2 j0
  have b1 := spC_b s2 _ (spK_mem (sp := sp) i0)
  have b2 := spC_b l2 _ (spK_mem (sp := lg) j0)
  have K := key (sp.length + lg.length) 0 0 0 none none (by omega) i0 j0 (by omega) (by omega) (by omega)
  rw [apS] at K
  rw [← K, zc]
  clear key done K s2 s4 s5 l2 l4 l5 first
  simp (disch := first | omega | (simp (disch := omega) only [zwr_s, zwr_a, zwr_i, zn_put, zn_new, zn_fil, zn_chg, zV_n]; omega)) only [zentry, zs0, zs1, zs2, zs3, zg_lo, zg_st, zg_st2, zg_ald, zg_ast, zs_ia, zs_i0, zcs, zg_ii, zi_max, zi_min, zi_abi, zi_abf, zi_fb, zi_bf, lget, lst, lst2, lc2, Option.map_some, zso, if_true, if_false, zc1, and_true, true_and, and_self, List.length_nil, List.length_cons, Nat.zero_le, reduceIte, reduceCtorEq, false_and, and_false, Bool.false_eq_true, zca_some, zr0, zr100, Option.bind_some, zb_none, zb_some, zrc, or_true, true_or, eq_self, ne_eq, not_true_eq_false, not_false_eq_true, zrt_i, zrt_zb, zrt_b, zrt_c, zrt_l, zrt_f, zrt_r, zrt_n, zrt_v, zft_0, zft_1, zft_zb, zft_3, zft_4, zft_5, zft_7r, zft_7n, iI_t, zb_i, zb_0, zb_1, Nat.reduceAdd, Nat.reduceLeDiff, Nat.reduceEqDiff, Nat.reduceSub, Int.reduceNeg, iI_add, iI_sub, iI_mul, iI_neg, iI_n, zbz, zchar_id, zin, zwr_s, zwr_a, zwr_i, if_pos, if_neg, Int.toNat_natCast, Int.natCast_zero, Int.reduceToNat, z40, zc6, zc10]

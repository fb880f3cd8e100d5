/-! the class: timelines asked -/
theorem airIx_u {t s : Int} {sp : zSp} {k : Nat} (h : spC t sp) (h0 : 0 ≤ s) (h1 : s < t) (hk : k < sp.length) (k1 : (spK sp k).2.2.1 ≤ s) (k2 : s < (spK sp k).2.2.2) : airIx s sp = k := by
  obtain ⟨a1, a2, a3, a4⟩ := airIx_p h h0 h1
  rcases Nat.lt_trichotomy (airIx s sp) k with g | g | g
  · have mono : ∀ j n, j + n < sp.length → (spK sp j).2.2.2 ≤ (spK sp (j + n)).2.2.2 := by
      intro j n
      induction n with
      | zero => intro _; exact Int.le_refl _
      | succ n ih =>
        intro hj
        have e := spK_n h (j + n) (by omega)
        have b := spC_b h _ (spK_mem (sp := sp) (k := j + (n + 1)) (by omega))
        have := ih (by omega)
        rw [show j + n + 1 = j + (n + 1) by omega] at e
        omega
    have e := spK_n h (k - 1) (by omega)
    rw [show k - 1 + 1 = k by omega] at e
    have := mono (airIx s sp) (k - 1 - airIx s sp) (by omega)
    rw [show airIx s sp + (k - 1 - airIx s sp) = k - 1 by omega] at this
    omega
  · exact g
  · have := a4 k g
    omega
theorem airIx_s {t s : Int} {sp : zSp} (h : spC t sp) (h0 : 0 ≤ s) (h1 : s + 1 < t) : airIx (s + 1) sp = if (spK sp (airIx s sp)).2.2.2 = s + 1 then airIx s sp + 1 else airIx s sp := by
  obtain ⟨a1, a2, a3, a4⟩ := airIx_p h h0 (by omega)
  by_cases g : (spK sp (airIx s sp)).2.2.2 = s + 1
  · rw [if_pos g]
    have hlt : airIx s sp + 1 < sp.length := by
      have e := lnS_t h
      by_cases g2 : airIx s sp + 1 < sp.length
      · exact g2
      · have hl : sp.length = airIx s sp + 1 := by omega
        have : (spK sp (airIx s sp)).2.2.2 = t := by
          cases sp with
          | nil => simp at hl
          | cons x r =>
            obtain ⟨q1, -, -⟩ := h
            rw [List.length_cons] at hl
            rw [spK_cons, if_neg (by omega), if_pos (by omega)]
            exact q1
        omega
    have e := spK_n h (airIx s sp) hlt
    have b := spC_b h _ (spK_mem (sp := sp) hlt)
    exact airIx_u h (by omega) h1 hlt (by omega) (by omega)
  · rw [if_neg g]
    exact airIx_u h (by omega) h1 a1 (by omega) (by omega)
set_option maxRecDepth 20000 in
theorem c38_6 {s : Int} {h : zH} {D : zD} {sp : zSp} (h1 : D 6 3 = sp.length) (hC : spC 3600 sp) (hl : sp.length ≤ 116) (hr : tRp 6 D sp) (hs : 0 ≤ s ∧ s < 3600) : zc 38 3 [.ref 6, .int (Int32.ofInt s)] (zV h D) = some (.inl (some (.int (Int32.ofInt (spK sp (airIx s sp)).1))), zV h D) := by
  obtain ⟨a1, a2, a3, a4⟩ := airIx_p hC hs.1 hs.2
  have hn : 0 ≤ D 6 3 ∧ D 6 3 ≤ 116 := by omega
  have hloop := zloop (k := 38) (pc := 2) (fun i => [some (.ref 6), some (.int (Int32.ofInt s)), some (.int (Int32.ofInt (i : Int)))]) (fun _ => zV h D) (airIx s sp) (fun i hi => by
    obtain ⟨r1, r2, r3⟩ := tRp_K hr i (by omega)
    have b := a4 i hi
    have c := spC_b hC _ (spK_mem (sp := sp) (k := i) (by omega))
    have e35 := c35_6 (h := h) (D := D) (i := (i : Int)) (by omega) hn
    have e36 := c36_6 (h := h) (D := D) (i := (i : Int)) (by omega) hn
    rw [if_pos (by omega), Int.toNat_natCast, r2] at e35
    rw [if_pos (by omega), Int.toNat_natCast, r3] at e36
    conv => lhs; rw [z38_2]
    clear hr hC a4 a2 a3
    generalize spK sp i = sx at *
    simp (disch := first | omega | (simp (disch := omega) only [zwr_s, zwr_a, zwr_i, zn_put, zn_new, zn_fil, zn_chg, zV_n]; omega)) only [zentry, zs0, zs1, zs2, zs3, zg_lo, zg_st, zg_st2, zg_ald, zg_ast, zs_ia, zs_i0, zcs, zg_ii, zi_max, zi_min, zi_abi, zi_abf, zi_fb, zi_bf, lget, lst, lst2, lc2, Option.map_some, zso, if_true, if_false, zc1, and_true, true_and, and_self, List.length_nil, List.length_cons, Nat.zero_le, reduceIte, reduceCtorEq, false_and, and_false, Bool.false_eq_true, zca_some, zr0, zr100, Option.bind_some, zb_none, zb_some, zrc, or_true, true_or, eq_self, ne_eq, not_true_eq_false, not_false_eq_true, zrt_i, zrt_zb, zrt_b, zrt_c, zrt_l, zrt_f, zrt_r, zrt_n, zrt_v, zft_0, zft_1, zft_zb, zft_3, zft_4, zft_5, zft_7r, zft_7n, iI_t, zb_i, zb_0, zb_1, Nat.reduceAdd, Nat.reduceLeDiff, Nat.reduceEqDiff, Nat.reduceSub, Int.reduceNeg, iI_add, iI_sub, iI_mul, iI_neg, iI_n, zbz, zchar_id, zin, zwr_s, zwr_a, zwr_i, if_pos, if_neg, Int.toNat_natCast, Int.natCast_zero, Int.reduceToNat, z38, e35, e36, zt2, zc6]) (airIx s sp) (Nat.le_refl _)
  obtain ⟨r1, r2, r3⟩ := tRp_K hr (airIx s sp) a1
  have c := spC_b hC _ (spK_mem (sp := sp) a1)
  have e34 := c34_6 (h := h) (D := D) (i := (airIx s sp : Int)) (by omega) hn
  have e35 := c35_6 (h := h) (D := D) (i := (airIx s sp : Int)) (by omega) hn
  have e36 := c36_6 (h := h) (D := D) (i := (airIx s sp : Int)) (by omega) hn
  rw [if_pos (by omega), Int.toNat_natCast, r1] at e34
  rw [if_pos (by omega), Int.toNat_natCast, r2] at e35
  rw [if_pos (by omega), Int.toNat_natCast, r3] at e36
  have st : zc 38 3 [.ref 6, .int (Int32.ofInt s)] (zV h D) = zx 38 2 [some (.ref 6), some (.int (Int32.ofInt s)), some (.int (Int32.ofInt ((0 : Nat) : Int)))] [] (zV h D) := by
    rw [zc]
    clear hr hC hloop a4 e34 e35 e36
    simp (disch := first | omega | (simp (disch := omega) only [zwr_s, zwr_a, zwr_i, zn_put, zn_new, zn_fil, zn_chg, zV_n]; omega)) only [zentry, zs0, zs1, zs2, zs3, zg_lo, zg_st, zg_st2, zg_ald, zg_ast, zs_ia, zs_i0, zcs, zg_ii, zi_max, zi_min, zi_abi, zi_abf, zi_fb, zi_bf, lget, lst, lst2, lc2, Option.map_some, zso, if_true, if_false, zc1, and_true, true_and, and_self, List.length_nil, List.length_cons, Nat.zero_le, reduceIte, reduceCtorEq, false_and, and_false, Bool.false_eq_true, zca_some, zr0, zr100, Option.bind_some, zb_none, zb_some, zrc, or_true, true_or, eq_self, ne_eq, not_true_eq_false, not_false_eq_true, zrt_i, zrt_zb, zrt_b, zrt_c, zrt_l, zrt_f, zrt_r, zrt_n, zrt_v, zft_0, zft_1, zft_zb, zft_3, zft_4, zft_5, zft_7r, zft_7n, iI_t, zb_i, zb_0, zb_1, Nat.reduceAdd, Nat.reduceLeDiff, Nat.reduceEqDiff, Nat.reduceSub, Int.reduceNeg, iI_add, iI_sub, iI_mul, iI_neg, iI_n, zbz, zchar_id, zin, zwr_s, zwr_a, zwr_i, if_pos, if_neg, Int.toNat_natCast, Int.natCast_zero, Int.reduceToNat, z38]
  rw [st]
  refine Eq.trans hloop ?_
  rw [z38_2]
  clear hr hC hloop a4 st
  generalize spK sp (airIx s sp) = sx at *
  generalize airIx s sp = ix at *
  simp (disch := first | omega | (simp (disch := omega) only [zwr_s, zwr_a, zwr_i, zn_put, zn_new, zn_fil, zn_chg, zV_n]; omega)) only [zentry, zs0, zs1, zs2, zs3, zg_lo, zg_st, zg_st2, zg_ald, zg_ast, zs_ia, zs_i0, zcs, zg_ii, zi_max, zi_min, zi_abi, zi_abf, zi_fb, zi_bf, lget, lst, lst2, lc2, Option.map_some, zso, if_true, if_false, zc1, and_true, true_and, and_self, List.length_nil, List.length_cons, Nat.zero_le, reduceIte, reduceCtorEq, false_and, and_false, Bool.false_eq_true, zca_some, zr0, zr100, Option.bind_some, zb_none, zb_some, zrc, or_true, true_or, eq_self, ne_eq, not_true_eq_false, not_false_eq_true, zrt_i, zrt_zb, zrt_b, zrt_c, zrt_l, zrt_f, zrt_r, zrt_n, zrt_v, zft_0, zft_1, zft_zb, zft_3, zft_4, zft_5, zft_7r, zft_7n, iI_t, zb_i, zb_0, zb_1, Nat.reduceAdd, Nat.reduceLeDiff, Nat.reduceEqDiff, Nat.reduceSub, Int.reduceNeg, iI_add, iI_sub, iI_mul, iI_neg, iI_n, zbz, zchar_id, zin, zwr_s, zwr_a, zwr_i, if_pos, if_neg, Int.toNat_natCast, Int.natCast_zero, Int.reduceToNat, z38, e34, e35, e36, zt2, zc6]
set_option maxRecDepth 20000 in
theorem c39_6 {s : Int} {h : zH} {D : zD} {sp : zSp} (h1 : D 6 3 = sp.length) (hC : spC 3600 sp) (hl : sp.length ≤ 116) (hr : tRp 6 D sp) (hs : 0 ≤ s ∧ s < 3600) : zc 39 4 [.ref 6, .int (Int32.ofInt s)] (zV h D) = some (.inl (some (.int (Int32.ofInt (spK sp (airIx s sp)).1))), zV h D) := by
  have hn : 0 ≤ D 6 3 ∧ D 6 3 ≤ 116 := by omega
  have hloop := zloop (k := 39) (pc := 4) (fun i => [some (.ref 6), some (.int (Int32.ofInt s)), some (.int (Int32.ofInt (airIx (i : Int) sp : Int))), some (.int (Int32.ofInt ((i : Int) + 1)))]) (fun _ => zV h D) s.toNat (fun i hi => by
    obtain ⟨a1, a2, a3, a4⟩ := airIx_p hC (s := (i : Int)) (by omega) (by omega)
    obtain ⟨r1, r2, r3⟩ := tRp_K hr _ a1
    have c := spC_b hC _ (spK_mem (sp := sp) a1)
    have e36 := c36_6 (h := h) (D := D) (i := (airIx (i : Int) sp : Int)) (by omega) hn
    rw [if_pos (by omega), Int.toNat_natCast, r3] at e36
    have ei := airIx_s hC (s := (i : Int)) (by omega) (by omega)
    rw [← zcs] at ei
    have ee1 : ((i + 1 : Nat) : Int) = (i : Int) + 1 := rfl
    conv => lhs; rw [z39_4]
    rw [ei, ee1]
    clear hr hC a4 a2 ei
    generalize spK sp (airIx (i : Int) sp) = sx at *
    generalize airIx (i : Int) sp = ix at *
    by_cases g : sx.2.2.2 = (i : Int) + 1
    · rw [if_pos (by rw [g])]
      simp (disch := first | omega | (simp (disch := omega) only [zwr_s, zwr_a, zwr_i, zn_put, zn_new, zn_fil, zn_chg, zV_n]; omega)) only [zentry, zs0, zs1, zs2, zs3, zg_lo, zg_st, zg_st2, zg_ald, zg_ast, zs_ia, zs_i0, zcs, zg_ii, zi_max, zi_min, zi_abi, zi_abf, zi_fb, zi_bf, lget, lst, lst2, lc2, Option.map_some, zso, if_true, if_false, zc1, and_true, true_and, and_self, List.length_nil, List.length_cons, Nat.zero_le, reduceIte, reduceCtorEq, false_and, and_false, Bool.false_eq_true, zca_some, zr0, zr100, Option.bind_some, zb_none, zb_some, zrc, or_true, true_or, eq_self, ne_eq, not_true_eq_false, not_false_eq_true, zrt_i, zrt_zb, zrt_b, zrt_c, zrt_l, zrt_f, zrt_r, zrt_n, zrt_v, zft_0, zft_1, zft_zb, zft_3, zft_4, zft_5, zft_7r, zft_7n, iI_t, zb_i, zb_0, zb_1, Nat.reduceAdd, Nat.reduceLeDiff, Nat.reduceEqDiff, Nat.reduceSub, Int.reduceNeg, iI_add, iI_sub, iI_mul, iI_neg, iI_n, zbz, zchar_id, zin, zwr_s, zwr_a, zwr_i, if_pos, if_neg, Int.toNat_natCast, Int.natCast_zero, Int.reduceToNat, z39, e36, g, zt2, zc6]
    · rw [if_neg g]
      simp (disch := first | omega | (simp (disch := omega) only [zwr_s, zwr_a, zwr_i, zn_put, zn_new, zn_fil, zn_chg, zV_n]; omega)) only [zentry, zs0, zs1, zs2, zs3, zg_lo, zg_st, zg_st2, zg_ald, zg_ast, zs_ia, zs_i0, zcs, zg_ii, zi_max, zi_min, zi_abi, zi_abf, zi_fb, zi_bf, lget, lst, lst2, lc2, Option.map_some, zso, if_true, if_false, zc1, and_true, true_and, and_self, List.length_nil, List.length_cons, Nat.zero_le, reduceIte, reduceCtorEq, false_and, and_false, Bool.false_eq_true, zca_some, zr0, zr100, Option.bind_some, zb_none, zb_some, zrc, or_true, true_or, eq_self, ne_eq, not_true_eq_false, not_false_eq_true, zrt_i, zrt_zb, zrt_b, zrt_c, zrt_l, zrt_f, zrt_r, zrt_n, zrt_v, zft_0, zft_1, zft_zb, zft_3, zft_4, zft_5, zft_7r, zft_7n, iI_t, zb_i, zb_0, zb_1, Nat.reduceAdd, Nat.reduceLeDiff, Nat.reduceEqDiff, Nat.reduceSub, Int.reduceNeg, iI_add, iI_sub, iI_mul, iI_neg, iI_n, zbz, zchar_id, zin, zwr_s, zwr_a, zwr_i, if_pos, if_neg, Int.toNat_natCast, Int.natCast_zero, Int.reduceToNat, z39, e36, zt2, zc6]) s.toNat (Nat.le_refl _)
  obtain ⟨a1, a2, a3, a4⟩ := airIx_p hC hs.1 hs.2
  obtain ⟨r1, r2, r3⟩ := tRp_K hr (airIx s sp) a1
  have e34 := c34_6 (h := h) (D := D) (i := (airIx s sp : Int)) (by omega) hn
  rw [if_pos (by omega), Int.toNat_natCast, r1] at e34
  have h0 : airIx ((0 : Nat) : Int) sp = 0 := by
    obtain ⟨b1, b2, b3, b4⟩ := airIx_p hC (s := 0) (by omega) (by omega)
    by_cases g : airIx 0 sp = 0
    · exact g
    · have c := spC_b hC _ (spK_mem (sp := sp) (k := 0) (by omega))
      have := b4 0 (by omega)
      omega
  have st : zc 39 4 [.ref 6, .int (Int32.ofInt s)] (zV h D) = zx 39 4 [some (.ref 6), some (.int (Int32.ofInt s)), some (.int (Int32.ofInt ((0 : Nat) : Int))), some (.int (Int32.ofInt (((0 : Nat) : Int) + 1)))] [] (zV h D) := by
    rw [zc]
    clear hr hC hloop a4 e34
    simp (disch := first | omega | (simp (disch := omega) only [zwr_s, zwr_a, zwr_i, zn_put, zn_new, zn_fil, zn_chg, zV_n]; omega)) only [zentry, zs0, zs1, zs2, zs3, zg_lo, zg_st, zg_st2, zg_ald, zg_ast, zs_ia, zs_i0, zcs, zg_ii, zi_max, zi_min, zi_abi, zi_abf, zi_fb, zi_bf, lget, lst, lst2, lc2, Option.map_some, zso, if_true, if_false, zc1, and_true, true_and, and_self, List.length_nil, List.length_cons, Nat.zero_le, reduceIte, reduceCtorEq, false_and, and_false, Bool.false_eq_true, zca_some, zr0, zr100, Option.bind_some, zb_none, zb_some, zrc, or_true, true_or, eq_self, ne_eq, not_true_eq_false, not_false_eq_true, zrt_i, zrt_zb, zrt_b, zrt_c, zrt_l, zrt_f, zrt_r, zrt_n, zrt_v, zft_0, zft_1, zft_zb, zft_3, zft_4, zft_5, zft_7r, zft_7n, iI_t, zb_i, zb_0, zb_1, Nat.reduceAdd, Nat.reduceLeDiff, Nat.reduceEqDiff, Nat.reduceSub, Int.reduceNeg, iI_add, iI_sub, iI_mul, iI_neg, iI_n, zbz, zchar_id, zin, zwr_s, zwr_a, zwr_i, if_pos, if_neg, Int.toNat_natCast, Int.natCast_zero, Int.reduceToNat, z39, Int.zero_add]
  have es : ((s.toNat : Nat) : Int) = s := by omega
  simp only [h0, es] at hloop
  rw [st, hloop, z39_4]
  clear hr hC hloop a4 st a2 a3
  generalize spK sp (airIx s sp) = sx at *
  generalize airIx s sp = ix at *
  simp (disch := first | omega | (simp (disch := omega) only [zwr_s, zwr_a, zwr_i, zn_put, zn_new, zn_fil, zn_chg, zV_n]; omega)) only [zentry, zs0, zs1, zs2, zs3, zg_lo, zg_st, zg_st2, zg_ald, zg_ast, zs_ia, zs_i0, zcs, zg_ii, zi_max, zi_min, zi_abi, zi_abf, zi_fb, zi_bf, lget, lst, lst2, lc2, Option.map_some, zso, if_true, if_false, zc1, and_true, true_and, and_self, List.length_nil, List.length_cons, Nat.zero_le, reduceIte, reduceCtorEq, false_and, and_false, Bool.false_eq_true, zca_some, zr0, zr100, Option.bind_some, zb_none, zb_some, zrc, or_true, true_or, eq_self, ne_eq, not_true_eq_false, not_false_eq_true, zrt_i, zrt_zb, zrt_b, zrt_c, zrt_l, zrt_f, zrt_r, zrt_n, zrt_v, zft_0, zft_1, zft_zb, zft_3, zft_4, zft_5, zft_7r, zft_7n, iI_t, zb_i, zb_0, zb_1, Nat.reduceAdd, Nat.reduceLeDiff, Nat.reduceEqDiff, Nat.reduceSub, Int.reduceNeg, iI_add, iI_sub, iI_mul, iI_neg, iI_n, zbz, zchar_id, zin, zwr_s, zwr_a, zwr_i, if_pos, if_neg, Int.toNat_natCast, Int.natCast_zero, Int.reduceToNat, z39, e34, zt2, zc6]
set_option maxRecDepth 20000 in
theorem c38_10 {s : Int} {h : zH} {D : zD} {sp : zSp} (h1 : D 10 3 = sp.length) (hC : spC 3600 sp) (hl : sp.length ≤ 116) (hr : tRp 10 D sp) (hs : 0 ≤ s ∧ s < 3600) : zc 38 3 [.ref 10, .int (Int32.ofInt s)] (zV h D) = some (.inl (some (.int (Int32.ofInt (spK sp (airIx s sp)).1))), zV h D) := by
  obtain ⟨a1, a2, a3, a4⟩ := airIx_p hC hs.1 hs.2
  have hn : 0 ≤ D 10 3 ∧ D 10 3 ≤ 116 := by omega
  have hloop := zloop (k := 38) (pc := 2) (fun i => [some (.ref 10), some (.int (Int32.ofInt s)), some (.int (Int32.ofInt (i : Int)))]) (fun _ => zV h D) (airIx s sp) (fun i hi => by
    obtain ⟨r1, r2, r3⟩ := tRp_K hr i (by omega)
    have b := a4 i hi
    have c := spC_b hC _ (spK_mem (sp := sp) (k := i) (by omega))
    have e35 := c35_10 (h := h) (D := D) (i := (i : Int)) (by omega) hn
    have e36 := c36_10 (h := h) (D := D) (i := (i : Int)) (by omega) hn
    rw [if_pos (by omega), Int.toNat_natCast, r2] at e35
    rw [if_pos (by omega), Int.toNat_natCast, r3] at e36
    conv => lhs; rw [z38_2]
    clear hr hC a4 a2 a3
    generalize spK sp i = sx at *
    simp (disch := first | omega | (simp (disch := omega) only [zwr_s, zwr_a, zwr_i, zn_put, zn_new, zn_fil, zn_chg, zV_n]; omega)) only [zentry, zs0, zs1, zs2, zs3, zg_lo, zg_st, zg_st2, zg_ald, zg_ast, zs_ia, zs_i0, zcs, zg_ii, zi_max, zi_min, zi_abi, zi_abf, zi_fb, zi_bf, lget, lst, lst2, lc2, Option.map_some, zso, if_true, if_false, zc1, and_true, true_and, and_self, List.length_nil, List.length_cons, Nat.zero_le, reduceIte, reduceCtorEq, false_and, and_false, Bool.false_eq_true, zca_some, zr0, zr100, Option.bind_some, zb_none, zb_some, zrc, or_true, true_or, eq_self, ne_eq, not_true_eq_false, not_false_eq_true, zrt_i, zrt_zb, zrt_b, zrt_c, zrt_l, zrt_f, zrt_r, zrt_n, zrt_v, zft_0, zft_1, zft_zb, zft_3, zft_4, zft_5, zft_7r, zft_7n, iI_t, zb_i, zb_0, zb_1, Nat.reduceAdd, Nat.reduceLeDiff, Nat.reduceEqDiff, Nat.reduceSub, Int.reduceNeg, iI_add, iI_sub, iI_mul, iI_neg, iI_n, zbz, zchar_id, zin, zwr_s, zwr_a, zwr_i, if_pos, if_neg, Int.toNat_natCast, Int.natCast_zero, Int.reduceToNat, z38, e35, e36, zt2, zc10]) (airIx s sp) (Nat.le_refl _)
  obtain ⟨r1, r2, r3⟩ := tRp_K hr (airIx s sp) a1
  have c := spC_b hC _ (spK_mem (sp := sp) a1)
  have e34 := c34_10 (h := h) (D := D) (i := (airIx s sp : Int)) (by omega) hn
  have e35 := c35_10 (h := h) (D := D) (i := (airIx s sp : Int)) (by omega) hn
  have e36 := c36_10 (h := h) (D := D) (i := (airIx s sp : Int)) (by omega) hn
  rw [if_pos (by omega), Int.toNat_natCast, r1] at e34
  rw [if_pos (by omega), Int.toNat_natCast, r2] at e35
  rw [if_pos (by omega), Int.toNat_natCast, r3] at e36
  have st : zc 38 3 [.ref 10, .int (Int32.ofInt s)] (zV h D) = zx 38 2 [some (.ref 10), some (.int (Int32.ofInt s)), some (.int (Int32.ofInt ((0 : Nat) : Int)))] [] (zV h D) := by
    rw [zc]
    clear hr hC hloop a4 e34 e35 e36
    simp (disch := first | omega | (simp (disch := omega) only [zwr_s, zwr_a, zwr_i, zn_put, zn_new, zn_fil, zn_chg, zV_n]; omega)) only [zentry, zs0, zs1, zs2, zs3, zg_lo, zg_st, zg_st2, zg_ald, zg_ast, zs_ia, zs_i0, zcs, zg_ii, zi_max, zi_min, zi_abi, zi_abf, zi_fb, zi_bf, lget, lst, lst2, lc2, Option.map_some, zso, if_true, if_false, zc1, and_true, true_and, and_self, List.length_nil, List.length_cons, Nat.zero_le, reduceIte, reduceCtorEq, false_and, and_false, Bool.false_eq_true, zca_some, zr0, zr100, Option.bind_some, zb_none, zb_some, zrc, or_true, true_or, eq_self, ne_eq, not_true_eq_false, not_false_eq_true, zrt_i, zrt_zb, zrt_b, zrt_c, zrt_l, zrt_f, zrt_r, zrt_n, zrt_v, zft_0, zft_1, zft_zb, zft_3, zft_4, zft_5, zft_7r, zft_7n, iI_t, zb_i, zb_0, zb_1, Nat.reduceAdd, Nat.reduceLeDiff, Nat.reduceEqDiff, Nat.reduceSub, Int.reduceNeg, iI_add, iI_sub, iI_mul, iI_neg, iI_n, zbz, zchar_id, zin, zwr_s, zwr_a, zwr_i, if_pos, if_neg, Int.toNat_natCast, Int.natCast_zero, Int.reduceToNat, z38]
  rw [st]
  refine Eq.trans hloop ?_
  rw [z38_2]
  clear hr hC hloop a4 st
  generalize spK sp (airIx s sp) = sx at *
  generalize airIx s sp = ix at *
  simp (disch := first | omega | (simp (disch := omega) only [zwr_s, zwr_a, zwr_i, zn_put, zn_new, zn_fil, zn_chg, zV_n]; omega)) only [zentry, zs0, zs1, zs2, zs3, zg_lo, zg_st, zg_st2, zg_ald, zg_ast, zs_ia, zs_i0, zcs, zg_ii, zi_max, zi_min, zi_abi, zi_abf, zi_fb, zi_bf, lget, lst, lst2, lc2, Option.map_some, zso, if_true, if_false, zc1, and_true, true_and, and_self, List.length_nil, List.length_cons, Nat.zero_le, reduceIte, reduceCtorEq, false_and, and_false, Bool.false_eq_true, zca_some, zr0, zr100, Option.bind_some, zb_none, zb_some, zrc, or_true, true_or, eq_self, ne_eq, not_true_eq_false, not_false_eq_true, zrt_i, zrt_zb, zrt_b, zrt_c, zrt_l, zrt_f, zrt_r, zrt_n, zrt_v, zft_0, zft_1, zft_zb, zft_3, zft_4, zft_5, zft_7r, zft_7n, iI_t, zb_i, zb_0, zb_1, Nat.reduceAdd, Nat.reduceLeDiff, Nat.reduceEqDiff, Nat.reduceSub, Int.reduceNeg, iI_add, iI_sub, iI_mul, iI_neg, iI_n, zbz, zchar_id, zin, zwr_s, zwr_a, zwr_i, if_pos, if_neg, Int.toNat_natCast, Int.natCast_zero, Int.reduceToNat, z38, e34, e35, e36, zt2, zc10]
set_option maxRecDepth 20000 in
theorem c39_10 {s : Int} {h : zH} {D : zD} {sp : zSp} (h1 : D 10 3 = sp.length) (hC : spC 3600 sp) (hl : sp.length ≤ 116) (hr : tRp 10 D sp) (hs : 0 ≤ s ∧ s < 3600) : zc 39 4 [.ref 10, .int (Int32.ofInt s)] (zV h D) = some (.inl (some (.int (Int32.ofInt (spK sp (airIx s sp)).1))), zV h D) := by
  have hn : 0 ≤ D 10 3 ∧ D 10 3 ≤ 116 := by omega
  have hloop := zloop (k := 39) (pc := 4) (fun i => [some (.ref 10), some (.int (Int32.ofInt s)), some (.int (Int32.ofInt (airIx (i : Int) sp : Int))), some (.int (Int32.ofInt ((i : Int) + 1)))]) (fun _ => zV h D) s.toNat (fun i hi => by
    obtain ⟨a1, a2, a3, a4⟩ := airIx_p hC (s := (i : Int)) (by omega) (by omega)
    obtain ⟨r1, r2, r3⟩ := tRp_K hr _ a1
    have c := spC_b hC _ (spK_mem (sp := sp) a1)
    have e36 := c36_10 (h := h) (D := D) (i := (airIx (i : Int) sp : Int)) (by omega) hn
    rw [if_pos (by omega), Int.toNat_natCast, r3] at e36
    have ei := airIx_s hC (s := (i : Int)) (by omega) (by omega)
    rw [← zcs] at ei
    have ee1 : ((i + 1 : Nat) : Int) = (i : Int) + 1 := rfl
    conv => lhs; rw [z39_4]
    rw [ei, ee1]
    clear hr hC a4 a2 ei
    generalize spK sp (airIx (i : Int) sp) = sx at *
    generalize airIx (i : Int) sp = ix at *
    by_cases g : sx.2.2.2 = (i : Int) + 1
    · rw [if_pos (by rw [g])]
      simp (disch := first | omega | (simp (disch := omega) only [zwr_s, zwr_a, zwr_i, zn_put, zn_new, zn_fil, zn_chg, zV_n]; omega)) only [zentry, zs0, zs1, zs2, zs3, zg_lo, zg_st, zg_st2, zg_ald, zg_ast, zs_ia, zs_i0, zcs, zg_ii, zi_max, zi_min, zi_abi, zi_abf, zi_fb, zi_bf, lget, lst, lst2, lc2, Option.map_some, zso, if_true, if_false, zc1, and_true, true_and, and_self, List.length_nil, List.length_cons, Nat.zero_le, reduceIte, reduceCtorEq, false_and, and_false, Bool.false_eq_true, zca_some, zr0, zr100, Option.bind_some, zb_none, zb_some, zrc, or_true, true_or, eq_self, ne_eq, not_true_eq_false, not_false_eq_true, zrt_i, zrt_zb, zrt_b, zrt_c, zrt_l, zrt_f, zrt_r, zrt_n, zrt_v, zft_0, zft_1, zft_zb, zft_3, zft_4, zft_5, zft_7r, zft_7n, iI_t, zb_i, zb_0, zb_1, Nat.reduceAdd, Nat.reduceLeDiff, Nat.reduceEqDiff, Nat.reduceSub, Int.reduceNeg, iI_add, iI_sub, iI_mul, iI_neg, iI_n, zbz, zchar_id, zin, zwr_s, zwr_a, zwr_i, if_pos, if_neg, Int.toNat_natCast, Int.natCast_zero, Int.reduceToNat, z39, e36, g, zt2, zc10]
    · rw [if_neg g]
      simp (disch := first | omega | (simp (disch := omega) only [zwr_s, zwr_a, zwr_i, zn_put, zn_new, zn_fil, zn_chg, zV_n]; omega)) only [zentry, zs0, zs1, zs2, zs3, zg_lo, zg_st, zg_st2, zg_ald, zg_ast, zs_ia, zs_i0, zcs, zg_ii, zi_max, zi_min, zi_abi, zi_abf, zi_fb, zi_bf, lget, lst, lst2, lc2, Option.map_some, zso, if_true, if_false, zc1, and_true, true_and, and_self, List.length_nil, List.length_cons, Nat.zero_le, reduceIte, reduceCtorEq, false_and, and_false, Bool.false_eq_true, zca_some, zr0, zr100, Option.bind_some, zb_none, zb_some, zrc, or_true, true_or, eq_self, ne_eq, not_true_eq_false, not_false_eq_true, zrt_i, zrt_zb, zrt_b, zrt_c, zrt_l, zrt_f, zrt_r, zrt_n, zrt_v, zft_0, zft_1, zft_zb, zft_3, zft_4, zft_5, zft_7r, zft_7n, iI_t, zb_i, zb_0, zb_1, Nat.reduceAdd, Nat.reduceLeDiff, Nat.reduceEqDiff, Nat.reduceSub, Int.reduceNeg, iI_add, iI_sub, iI_mul, iI_neg, iI_n, zbz, zchar_id, zin, zwr_s, zwr_a, zwr_i, if_pos, if_neg, Int.toNat_natCast, Int.natCast_zero, Int.reduceToNat, z39, e36, zt2, zc10]) s.toNat (Nat.le_refl _)
  obtain ⟨a1, a2, a3, a4⟩ := airIx_p hC hs.1 hs.2
  obtain ⟨r1, r2, r3⟩ := tRp_K hr (airIx s sp) a1
  have e34 := c34_10 (h := h) (D := D) (i := (airIx s sp : Int)) (by omega) hn
  rw [if_pos (by omega), Int.toNat_natCast, r1] at e34
  have h0 : airIx ((0 : Nat) : Int) sp = 0 := by
    obtain ⟨b1, b2, b3, b4⟩ := airIx_p hC (s := 0) (by omega) (by omega)
    by_cases g : airIx 0 sp = 0
    · exact g
    · have c := spC_b hC _ (spK_mem (sp := sp) (k := 0) (by omega))
      have := b4 0 (by omega)
      omega
  have st : zc 39 4 [.ref 10, .int (Int32.ofInt s)] (zV h D) = zx 39 4 [some (.ref 10), some (.int (Int32.ofInt s)), some (.int (Int32.ofInt ((0 : Nat) : Int))), some (.int (Int32.ofInt (((0 : Nat) : Int) + 1)))] [] (zV h D) := by
    rw [zc]
    clear hr hC hloop a4 e34
    simp (disch := first | omega | (simp (disch := omega) only [zwr_s, zwr_a, zwr_i, zn_put, zn_new, zn_fil, zn_chg, zV_n]; omega)) only [zentry, zs0, zs1, zs2, zs3, zg_lo, zg_st, zg_st2, zg_ald, zg_ast, zs_ia, zs_i0, zcs, zg_ii, zi_max, zi_min, zi_abi, zi_abf, zi_fb, zi_bf, lget, lst, lst2, lc2, Option.map_some, zso, if_true, if_false, zc1, and_true, true_and, and_self, List.length_nil, List.length_cons, Nat.zero_le, reduceIte, reduceCtorEq, false_and, and_false, Bool.false_eq_true, zca_some, zr0, zr100, Option.bind_some, zb_none, zb_some, zrc, or_true, true_or, eq_self, ne_eq, not_true_eq_false, not_false_eq_true, zrt_i, zrt_zb, zrt_b, zrt_c, zrt_l, zrt_f, zrt_r, zrt_n, zrt_v, zft_0, zft_1, zft_zb, zft_3, zft_4, zft_5, zft_7r, zft_7n, iI_t, zb_i, zb_0, zb_1, Nat.reduceAdd, Nat.reduceLeDiff, Nat.reduceEqDiff, Nat.reduceSub, Int.reduceNeg, iI_add, iI_sub, iI_mul, iI_neg, iI_n, zbz, zchar_id, zin, zwr_s, zwr_a, zwr_i, if_pos, if_neg, Int.toNat_natCast, Int.natCast_zero, Int.reduceToNat, z39, Int.zero_add]
  have es : ((s.toNat : Nat) : Int) = s := by omega
  simp only [h0, es] at hloop
  rw [st, hloop, z39_4]
  clear hr hC hloop a4 st a2 a3
  generalize spK sp (airIx s sp) = sx at *
  generalize airIx s sp = ix at *
  simp (disch := first | omega | (simp (disch := omega) only [zwr_s, zwr_a, zwr_i, zn_put, zn_new, zn_fil, zn_chg, zV_n]; omega)) only [zentry, zs0, zs1, zs2, zs3, zg_lo, zg_st, zg_st2, zg_ald, zg_ast, zs_ia, zs_i0, zcs, zg_ii, zi_max, zi_min, zi_abi, zi_abf, zi_fb, zi_bf, lget, lst, lst2, lc2, Option.map_some, zso, if_true, if_false, zc1, and_true, true_and, and_self, List.length_nil, List.length_cons, Nat.zero_le, reduceIte, reduceCtorEq, false_and, and_false, Bool.false_eq_true, zca_some, zr0, zr100, Option.bind_some, zb_none, zb_some, zrc, or_true, true_or, eq_self, ne_eq, not_true_eq_false, not_false_eq_true, zrt_i, zrt_zb, zrt_b, zrt_c, zrt_l, zrt_f, zrt_r, zrt_n, zrt_v, zft_0, zft_1, zft_zb, zft_3, zft_4, zft_5, zft_7r, zft_7n, iI_t, zb_i, zb_0, zb_1, Nat.reduceAdd, Nat.reduceLeDiff, Nat.reduceEqDiff, Nat.reduceSub, Int.reduceNeg, iI_add, iI_sub, iI_mul, iI_neg, iI_n, zbz, zchar_id, zin, zwr_s, zwr_a, zwr_i, if_pos, if_neg, Int.toNat_natCast, Int.natCast_zero, Int.reduceToNat, z39, e34, zt2, zc10]
/-- the log takes what is on air -/
def tTk (D : zD) (k : Nat) : zD := fun a i => if a = 10 ∧ i = 3 then (k : Int) else if (a = 11 ∨ a = 12 ∨ a = 13) ∧ i < k then D (a - 4) i else D a i
theorem tTk_0 {D : zD} : tTk D 0 = zwr D 10 3 0 := by
  funext a i
  unfold tTk zwr
  by_cases h : a = 10 ∧ i = 3
  · rw [if_pos h, if_pos h]
    rfl
  · rw [if_neg h, if_neg h, if_neg (by omega)]
theorem tTk_s {D : zD} {k : Nat} : tAdd 10 (tTk D k) (D 7 k) (D 8 k) (D 9 k) = tTk D (k + 1) := by
  have e : (tTk D k 10 3).toNat = k := by
    unfold tTk
    rw [if_pos ⟨rfl, rfl⟩]
    omega
  have e3 : tTk D k 10 3 = k := by
    unfold tTk
    rw [if_pos ⟨rfl, rfl⟩]
  funext a i
  unfold tAdd
  rw [e, e3]
  by_cases h : a = 10 ∧ i = 3
  · obtain ⟨rfl, rfl⟩ := h
    rw [zwr_s]
    unfold tTk
    rw [if_pos ⟨rfl, rfl⟩]
    omega
  · rw [zwr_e, if_neg h]
    by_cases h13 : a = 13 ∧ i = k
    · obtain ⟨rfl, rfl⟩ := h13
      rw [zwr_s]
      unfold tTk
      rw [if_neg (by omega), if_pos (by omega)]
    · rw [zwr_e, if_neg h13]
      by_cases h12 : a = 12 ∧ i = k
      · obtain ⟨rfl, rfl⟩ := h12
        rw [zwr_s]
        unfold tTk
        rw [if_neg (by omega), if_pos (by omega)]
      · rw [zwr_e, if_neg h12]
        by_cases h11 : a = 11 ∧ i = k
        · obtain ⟨rfl, rfl⟩ := h11
          rw [zwr_s]
          unfold tTk
          rw [if_neg (by omega), if_pos (by omega)]
        · rw [zwr_e, if_neg h11]
          unfold tTk
          rw [if_neg h, if_neg h]
          by_cases h5 : (a = 11 ∨ a = 12 ∨ a = 13) ∧ i < k
          · rw [if_pos h5, if_pos (by omega)]
          · rw [if_neg h5, if_neg (by omega)]
set_option maxRecDepth 20000 in
theorem c32 {h : zH} {D : zD} (hn : 0 ≤ D 6 3 ∧ D 6 3 ≤ 116) : zc 32 3 [.ref 10, .ref 6] (zV h D) = some (.inl none, zV h (tTk D (D 6 3).toNat)) := by
  have o : ∀ k a i, a < 10 → tTk D k a i = D a i := fun k a i ha => by
    unfold tTk
    rw [if_neg (by omega), if_neg (by omega)]
  have hloop := zloop (k := 32) (pc := 6) (fun i => [some (.ref 10), some (.ref 6), some (.int (Int32.ofInt (i : Int)))]) (fun i => zV h (tTk D i)) (D 6 3).toNat (fun i hi => by
    have o63 := o i 6 3 (by omega)
    have n6 : 0 ≤ tTk D i 6 3 ∧ tTk D i 6 3 ≤ 116 := by rw [o63]; exact hn
    have e34 := c34_6 (h := h) (D := tTk D i) (i := (i : Int)) (by omega) n6
    have e35 := c35_6 (h := h) (D := tTk D i) (i := (i : Int)) (by omega) n6
    have e36 := c36_6 (h := h) (D := tTk D i) (i := (i : Int)) (by omega) n6
    rw [if_pos (by omega), Int.toNat_natCast, o i 7 i (by omega)] at e34
    rw [if_pos (by omega), Int.toNat_natCast, o i 8 i (by omega)] at e35
    rw [if_pos (by omega), Int.toNat_natCast, o i 9 i (by omega)] at e36
    have e3 : tTk D i 10 3 = i := by
      unfold tTk
      rw [if_pos ⟨rfl, rfl⟩]
    have e30 := c30_10 (c := D 7 i) (s := D 8 i) (e := D 9 i) (h := h) (D := tTk D i) (by omega)
    rw [tTk_s] at e30
    conv => lhs; rw [z32_6]
    clear o
    generalize tTk D (i + 1) = D2 at *
    generalize tTk D i = D1 at *
    simp (disch := first | omega | (simp (disch := omega) only [zwr_s, zwr_a, zwr_i, zn_put, zn_new, zn_fil, zn_chg, zV_n]; omega)) only [zentry, zs0, zs1, zs2, zs3, zg_lo, zg_st, zg_st2, zg_ald, zg_ast, zs_ia, zs_i0, zcs, zg_ii, zi_max, zi_min, zi_abi, zi_abf, zi_fb, zi_bf, lget, lst, lst2, lc2, Option.map_some, zso, if_true, if_false, zc1, and_true, true_and, and_self, List.length_nil, List.length_cons, Nat.zero_le, reduceIte, reduceCtorEq, false_and, and_false, Bool.false_eq_true, zca_some, zr0, zr100, Option.bind_some, zb_none, zb_some, zrc, or_true, true_or, eq_self, ne_eq, not_true_eq_false, not_false_eq_true, zrt_i, zrt_zb, zrt_b, zrt_c, zrt_l, zrt_f, zrt_r, zrt_n, zrt_v, zft_0, zft_1, zft_zb, zft_3, zft_4, zft_5, zft_7r, zft_7n, iI_t, zb_i, zb_0, zb_1, Nat.reduceAdd, Nat.reduceLeDiff, Nat.reduceEqDiff, Nat.reduceSub, Int.reduceNeg, iI_add, iI_sub, iI_mul, iI_neg, iI_n, zbz, zchar_id, zin, zwr_s, zwr_a, zwr_i, if_pos, if_neg, Int.toNat_natCast, Int.natCast_zero, Int.reduceToNat, z32, o63, e34, e35, e36, e30, zt2, zt4, zc6, zc10]) (D 6 3).toNat (Nat.le_refl _)
  have st : zc 32 3 [.ref 10, .ref 6] (zV h D) = zx 32 6 [some (.ref 10), some (.ref 6), some (.int (Int32.ofInt ((0 : Nat) : Int)))] [] (zV h (tTk D 0)) := by
    have e29 := c29_10 (h := h) (D := D)
    rw [zc, tTk_0]
    clear hloop o
    simp (disch := first | omega | (simp (disch := omega) only [zwr_s, zwr_a, zwr_i, zn_put, zn_new, zn_fil, zn_chg, zV_n]; omega)) only [zentry, zs0, zs1, zs2, zs3, zg_lo, zg_st, zg_st2, zg_ald, zg_ast, zs_ia, zs_i0, zcs, zg_ii, zi_max, zi_min, zi_abi, zi_abf, zi_fb, zi_bf, lget, lst, lst2, lc2, Option.map_some, zso, if_true, if_false, zc1, and_true, true_and, and_self, List.length_nil, List.length_cons, Nat.zero_le, reduceIte, reduceCtorEq, false_and, and_false, Bool.false_eq_true, zca_some, zr0, zr100, Option.bind_some, zb_none, zb_some, zrc, or_true, true_or, eq_self, ne_eq, not_true_eq_false, not_false_eq_true, zrt_i, zrt_zb, zrt_b, zrt_c, zrt_l, zrt_f, zrt_r, zrt_n, zrt_v, zft_0, zft_1, zft_zb, zft_3, zft_4, zft_5, zft_7r, zft_7n, iI_t, zb_i, zb_0, zb_1, Nat.reduceAdd, Nat.reduceLeDiff, Nat.reduceEqDiff, Nat.reduceSub, Int.reduceNeg, iI_add, iI_sub, iI_mul, iI_neg, iI_n, zbz, zchar_id, zin, zwr_s, zwr_a, zwr_i, if_pos, if_neg, Int.toNat_natCast, Int.natCast_zero, Int.reduceToNat, z32, e29, zt1, zc6, zc10]
  rw [st]
  refine Eq.trans hloop ?_
  have o63 := o (D 6 3).toNat 6 3 (by omega)
  rw [z32_6]
  clear hloop o st
  generalize tTk D (D 6 3).toNat = D1 at *
  have hnn : (((D 6 3).toNat : Nat) : Int) = D 6 3 := by omega
  simp (disch := first | omega | (simp (disch := omega) only [zwr_s, zwr_a, zwr_i, zn_put, zn_new, zn_fil, zn_chg, zV_n]; omega)) only [zentry, zs0, zs1, zs2, zs3, zg_lo, zg_st, zg_st2, zg_ald, zg_ast, zs_ia, zs_i0, zcs, zg_ii, zi_max, zi_min, zi_abi, zi_abf, zi_fb, zi_bf, lget, lst, lst2, lc2, Option.map_some, zso, if_true, if_false, zc1, and_true, true_and, and_self, List.length_nil, List.length_cons, Nat.zero_le, reduceIte, reduceCtorEq, false_and, and_false, Bool.false_eq_true, zca_some, zr0, zr100, Option.bind_some, zb_none, zb_some, zrc, or_true, true_or, eq_self, ne_eq, not_true_eq_false, not_false_eq_true, zrt_i, zrt_zb, zrt_b, zrt_c, zrt_l, zrt_f, zrt_r, zrt_n, zrt_v, zft_0, zft_1, zft_zb, zft_3, zft_4, zft_5, zft_7r, zft_7n, iI_t, zb_i, zb_0, zb_1, Nat.reduceAdd, Nat.reduceLeDiff, Nat.reduceEqDiff, Nat.reduceSub, Int.reduceNeg, iI_add, iI_sub, iI_mul, iI_neg, iI_n, zbz, zchar_id, zin, zwr_s, zwr_a, zwr_i, if_pos, if_neg, Int.toNat_natCast, Int.natCast_zero, Int.reduceToNat, z32, o63, hnn, zc6, zc10]

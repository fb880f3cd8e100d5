/-! calls that lay out: class and reference side by side -/
set_option maxRecDepth 20000 in
theorem c53 {x : Int} {c : Nat} {h : zH} {X D : zD} (p : Inv c h X D) (hr : iR x) : ∃ X1 D1, InvG c h D X1 D1 ∧
    (cV (zc 53 3 [.ref 3, .int (Int32.ofInt x)] (zV (zU h X) D)) (qEv D1 x) (rFate D1 x.toNat) h X1 D1 ∨ cE (zc 53 3 [.ref 3, .int (Int32.ofInt x)] (zV (zU h X) D)) (qEv D1 x) 1 2 h X1 D1) := by
  obtain ⟨X1, D1, e91, p1, la, -, -, gl, -⟩ := lay p
  refine ⟨X1, D1, ⟨p1, gl⟩, ?_⟩
  have hO := p1.1.1
  rcases c87 p1 hr with ⟨e0, e87⟩ | ⟨e0, e87⟩
  · refine Or.inl ⟨e0, ?_⟩
    have hx : 0 ≤ x ∧ x ≤ D1 32 15 - 1 := by
      unfold qEv at e0
      by_cases g : 0 ≤ x ∧ x ≤ D1 32 15 - 1
      · exact g
      · rw [if_neg g] at e0
        omega
    obtain ⟨k1, k2, k3⟩ := p1.2.1.2.1.K (e := x.toNat) (by omega)
    obtain ⟨⟨⟨b7, b8, b9⟩, r1, r2⟩, r5, r6⟩ := la.2.2 x.toNat (by omega)
    have e6 := c6 (X := X1) (D := D1) k1 k3 (by omega) (by omega)
    have f := evF_K (n := x.toNat) (sp := (lyF D1).2.1)
    obtain ⟨l1, -, -, -, l5⟩ := lyF_ok hO
    obtain ⟨s1, s2, s3⟩ := l5 x.toNat
    have hbar := lyF_bar hO.1 hO.2.1 hO.2.2.1 x.toNat
    unfold rFate
    by_cases g1 : (lyF D1).2.2.1 x.toNat = 1
    · rw [if_pos g1]
      rw [g1] at r5
      rw [zc]
      clear p p1 la hO r1 r2 f l1 l5 hbar
      generalize lsE X1 5 x.toNat = a at *
      simp (disch := first | omega | (simp (disch := omega) only [zwr_s, zwr_a, zwr_i, zn_put, zn_new, zn_fil, zn_chg, zV_n]; omega)) only [zentry, zs0, zs1, zs2, zs3, zg_lo, zg_st, zg_st2, zg_ald, zg_ast, zs_ia, zs_i0, zcs, zg_ii, zi_max, zi_min, zi_abi, zi_abf, zi_fb, zi_bf, lget, lst, lst2, lc2, Option.map_some, zso, if_true, if_false, zc1, and_true, true_and, and_self, List.length_nil, List.length_cons, Nat.zero_le, reduceIte, reduceCtorEq, false_and, and_false, Bool.false_eq_true, zca_some, zr0, zr100, Option.bind_some, zb_none, zb_some, zrc, or_true, true_or, eq_self, ne_eq, not_true_eq_false, not_false_eq_true, zrt_i, zrt_zb, zrt_b, zrt_c, zrt_l, zrt_f, zrt_r, zrt_n, zrt_v, zft_0, zft_1, zft_zb, zft_3, zft_4, zft_5, zft_7r, zft_7n, iI_t, zb_i, zb_0, zb_1, Nat.reduceAdd, Nat.reduceLeDiff, Nat.reduceEqDiff, Nat.reduceSub, Int.reduceNeg, iI_add, iI_sub, iI_mul, iI_neg, iI_n, zbz, zchar_id, zin, zwr_s, zwr_a, zwr_i, if_pos, if_neg, Int.toNat_natCast, Int.natCast_zero, Int.reduceToNat, z53, zc3, zuE k1 k3, e91, e87, r5, zt1, zt2]
    · rw [if_neg g1]
      have r5 : X1 (lsE X1 5 x.toNat) 5 = 0 := by omega
      rcases f with ⟨f1, f2⟩ | ⟨f1, f2⟩
      · rw [if_pos f1]
        have := r1 f2
        rw [zb_f (by omega)] at e6
        rw [zc]
        clear p p1 la hO r1 r2 f1 f2 l1 l5 hbar
        generalize lsE X1 5 x.toNat = a at *
        simp (disch := first | omega | (simp (disch := omega) only [zwr_s, zwr_a, zwr_i, zn_put, zn_new, zn_fil, zn_chg, zV_n]; omega)) only [zentry, zs0, zs1, zs2, zs3, zg_lo, zg_st, zg_st2, zg_ald, zg_ast, zs_ia, zs_i0, zcs, zg_ii, zi_max, zi_min, zi_abi, zi_abf, zi_fb, zi_bf, lget, lst, lst2, lc2, Option.map_some, zso, if_true, if_false, zc1, and_true, true_and, and_self, List.length_nil, List.length_cons, Nat.zero_le, reduceIte, reduceCtorEq, false_and, and_false, Bool.false_eq_true, zca_some, zr0, zr100, Option.bind_some, zb_none, zb_some, zrc, or_true, true_or, eq_self, ne_eq, not_true_eq_false, not_false_eq_true, zrt_i, zrt_zb, zrt_b, zrt_c, zrt_l, zrt_f, zrt_r, zrt_n, zrt_v, zft_0, zft_1, zft_zb, zft_3, zft_4, zft_5, zft_7r, zft_7n, iI_t, zb_i, zb_0, zb_1, Nat.reduceAdd, Nat.reduceLeDiff, Nat.reduceEqDiff, Nat.reduceSub, Int.reduceNeg, iI_add, iI_sub, iI_mul, iI_neg, iI_n, zbz, zchar_id, zin, zwr_s, zwr_a, zwr_i, if_pos, if_neg, Int.toNat_natCast, Int.natCast_zero, Int.reduceToNat, z53, zc3, zuE k1 k3, e91, e87, e6, r5, zt1, zt2]
      · rw [if_neg (by omega)]
        obtain ⟨w1, w2, w3, w4⟩ := r2 _ f2
        have sb := spC_b l1 _ (evF_mem f2).1
        rw [zb_t (by omega)] at e6
        clear p p1 la hO r1 r2 f1 f2 l1 l5 hbar
        by_cases g2 : (lyF D1).2.2.2.1 x.toNat = 1
        · rw [if_pos g2]
          have := w4.mpr g2
          rw [zc]
          clear w1 w2 w4 sb
          generalize lsE X1 5 x.toNat = a at *
          simp (disch := first | omega | (simp (disch := omega) only [zwr_s, zwr_a, zwr_i, zn_put, zn_new, zn_fil, zn_chg, zV_n]; omega)) only [zentry, zs0, zs1, zs2, zs3, zg_lo, zg_st, zg_st2, zg_ald, zg_ast, zs_ia, zs_i0, zcs, zg_ii, zi_max, zi_min, zi_abi, zi_abf, zi_fb, zi_bf, lget, lst, lst2, lc2, Option.map_some, zso, if_true, if_false, zc1, and_true, true_and, and_self, List.length_nil, List.length_cons, Nat.zero_le, reduceIte, reduceCtorEq, false_and, and_false, Bool.false_eq_true, zca_some, zr0, zr100, Option.bind_some, zb_none, zb_some, zrc, or_true, true_or, eq_self, ne_eq, not_true_eq_false, not_false_eq_true, zrt_i, zrt_zb, zrt_b, zrt_c, zrt_l, zrt_f, zrt_r, zrt_n, zrt_v, zft_0, zft_1, zft_zb, zft_3, zft_4, zft_5, zft_7r, zft_7n, iI_t, zb_i, zb_0, zb_1, Nat.reduceAdd, Nat.reduceLeDiff, Nat.reduceEqDiff, Nat.reduceSub, Int.reduceNeg, iI_add, iI_sub, iI_mul, iI_neg, iI_n, zbz, zchar_id, zin, zwr_s, zwr_a, zwr_i, if_pos, if_neg, Int.toNat_natCast, Int.natCast_zero, Int.reduceToNat, z53, zc3, zuE k1 k3, e91, e87, e6, r5, zt1, zt2]
        · rw [if_neg g2]
          have g3 : ¬ X1 (lsE X1 5 x.toNat) 8 < X1 (lsE X1 5 x.toNat) 9 := fun w => g2 (w4.mp w)
          by_cases g4 : (lyF D1).2.2.2.2 x.toNat = 1
          · rw [if_pos g4]
            rw [g4] at r6
            rw [zc]
            clear w1 w2 w4 sb
            generalize lsE X1 5 x.toNat = a at *
            simp (disch := first | omega | (simp (disch := omega) only [zwr_s, zwr_a, zwr_i, zn_put, zn_new, zn_fil, zn_chg, zV_n]; omega)) only [zentry, zs0, zs1, zs2, zs3, zg_lo, zg_st, zg_st2, zg_ald, zg_ast, zs_ia, zs_i0, zcs, zg_ii, zi_max, zi_min, zi_abi, zi_abf, zi_fb, zi_bf, lget, lst, lst2, lc2, Option.map_some, zso, if_true, if_false, zc1, and_true, true_and, and_self, List.length_nil, List.length_cons, Nat.zero_le, reduceIte, reduceCtorEq, false_and, and_false, Bool.false_eq_true, zca_some, zr0, zr100, Option.bind_some, zb_none, zb_some, zrc, or_true, true_or, eq_self, ne_eq, not_true_eq_false, not_false_eq_true, zrt_i, zrt_zb, zrt_b, zrt_c, zrt_l, zrt_f, zrt_r, zrt_n, zrt_v, zft_0, zft_1, zft_zb, zft_3, zft_4, zft_5, zft_7r, zft_7n, iI_t, zb_i, zb_0, zb_1, Nat.reduceAdd, Nat.reduceLeDiff, Nat.reduceEqDiff, Nat.reduceSub, Int.reduceNeg, iI_add, iI_sub, iI_mul, iI_neg, iI_n, zbz, zchar_id, zin, zwr_s, zwr_a, zwr_i, if_pos, if_neg, Int.toNat_natCast, Int.natCast_zero, Int.reduceToNat, z53, zc3, zuE k1 k3, e91, e87, e6, r5, r6, zt1, zt2]
          · rw [if_neg g4]
            have r6 : X1 (lsE X1 5 x.toNat) 6 = 0 := by omega
            rw [zc]
            clear w1 w2 w4 sb
            generalize lsE X1 5 x.toNat = a at *
            simp (disch := first | omega | (simp (disch := omega) only [zwr_s, zwr_a, zwr_i, zn_put, zn_new, zn_fil, zn_chg, zV_n]; omega)) only [zentry, zs0, zs1, zs2, zs3, zg_lo, zg_st, zg_st2, zg_ald, zg_ast, zs_ia, zs_i0, zcs, zg_ii, zi_max, zi_min, zi_abi, zi_abf, zi_fb, zi_bf, lget, lst, lst2, lc2, Option.map_some, zso, if_true, if_false, zc1, and_true, true_and, and_self, List.length_nil, List.length_cons, Nat.zero_le, reduceIte, reduceCtorEq, false_and, and_false, Bool.false_eq_true, zca_some, zr0, zr100, Option.bind_some, zb_none, zb_some, zrc, or_true, true_or, eq_self, ne_eq, not_true_eq_false, not_false_eq_true, zrt_i, zrt_zb, zrt_b, zrt_c, zrt_l, zrt_f, zrt_r, zrt_n, zrt_v, zft_0, zft_1, zft_zb, zft_3, zft_4, zft_5, zft_7r, zft_7n, iI_t, zb_i, zb_0, zb_1, Nat.reduceAdd, Nat.reduceLeDiff, Nat.reduceEqDiff, Nat.reduceSub, Int.reduceNeg, iI_add, iI_sub, iI_mul, iI_neg, iI_n, zbz, zchar_id, zin, zwr_s, zwr_a, zwr_i, if_pos, if_neg, Int.toNat_natCast, Int.natCast_zero, Int.reduceToNat, z53, zc3, zuE k1 k3, e91, e87, e6, r5, r6, zt1, zt2]
  · refine Or.inr ⟨e0, ?_⟩
    rw [zc]
    clear p p1 la hO
    simp (disch := first | omega | (simp (disch := omega) only [zwr_s, zwr_a, zwr_i, zn_put, zn_new, zn_fil, zn_chg, zV_n]; omega)) only [zentry, zs0, zs1, zs2, zs3, zg_lo, zg_st, zg_st2, zg_ald, zg_ast, zs_ia, zs_i0, zcs, zg_ii, zi_max, zi_min, zi_abi, zi_abf, zi_fb, zi_bf, lget, lst, lst2, lc2, Option.map_some, zso, if_true, if_false, zc1, and_true, true_and, and_self, List.length_nil, List.length_cons, Nat.zero_le, reduceIte, reduceCtorEq, false_and, and_false, Bool.false_eq_true, zca_some, zr0, zr100, Option.bind_some, zb_none, zb_some, zrc, or_true, true_or, eq_self, ne_eq, not_true_eq_false, not_false_eq_true, zrt_i, zrt_zb, zrt_b, zrt_c, zrt_l, zrt_f, zrt_r, zrt_n, zrt_v, zft_0, zft_1, zft_zb, zft_3, zft_4, zft_5, zft_7r, zft_7n, iI_t, zb_i, zb_0, zb_1, Nat.reduceAdd, Nat.reduceLeDiff, Nat.reduceEqDiff, Nat.reduceSub, Int.reduceNeg, iI_add, iI_sub, iI_mul, iI_neg, iI_n, zbz, zchar_id, zin, zwr_s, zwr_a, zwr_i, if_pos, if_neg, Int.toNat_natCast, Int.natCast_zero, Int.reduceToNat, z53, zc3, e91, e87, zb_x, zt1, zt2]
theorem rFate_b {D : zD} {n : Nat} : 0 ≤ rFate D n ∧ rFate D n ≤ 65535 := by
  unfold rFate
  split <;> first | omega | (split <;> first | omega | (split <;> first | omega | (split <;> omega)))
theorem qEv_v {D : zD} {x : Int} : qEv D x = 0 ∨ qEv D x = 1 := by
  unfold qEv
  split <;> omega
theorem rSE_E {D : zD} {n : Nat} {x : Int × Int × Int × Int} (h : evF n (lyF D).2.1 = some x) : rSt D n = x.2.2.1 ∧ rEn D n = x.2.2.2 := by
  rcases evF_K (n := n) (sp := (lyF D).2.1) with ⟨h1, h2⟩ | ⟨h1, h2⟩
  · rw [h] at h2
    cases h2
  · rw [h] at h2
    unfold rSt rEn
    rw [← Option.some.inj h2]
    exact ⟨rfl, rfl⟩
theorem qAi_v {D : zD} {x : Int} : qAi D x = 0 ∨ qAi D x = 1 ∨ qAi D x = 2 := by
  unfold qAi
  split
  · split <;> omega
  · omega
/-- what an event on air has -/
theorem on_E {x : Int} {c : Nat} {h : zH} {X D : zD} (p : Inv c h X D) (la : laO X D) (h0 : qAi D x = 0) : (0 ≤ x ∧ x ≤ D 32 15 - 1) ∧ X (lsE X 5 x.toNat) 7 = rSt D x.toNat ∧ X (lsE X 5 x.toNat) 8 = rEn D x.toNat ∧ (0 ≤ rSt D x.toNat ∧ rSt D x.toNat < rEn D x.toNat ∧ rEn D x.toNat ≤ 3600) := by
  have hx := (qAi_0 h0).1
  have b := rSE_b p.1.1 (qAi_0 h0).2
  rw [qAi_E p.1.1 hx] at h0
  by_cases g : evF x.toNat (lyF D).2.1 = none
  · rw [if_pos g] at h0
    omega
  · obtain ⟨y, hy⟩ := Option.ne_none_iff_exists'.mp g
    obtain ⟨w1, w2, -⟩ := (la.2.2 x.toNat (by omega)).1.2.2 y hy
    obtain ⟨s1, s2⟩ := rSE_E hy
    exact ⟨hx, by omega, by omega, b⟩
set_option maxRecDepth 20000 in
theorem c54 {x : Int} {c : Nat} {h : zH} {X D : zD} (p : Inv c h X D) (hr : iR x) : ∃ X1 D1, InvG c h D X1 D1 ∧ iR (if qAi D1 x = 0 then rSt D1 x.toNat else 0) ∧
    (cV (zc 54 2 [.ref 3, .int (Int32.ofInt x)] (zV (zU h X) D)) (qAi D1 x) (if qAi D1 x = 0 then rSt D1 x.toNat else 0) h X1 D1 ∨ cE (zc 54 2 [.ref 3, .int (Int32.ofInt x)] (zV (zU h X) D)) (qAi D1 x) 1 2 h X1 D1 ∨ cE (zc 54 2 [.ref 3, .int (Int32.ofInt x)] (zV (zU h X) D)) (qAi D1 x) 2 4 h X1 D1) := by
  obtain ⟨X1, D1, e91, p1, la, -, -, gl, -⟩ := lay p
  refine ⟨X1, D1, ⟨p1, gl⟩, ?_⟩
  rcases c88 p1 la hr with ⟨e0, e⟩ | ⟨e0, e⟩ | ⟨e0, e⟩
  · obtain ⟨hx, w7, w8, wb⟩ := on_E p1 la e0
    rw [if_pos e0]
    refine ⟨by omega, Or.inl ⟨e0, ?_⟩⟩
    obtain ⟨k1, k2, k3⟩ := p1.2.1.2.1.K (e := x.toNat) (by omega)
    rw [zc]
    clear p p1 la
    generalize lsE X1 5 x.toNat = a at *
    simp (disch := first | omega | (simp (disch := omega) only [zwr_s, zwr_a, zwr_i, zn_put, zn_new, zn_fil, zn_chg, zV_n]; omega)) only [zentry, zs0, zs1, zs2, zs3, zg_lo, zg_st, zg_st2, zg_ald, zg_ast, zs_ia, zs_i0, zcs, zg_ii, zi_max, zi_min, zi_abi, zi_abf, zi_fb, zi_bf, lget, lst, lst2, lc2, Option.map_some, zso, if_true, if_false, zc1, and_true, true_and, and_self, List.length_nil, List.length_cons, Nat.zero_le, reduceIte, reduceCtorEq, false_and, and_false, Bool.false_eq_true, zca_some, zr0, zr100, Option.bind_some, zb_none, zb_some, zrc, or_true, true_or, eq_self, ne_eq, not_true_eq_false, not_false_eq_true, zrt_i, zrt_zb, zrt_b, zrt_c, zrt_l, zrt_f, zrt_r, zrt_n, zrt_v, zft_0, zft_1, zft_zb, zft_3, zft_4, zft_5, zft_7r, zft_7n, iI_t, zb_i, zb_0, zb_1, Nat.reduceAdd, Nat.reduceLeDiff, Nat.reduceEqDiff, Nat.reduceSub, Int.reduceNeg, iI_add, iI_sub, iI_mul, iI_neg, iI_n, zbz, zchar_id, zin, zwr_s, zwr_a, zwr_i, if_pos, if_neg, Int.toNat_natCast, Int.natCast_zero, Int.reduceToNat, z54, zc3, zuE k1 k3, e91, e, w7, w8, zt1, zt2]
  · rw [if_neg (by omega)]
    refine ⟨by omega, Or.inr (Or.inl ⟨e0, ?_⟩)⟩
    rw [zc]
    clear p p1 la
    simp (disch := first | omega | (simp (disch := omega) only [zwr_s, zwr_a, zwr_i, zn_put, zn_new, zn_fil, zn_chg, zV_n]; omega)) only [zentry, zs0, zs1, zs2, zs3, zg_lo, zg_st, zg_st2, zg_ald, zg_ast, zs_ia, zs_i0, zcs, zg_ii, zi_max, zi_min, zi_abi, zi_abf, zi_fb, zi_bf, lget, lst, lst2, lc2, Option.map_some, zso, if_true, if_false, zc1, and_true, true_and, and_self, List.length_nil, List.length_cons, Nat.zero_le, reduceIte, reduceCtorEq, false_and, and_false, Bool.false_eq_true, zca_some, zr0, zr100, Option.bind_some, zb_none, zb_some, zrc, or_true, true_or, eq_self, ne_eq, not_true_eq_false, not_false_eq_true, zrt_i, zrt_zb, zrt_b, zrt_c, zrt_l, zrt_f, zrt_r, zrt_n, zrt_v, zft_0, zft_1, zft_zb, zft_3, zft_4, zft_5, zft_7r, zft_7n, iI_t, zb_i, zb_0, zb_1, Nat.reduceAdd, Nat.reduceLeDiff, Nat.reduceEqDiff, Nat.reduceSub, Int.reduceNeg, iI_add, iI_sub, iI_mul, iI_neg, iI_n, zbz, zchar_id, zin, zwr_s, zwr_a, zwr_i, if_pos, if_neg, Int.toNat_natCast, Int.natCast_zero, Int.reduceToNat, z54, zc3, e91, e, zb_x, zt1, zt2]
  · rw [if_neg (by omega)]
    refine ⟨by omega, Or.inr (Or.inr ⟨e0, ?_⟩)⟩
    rw [zc]
    clear p p1 la
    simp (disch := first | omega | (simp (disch := omega) only [zwr_s, zwr_a, zwr_i, zn_put, zn_new, zn_fil, zn_chg, zV_n]; omega)) only [zentry, zs0, zs1, zs2, zs3, zg_lo, zg_st, zg_st2, zg_ald, zg_ast, zs_ia, zs_i0, zcs, zg_ii, zi_max, zi_min, zi_abi, zi_abf, zi_fb, zi_bf, lget, lst, lst2, lc2, Option.map_some, zso, if_true, if_false, zc1, and_true, true_and, and_self, List.length_nil, List.length_cons, Nat.zero_le, reduceIte, reduceCtorEq, false_and, and_false, Bool.false_eq_true, zca_some, zr0, zr100, Option.bind_some, zb_none, zb_some, zrc, or_true, true_or, eq_self, ne_eq, not_true_eq_false, not_false_eq_true, zrt_i, zrt_zb, zrt_b, zrt_c, zrt_l, zrt_f, zrt_r, zrt_n, zrt_v, zft_0, zft_1, zft_zb, zft_3, zft_4, zft_5, zft_7r, zft_7n, iI_t, zb_i, zb_0, zb_1, Nat.reduceAdd, Nat.reduceLeDiff, Nat.reduceEqDiff, Nat.reduceSub, Int.reduceNeg, iI_add, iI_sub, iI_mul, iI_neg, iI_n, zbz, zchar_id, zin, zwr_s, zwr_a, zwr_i, if_pos, if_neg, Int.toNat_natCast, Int.natCast_zero, Int.reduceToNat, z54, zc3, e91, e, zb_x, zt1, zt2]
set_option maxRecDepth 20000 in
theorem c55 {x : Int} {c : Nat} {h : zH} {X D : zD} (p : Inv c h X D) (hr : iR x) : ∃ X1 D1, InvG c h D X1 D1 ∧ iR (if qAi D1 x = 0 then rEn D1 x.toNat else 0) ∧
    (cV (zc 55 2 [.ref 3, .int (Int32.ofInt x)] (zV (zU h X) D)) (qAi D1 x) (if qAi D1 x = 0 then rEn D1 x.toNat else 0) h X1 D1 ∨ cE (zc 55 2 [.ref 3, .int (Int32.ofInt x)] (zV (zU h X) D)) (qAi D1 x) 1 2 h X1 D1 ∨ cE (zc 55 2 [.ref 3, .int (Int32.ofInt x)] (zV (zU h X) D)) (qAi D1 x) 2 4 h X1 D1) := by
  obtain ⟨X1, D1, e91, p1, la, -, -, gl, -⟩ := lay p
  refine ⟨X1, D1, ⟨p1, gl⟩, ?_⟩
  rcases c88 p1 la hr with ⟨e0, e⟩ | ⟨e0, e⟩ | ⟨e0, e⟩
  · obtain ⟨hx, w7, w8, wb⟩ := on_E p1 la e0
    rw [if_pos e0]
    refine ⟨by omega, Or.inl ⟨e0, ?_⟩⟩
    obtain ⟨k1, k2, k3⟩ := p1.2.1.2.1.K (e := x.toNat) (by omega)
    rw [zc]
    clear p p1 la
    generalize lsE X1 5 x.toNat = a at *
    simp (disch := first | omega | (simp (disch := omega) only [zwr_s, zwr_a, zwr_i, zn_put, zn_new, zn_fil, zn_chg, zV_n]; omega)) only [zentry, zs0, zs1, zs2, zs3, zg_lo, zg_st, zg_st2, zg_ald, zg_ast, zs_ia, zs_i0, zcs, zg_ii, zi_max, zi_min, zi_abi, zi_abf, zi_fb, zi_bf, lget, lst, lst2, lc2, Option.map_some, zso, if_true, if_false, zc1, and_true, true_and, and_self, List.length_nil, List.length_cons, Nat.zero_le, reduceIte, reduceCtorEq, false_and, and_false, Bool.false_eq_true, zca_some, zr0, zr100, Option.bind_some, zb_none, zb_some, zrc, or_true, true_or, eq_self, ne_eq, not_true_eq_false, not_false_eq_true, zrt_i, zrt_zb, zrt_b, zrt_c, zrt_l, zrt_f, zrt_r, zrt_n, zrt_v, zft_0, zft_1, zft_zb, zft_3, zft_4, zft_5, zft_7r, zft_7n, iI_t, zb_i, zb_0, zb_1, Nat.reduceAdd, Nat.reduceLeDiff, Nat.reduceEqDiff, Nat.reduceSub, Int.reduceNeg, iI_add, iI_sub, iI_mul, iI_neg, iI_n, zbz, zchar_id, zin, zwr_s, zwr_a, zwr_i, if_pos, if_neg, Int.toNat_natCast, Int.natCast_zero, Int.reduceToNat, z55, zc3, zuE k1 k3, e91, e, w7, w8, zt1, zt2]
  · rw [if_neg (by omega)]
    refine ⟨by omega, Or.inr (Or.inl ⟨e0, ?_⟩)⟩
    rw [zc]
    clear p p1 la
    simp (disch := first | omega | (simp (disch := omega) only [zwr_s, zwr_a, zwr_i, zn_put, zn_new, zn_fil, zn_chg, zV_n]; omega)) only [zentry, zs0, zs1, zs2, zs3, zg_lo, zg_st, zg_st2, zg_ald, zg_ast, zs_ia, zs_i0, zcs, zg_ii, zi_max, zi_min, zi_abi, zi_abf, zi_fb, zi_bf, lget, lst, lst2, lc2, Option.map_some, zso, if_true, if_false, zc1, and_true, true_and, and_self, List.length_nil, List.length_cons, Nat.zero_le, reduceIte, reduceCtorEq, false_and, and_false, Bool.false_eq_true, zca_some, zr0, zr100, Option.bind_some, zb_none, zb_some, zrc, or_true, true_or, eq_self, ne_eq, not_true_eq_false, not_false_eq_true, zrt_i, zrt_zb, zrt_b, zrt_c, zrt_l, zrt_f, zrt_r, zrt_n, zrt_v, zft_0, zft_1, zft_zb, zft_3, zft_4, zft_5, zft_7r, zft_7n, iI_t, zb_i, zb_0, zb_1, Nat.reduceAdd, Nat.reduceLeDiff, Nat.reduceEqDiff, Nat.reduceSub, Int.reduceNeg, iI_add, iI_sub, iI_mul, iI_neg, iI_n, zbz, zchar_id, zin, zwr_s, zwr_a, zwr_i, if_pos, if_neg, Int.toNat_natCast, Int.natCast_zero, Int.reduceToNat, z55, zc3, e91, e, zb_x, zt1, zt2]
  · rw [if_neg (by omega)]
    refine ⟨by omega, Or.inr (Or.inr ⟨e0, ?_⟩)⟩
    rw [zc]
    clear p p1 la
    simp (disch := first | omega | (simp (disch := omega) only [zwr_s, zwr_a, zwr_i, zn_put, zn_new, zn_fil, zn_chg, zV_n]; omega)) only [zentry, zs0, zs1, zs2, zs3, zg_lo, zg_st, zg_st2, zg_ald, zg_ast, zs_ia, zs_i0, zcs, zg_ii, zi_max, zi_min, zi_abi, zi_abf, zi_fb, zi_bf, lget, lst, lst2, lc2, Option.map_some, zso, if_true, if_false, zc1, and_true, true_and, and_self, List.length_nil, List.length_cons, Nat.zero_le, reduceIte, reduceCtorEq, false_and, and_false, Bool.false_eq_true, zca_some, zr0, zr100, Option.bind_some, zb_none, zb_some, zrc, or_true, true_or, eq_self, ne_eq, not_true_eq_false, not_false_eq_true, zrt_i, zrt_zb, zrt_b, zrt_c, zrt_l, zrt_f, zrt_r, zrt_n, zrt_v, zft_0, zft_1, zft_zb, zft_3, zft_4, zft_5, zft_7r, zft_7n, iI_t, zb_i, zb_0, zb_1, Nat.reduceAdd, Nat.reduceLeDiff, Nat.reduceEqDiff, Nat.reduceSub, Int.reduceNeg, iI_add, iI_sub, iI_mul, iI_neg, iI_n, zbz, zchar_id, zin, zwr_s, zwr_a, zwr_i, if_pos, if_neg, Int.toNat_natCast, Int.natCast_zero, Int.reduceToNat, z55, zc3, e91, e, zb_x, zt1, zt2]
theorem qSp_v {D : zD} {x : Int} : qSp D x = 0 ∨ qSp D x = 1 := by
  unfold qSp
  split <;> omega
/-- the spans of the class -/
theorem spL {X D : zD} (hO : mOk D) (la : laO X D) : (0 ≤ D 6 3 ∧ D 6 3 ≤ 116) ∧ D 6 3 = (lyF D).2.1.length ∧ ∀ k : Nat, (k : Int) < D 6 3 → D 7 k = (spK (lyF D).2.1 k).1 ∧ D 8 k = (spK (lyF D).2.1 k).2.2.1 ∧ D 9 k = (spK (lyF D).2.1 k).2.2.2 ∧ (-1 ≤ D 7 k ∧ D 7 k < 12) ∧ (0 ≤ D 8 k ∧ D 8 k < D 9 k ∧ D 9 k ≤ 3600) := by
  obtain ⟨l1, l2, l3, -⟩ := lyF_ok hO
  obtain ⟨a1, a2, -⟩ := la
  have h7 := hO.1.1
  refine ⟨by omega, a1, fun k hk => ?_⟩
  obtain ⟨r1, r2, r3⟩ := tRp_K a2 k (by omega)
  have r1 : D 7 k = _ := r1
  have r2 : D 8 k = _ := r2
  have r3 : D 9 k = _ := r3
  have m := spK_mem (sp := (lyF D).2.1) (k := k) (by omega)
  have b := spC_b l1 _ m
  have v := l3 _ m
  rw [r1, r2, r3]
  refine ⟨rfl, rfl, rfl, ?_, by omega⟩
  rcases v with v | v <;> omega
set_option maxRecDepth 20000 in
theorem c57 {x : Int} {c : Nat} {h : zH} {X D : zD} (p : Inv c h X D) (hr : iR x) : ∃ X1 D1, InvG c h D X1 D1 ∧ iR (if qSp D1 x = 0 then (spK (lyF D1).2.1 x.toNat).1 else 0) ∧
    (cV (zc 57 2 [.ref 3, .int (Int32.ofInt x)] (zV (zU h X) D)) (qSp D1 x) (if qSp D1 x = 0 then (spK (lyF D1).2.1 x.toNat).1 else 0) h X1 D1 ∨ cE (zc 57 2 [.ref 3, .int (Int32.ofInt x)] (zV (zU h X) D)) (qSp D1 x) 1 2 h X1 D1) := by
  obtain ⟨X1, D1, e91, p1, la, -, -, gl, -⟩ := lay p
  refine ⟨X1, D1, ⟨p1, gl⟩, ?_⟩
  obtain ⟨g1, g2, g3⟩ := spL p1.1.1 la
  have e34 := c34_6 (i := x) (h := zU h X1) (D := D1) hr g1
  by_cases g : 0 ≤ x ∧ x ≤ ((lyF D1).2.1.length : Int) - 1
  · have e82 := c82_t (x := x) (h := zU h X1) (D := D1) g1.2 (by omega)
    have q0 : qSp D1 x = 0 := if_pos g
    obtain ⟨v1, v2, v3, v4, v5⟩ := g3 x.toNat (by omega)
    rw [if_pos (by omega)] at e34
    rw [if_pos q0, ← v1]
    refine ⟨by omega, Or.inl ⟨q0, ?_⟩⟩
    rw [zc]
    clear p p1 la g3 v1 v2 v3
    simp (disch := first | omega | (simp (disch := omega) only [zwr_s, zwr_a, zwr_i, zn_put, zn_new, zn_fil, zn_chg, zV_n]; omega)) only [zentry, zs0, zs1, zs2, zs3, zg_lo, zg_st, zg_st2, zg_ald, zg_ast, zs_ia, zs_i0, zcs, zg_ii, zi_max, zi_min, zi_abi, zi_abf, zi_fb, zi_bf, lget, lst, lst2, lc2, Option.map_some, zso, if_true, if_false, zc1, and_true, true_and, and_self, List.length_nil, List.length_cons, Nat.zero_le, reduceIte, reduceCtorEq, false_and, and_false, Bool.false_eq_true, zca_some, zr0, zr100, Option.bind_some, zb_none, zb_some, zrc, or_true, true_or, eq_self, ne_eq, not_true_eq_false, not_false_eq_true, zrt_i, zrt_zb, zrt_b, zrt_c, zrt_l, zrt_f, zrt_r, zrt_n, zrt_v, zft_0, zft_1, zft_zb, zft_3, zft_4, zft_5, zft_7r, zft_7n, iI_t, zb_i, zb_0, zb_1, Nat.reduceAdd, Nat.reduceLeDiff, Nat.reduceEqDiff, Nat.reduceSub, Int.reduceNeg, iI_add, iI_sub, iI_mul, iI_neg, iI_n, zbz, zchar_id, zin, zwr_s, zwr_a, zwr_i, if_pos, if_neg, Int.toNat_natCast, Int.natCast_zero, Int.reduceToNat, z57, zc3, zc6, e91, e82, e34, zt1, zt2]
  · have e82 := c82_f (x := x) (X := X1) (h := h) (D := D1) g1 hr (by omega)
    have q1 : qSp D1 x = 1 := if_neg g
    rw [if_neg (by omega)]
    refine ⟨by omega, Or.inr ⟨q1, ?_⟩⟩
    rw [zc]
    clear p p1 la g3
    simp (disch := first | omega | (simp (disch := omega) only [zwr_s, zwr_a, zwr_i, zn_put, zn_new, zn_fil, zn_chg, zV_n]; omega)) only [zentry, zs0, zs1, zs2, zs3, zg_lo, zg_st, zg_st2, zg_ald, zg_ast, zs_ia, zs_i0, zcs, zg_ii, zi_max, zi_min, zi_abi, zi_abf, zi_fb, zi_bf, lget, lst, lst2, lc2, Option.map_some, zso, if_true, if_false, zc1, and_true, true_and, and_self, List.length_nil, List.length_cons, Nat.zero_le, reduceIte, reduceCtorEq, false_and, and_false, Bool.false_eq_true, zca_some, zr0, zr100, Option.bind_some, zb_none, zb_some, zrc, or_true, true_or, eq_self, ne_eq, not_true_eq_false, not_false_eq_true, zrt_i, zrt_zb, zrt_b, zrt_c, zrt_l, zrt_f, zrt_r, zrt_n, zrt_v, zft_0, zft_1, zft_zb, zft_3, zft_4, zft_5, zft_7r, zft_7n, iI_t, zb_i, zb_0, zb_1, Nat.reduceAdd, Nat.reduceLeDiff, Nat.reduceEqDiff, Nat.reduceSub, Int.reduceNeg, iI_add, iI_sub, iI_mul, iI_neg, iI_n, zbz, zchar_id, zin, zwr_s, zwr_a, zwr_i, if_pos, if_neg, Int.toNat_natCast, Int.natCast_zero, Int.reduceToNat, z57, zc3, zc6, e91, e82, zb_x, zt1, zt2]
set_option maxRecDepth 20000 in
theorem c58 {x : Int} {c : Nat} {h : zH} {X D : zD} (p : Inv c h X D) (hr : iR x) : ∃ X1 D1, InvG c h D X1 D1 ∧ iR (if qSp D1 x = 0 then (spK (lyF D1).2.1 x.toNat).2.2.1 else 0) ∧
    (cV (zc 58 2 [.ref 3, .int (Int32.ofInt x)] (zV (zU h X) D)) (qSp D1 x) (if qSp D1 x = 0 then (spK (lyF D1).2.1 x.toNat).2.2.1 else 0) h X1 D1 ∨ cE (zc 58 2 [.ref 3, .int (Int32.ofInt x)] (zV (zU h X) D)) (qSp D1 x) 1 2 h X1 D1) := by
  obtain ⟨X1, D1, e91, p1, la, -, -, gl, -⟩ := lay p
  refine ⟨X1, D1, ⟨p1, gl⟩, ?_⟩
  obtain ⟨g1, g2, g3⟩ := spL p1.1.1 la
  have e34 := c35_6 (i := x) (h := zU h X1) (D := D1) hr g1
  by_cases g : 0 ≤ x ∧ x ≤ ((lyF D1).2.1.length : Int) - 1
  · have e82 := c82_t (x := x) (h := zU h X1) (D := D1) g1.2 (by omega)
    have q0 : qSp D1 x = 0 := if_pos g
    obtain ⟨v1, v2, v3, v4, v5⟩ := g3 x.toNat (by omega)
    rw [if_pos (by omega)] at e34
    rw [if_pos q0, ← v2]
    refine ⟨by omega, Or.inl ⟨q0, ?_⟩⟩
    rw [zc]
    clear p p1 la g3 v1 v2 v3
    simp (disch := first | omega | (simp (disch := omega) only [zwr_s, zwr_a, zwr_i, zn_put, zn_new, zn_fil, zn_chg, zV_n]; omega)) only [zentry, zs0, zs1, zs2, zs3, zg_lo, zg_st, zg_st2, zg_ald, zg_ast, zs_ia, zs_i0, zcs, zg_ii, zi_max, zi_min, zi_abi, zi_abf, zi_fb, zi_bf, lget, lst, lst2, lc2, Option.map_some, zso, if_true, if_false, zc1, and_true, true_and, and_self, List.length_nil, List.length_cons, Nat.zero_le, reduceIte, reduceCtorEq, false_and, and_false, Bool.false_eq_true, zca_some, zr0, zr100, Option.bind_some, zb_none, zb_some, zrc, or_true, true_or, eq_self, ne_eq, not_true_eq_false, not_false_eq_true, zrt_i, zrt_zb, zrt_b, zrt_c, zrt_l, zrt_f, zrt_r, zrt_n, zrt_v, zft_0, zft_1, zft_zb, zft_3, zft_4, zft_5, zft_7r, zft_7n, iI_t, zb_i, zb_0, zb_1, Nat.reduceAdd, Nat.reduceLeDiff, Nat.reduceEqDiff, Nat.reduceSub, Int.reduceNeg, iI_add, iI_sub, iI_mul, iI_neg, iI_n, zbz, zchar_id, zin, zwr_s, zwr_a, zwr_i, if_pos, if_neg, Int.toNat_natCast, Int.natCast_zero, Int.reduceToNat, z58, zc3, zc6, e91, e82, e34, zt1, zt2]
  · have e82 := c82_f (x := x) (X := X1) (h := h) (D := D1) g1 hr (by omega)
    have q1 : qSp D1 x = 1 := if_neg g
    rw [if_neg (by omega)]
    refine ⟨by omega, Or.inr ⟨q1, ?_⟩⟩
    rw [zc]
    clear p p1 la g3
    simp (disch := first | omega | (simp (disch := omega) only [zwr_s, zwr_a, zwr_i, zn_put, zn_new, zn_fil, zn_chg, zV_n]; omega)) only [zentry, zs0, zs1, zs2, zs3, zg_lo, zg_st, zg_st2, zg_ald, zg_ast, zs_ia, zs_i0, zcs, zg_ii, zi_max, zi_min, zi_abi, zi_abf, zi_fb, zi_bf, lget, lst, lst2, lc2, Option.map_some, zso, if_true, if_false, zc1, and_true, true_and, and_self, List.length_nil, List.length_cons, Nat.zero_le, reduceIte, reduceCtorEq, false_and, and_false, Bool.false_eq_true, zca_some, zr0, zr100, Option.bind_some, zb_none, zb_some, zrc, or_true, true_or, eq_self, ne_eq, not_true_eq_false, not_false_eq_true, zrt_i, zrt_zb, zrt_b, zrt_c, zrt_l, zrt_f, zrt_r, zrt_n, zrt_v, zft_0, zft_1, zft_zb, zft_3, zft_4, zft_5, zft_7r, zft_7n, iI_t, zb_i, zb_0, zb_1, Nat.reduceAdd, Nat.reduceLeDiff, Nat.reduceEqDiff, Nat.reduceSub, Int.reduceNeg, iI_add, iI_sub, iI_mul, iI_neg, iI_n, zbz, zchar_id, zin, zwr_s, zwr_a, zwr_i, if_pos, if_neg, Int.toNat_natCast, Int.natCast_zero, Int.reduceToNat, z58, zc3, zc6, e91, e82, zb_x, zt1, zt2]
set_option maxRecDepth 20000 in
theorem c59 {x : Int} {c : Nat} {h : zH} {X D : zD} (p : Inv c h X D) (hr : iR x) : ∃ X1 D1, InvG c h D X1 D1 ∧ iR (if qSp D1 x = 0 then (spK (lyF D1).2.1 x.toNat).2.2.2 - (spK (lyF D1).2.1 x.toNat).2.2.1 else 0) ∧
    (cV (zc 59 2 [.ref 3, .int (Int32.ofInt x)] (zV (zU h X) D)) (qSp D1 x) (if qSp D1 x = 0 then (spK (lyF D1).2.1 x.toNat).2.2.2 - (spK (lyF D1).2.1 x.toNat).2.2.1 else 0) h X1 D1 ∨ cE (zc 59 2 [.ref 3, .int (Int32.ofInt x)] (zV (zU h X) D)) (qSp D1 x) 1 2 h X1 D1) := by
  obtain ⟨X1, D1, e91, p1, la, -, -, gl, -⟩ := lay p
  refine ⟨X1, D1, ⟨p1, gl⟩, ?_⟩
  obtain ⟨g1, g2, g3⟩ := spL p1.1.1 la
  have e34 := c37_6 (i := x) (h := zU h X1) (D := D1) hr g1
  by_cases g : 0 ≤ x ∧ x ≤ ((lyF D1).2.1.length : Int) - 1
  · have e82 := c82_t (x := x) (h := zU h X1) (D := D1) g1.2 (by omega)
    have q0 : qSp D1 x = 0 := if_pos g
    obtain ⟨v1, v2, v3, v4, v5⟩ := g3 x.toNat (by omega)
    rw [if_pos (by omega)] at e34
    rw [if_pos q0, ← v3, ← v2]
    refine ⟨by omega, Or.inl ⟨q0, ?_⟩⟩
    rw [zc]
    clear p p1 la g3 v1 v2 v3
    simp (disch := first | omega | (simp (disch := omega) only [zwr_s, zwr_a, zwr_i, zn_put, zn_new, zn_fil, zn_chg, zV_n]; omega)) only [zentry, zs0, zs1, zs2, zs3, zg_lo, zg_st, zg_st2, zg_ald, zg_ast, zs_ia, zs_i0, zcs, zg_ii, zi_max, zi_min, zi_abi, zi_abf, zi_fb, zi_bf, lget, lst, lst2, lc2, Option.map_some, zso, if_true, if_false, zc1, and_true, true_and, and_self, List.length_nil, List.length_cons, Nat.zero_le, reduceIte, reduceCtorEq, false_and, and_false, Bool.false_eq_true, zca_some, zr0, zr100, Option.bind_some, zb_none, zb_some, zrc, or_true, true_or, eq_self, ne_eq, not_true_eq_false, not_false_eq_true, zrt_i, zrt_zb, zrt_b, zrt_c, zrt_l, zrt_f, zrt_r, zrt_n, zrt_v, zft_0, zft_1, zft_zb, zft_3, zft_4, zft_5, zft_7r, zft_7n, iI_t, zb_i, zb_0, zb_1, Nat.reduceAdd, Nat.reduceLeDiff, Nat.reduceEqDiff, Nat.reduceSub, Int.reduceNeg, iI_add, iI_sub, iI_mul, iI_neg, iI_n, zbz, zchar_id, zin, zwr_s, zwr_a, zwr_i, if_pos, if_neg, Int.toNat_natCast, Int.natCast_zero, Int.reduceToNat, z59, zc3, zc6, e91, e82, e34, zt1, zt2]
  · have e82 := c82_f (x := x) (X := X1) (h := h) (D := D1) g1 hr (by omega)
    have q1 : qSp D1 x = 1 := if_neg g
    rw [if_neg (by omega)]
    refine ⟨by omega, Or.inr ⟨q1, ?_⟩⟩
    rw [zc]
    clear p p1 la g3
    simp (disch := first | omega | (simp (disch := omega) only [zwr_s, zwr_a, zwr_i, zn_put, zn_new, zn_fil, zn_chg, zV_n]; omega)) only [zentry, zs0, zs1, zs2, zs3, zg_lo, zg_st, zg_st2, zg_ald, zg_ast, zs_ia, zs_i0, zcs, zg_ii, zi_max, zi_min, zi_abi, zi_abf, zi_fb, zi_bf, lget, lst, lst2, lc2, Option.map_some, zso, if_true, if_false, zc1, and_true, true_and, and_self, List.length_nil, List.length_cons, Nat.zero_le, reduceIte, reduceCtorEq, false_and, and_false, Bool.false_eq_true, zca_some, zr0, zr100, Option.bind_some, zb_none, zb_some, zrc, or_true, true_or, eq_self, ne_eq, not_true_eq_false, not_false_eq_true, zrt_i, zrt_zb, zrt_b, zrt_c, zrt_l, zrt_f, zrt_r, zrt_n, zrt_v, zft_0, zft_1, zft_zb, zft_3, zft_4, zft_5, zft_7r, zft_7n, iI_t, zb_i, zb_0, zb_1, Nat.reduceAdd, Nat.reduceLeDiff, Nat.reduceEqDiff, Nat.reduceSub, Int.reduceNeg, iI_add, iI_sub, iI_mul, iI_neg, iI_n, zbz, zchar_id, zin, zwr_s, zwr_a, zwr_i, if_pos, if_neg, Int.toNat_natCast, Int.natCast_zero, Int.reduceToNat, z59, zc3, zc6, e91, e82, zb_x, zt1, zt2]
theorem qSec_v {x : Int} : qSec x = 0 ∨ qSec x = 1 := by
  unfold qSec
  split <;> omega
set_option maxRecDepth 20000 in
theorem c60 {x : Int} {c : Nat} {h : zH} {X D : zD} (p : Inv c h X D) (hr : iR x) : ∃ X1 D1, InvG c h D X1 D1 ∧ iR (if qSec x = 0 then rAir D1 x else 0) ∧
    (cV (zc 60 2 [.ref 3, .int (Int32.ofInt x)] (zV (zU h X) D)) (qSec x) (if qSec x = 0 then rAir D1 x else 0) h X1 D1 ∨ cE (zc 60 2 [.ref 3, .int (Int32.ofInt x)] (zV (zU h X) D)) (qSec x) 1 0 h X1 D1) := by
  by_cases g : 0 ≤ x ∧ x ≤ 3599
  · obtain ⟨X1, D1, e91, p1, la, -, -, gl, -⟩ := lay p
    refine ⟨X1, D1, ⟨p1, gl⟩, ?_⟩
    have q0 : qSec x = 0 := if_pos g
    obtain ⟨l1, l2, l3, -⟩ := lyF_ok p1.1.1
    have e38 := c38_6 (h := zU h X1) la.1 l1 l2 la.2.1 (s := x) (by omega)
    have e84 := c84_t (x := x) (h := zV (zU h X) D) (by omega)
    have h7 := p1.1.1.1.1
    have v := l3 _ (spK_mem (sp := (lyF D1).2.1) (k := airIx x (lyF D1).2.1) (airIx_p l1 g.1 (by omega)).1)
    rw [if_pos q0]
    have er : rAir D1 x = (spK (lyF D1).2.1 (airIx x (lyF D1).2.1)).1 := rfl
    rw [← er] at v e38
    refine ⟨by rcases v with v | v <;> omega, Or.inl ⟨q0, ?_⟩⟩
    rw [zc]
    clear p p1 la l1 l2 l3 v er
    simp (disch := first | omega | (simp (disch := omega) only [zwr_s, zwr_a, zwr_i, zn_put, zn_new, zn_fil, zn_chg, zV_n]; omega)) only [zentry, zs0, zs1, zs2, zs3, zg_lo, zg_st, zg_st2, zg_ald, zg_ast, zs_ia, zs_i0, zcs, zg_ii, zi_max, zi_min, zi_abi, zi_abf, zi_fb, zi_bf, lget, lst, lst2, lc2, Option.map_some, zso, if_true, if_false, zc1, and_true, true_and, and_self, List.length_nil, List.length_cons, Nat.zero_le, reduceIte, reduceCtorEq, false_and, and_false, Bool.false_eq_true, zca_some, zr0, zr100, Option.bind_some, zb_none, zb_some, zrc, or_true, true_or, eq_self, ne_eq, not_true_eq_false, not_false_eq_true, zrt_i, zrt_zb, zrt_b, zrt_c, zrt_l, zrt_f, zrt_r, zrt_n, zrt_v, zft_0, zft_1, zft_zb, zft_3, zft_4, zft_5, zft_7r, zft_7n, iI_t, zb_i, zb_0, zb_1, Nat.reduceAdd, Nat.reduceLeDiff, Nat.reduceEqDiff, Nat.reduceSub, Int.reduceNeg, iI_add, iI_sub, iI_mul, iI_neg, iI_n, zbz, zchar_id, zin, zwr_s, zwr_a, zwr_i, if_pos, if_neg, Int.toNat_natCast, Int.natCast_zero, Int.reduceToNat, z60, zc3, zc6, e91, e84, e38, zt1, zt2]
  · refine ⟨X, D, ⟨p, gs.rf⟩, ?_⟩
    have q1 : qSec x = 1 := if_neg g
    have e84 := c84_f (x := x) (h := h) (X := X) (D := D) hr (by omega)
    rw [if_neg (by omega)]
    refine ⟨by omega, Or.inr ⟨q1, ?_⟩⟩
    rw [zc]
    clear p
    simp (disch := first | omega | (simp (disch := omega) only [zwr_s, zwr_a, zwr_i, zn_put, zn_new, zn_fil, zn_chg, zV_n]; omega)) only [zentry, zs0, zs1, zs2, zs3, zg_lo, zg_st, zg_st2, zg_ald, zg_ast, zs_ia, zs_i0, zcs, zg_ii, zi_max, zi_min, zi_abi, zi_abf, zi_fb, zi_bf, lget, lst, lst2, lc2, Option.map_some, zso, if_true, if_false, zc1, and_true, true_and, and_self, List.length_nil, List.length_cons, Nat.zero_le, reduceIte, reduceCtorEq, false_and, and_false, Bool.false_eq_true, zca_some, zr0, zr100, Option.bind_some, zb_none, zb_some, zrc, or_true, true_or, eq_self, ne_eq, not_true_eq_false, not_false_eq_true, zrt_i, zrt_zb, zrt_b, zrt_c, zrt_l, zrt_f, zrt_r, zrt_n, zrt_v, zft_0, zft_1, zft_zb, zft_3, zft_4, zft_5, zft_7r, zft_7n, iI_t, zb_i, zb_0, zb_1, Nat.reduceAdd, Nat.reduceLeDiff, Nat.reduceEqDiff, Nat.reduceSub, Int.reduceNeg, iI_add, iI_sub, iI_mul, iI_neg, iI_n, zbz, zchar_id, zin, zwr_s, zwr_a, zwr_i, if_pos, if_neg, Int.toNat_natCast, Int.natCast_zero, Int.reduceToNat, z60, zc3, e84, zb_x, zt1, zt2]
set_option maxRecDepth 20000 in
theorem c61 {x : Int} {c : Nat} {h : zH} {X D : zD} (p : Inv c h X D) (hr : iR x) : ∃ X1 D1, InvG c h D X1 D1 ∧ iR (if qSec x = 0 then rAir D1 x else 0) ∧
    (cV (zc 61 2 [.ref 3, .int (Int32.ofInt x)] (zV (zU h X) D)) (qSec x) (if qSec x = 0 then rAir D1 x else 0) h X1 D1 ∨ cE (zc 61 2 [.ref 3, .int (Int32.ofInt x)] (zV (zU h X) D)) (qSec x) 1 0 h X1 D1) := by
  by_cases g : 0 ≤ x ∧ x ≤ 3599
  · obtain ⟨X1, D1, e91, p1, la, -, -, gl, -⟩ := lay p
    refine ⟨X1, D1, ⟨p1, gl⟩, ?_⟩
    have q0 : qSec x = 0 := if_pos g
    obtain ⟨l1, l2, l3, -⟩ := lyF_ok p1.1.1
    have e38 := c39_6 (h := zU h X1) la.1 l1 l2 la.2.1 (s := x) (by omega)
    have e84 := c84_t (x := x) (h := zV (zU h X) D) (by omega)
    have h7 := p1.1.1.1.1
    have v := l3 _ (spK_mem (sp := (lyF D1).2.1) (k := airIx x (lyF D1).2.1) (airIx_p l1 g.1 (by omega)).1)
    rw [if_pos q0]
    have er : rAir D1 x = (spK (lyF D1).2.1 (airIx x (lyF D1).2.1)).1 := rfl
    rw [← er] at v e38
    refine ⟨by rcases v with v | v <;> omega, Or.inl ⟨q0, ?_⟩⟩
    rw [zc]
    clear p p1 la l1 l2 l3 v er
    simp (disch := first | omega | (simp (disch := omega) only [zwr_s, zwr_a, zwr_i, zn_put, zn_new, zn_fil, zn_chg, zV_n]; omega)) only [zentry, zs0, zs1, zs2, zs3, zg_lo, zg_st, zg_st2, zg_ald, zg_ast, zs_ia, zs_i0, zcs, zg_ii, zi_max, zi_min, zi_abi, zi_abf, zi_fb, zi_bf, lget, lst, lst2, lc2, Option.map_some, zso, if_true, if_false, zc1, and_true, true_and, and_self, List.length_nil, List.length_cons, Nat.zero_le, reduceIte, reduceCtorEq, false_and, and_false, Bool.false_eq_true, zca_some, zr0, zr100, Option.bind_some, zb_none, zb_some, zrc, or_true, true_or, eq_self, ne_eq, not_true_eq_false, not_false_eq_true, zrt_i, zrt_zb, zrt_b, zrt_c, zrt_l, zrt_f, zrt_r, zrt_n, zrt_v, zft_0, zft_1, zft_zb, zft_3, zft_4, zft_5, zft_7r, zft_7n, iI_t, zb_i, zb_0, zb_1, Nat.reduceAdd, Nat.reduceLeDiff, Nat.reduceEqDiff, Nat.reduceSub, Int.reduceNeg, iI_add, iI_sub, iI_mul, iI_neg, iI_n, zbz, zchar_id, zin, zwr_s, zwr_a, zwr_i, if_pos, if_neg, Int.toNat_natCast, Int.natCast_zero, Int.reduceToNat, z61, zc3, zc6, e91, e84, e38, zt1, zt2]
  · refine ⟨X, D, ⟨p, gs.rf⟩, ?_⟩
    have q1 : qSec x = 1 := if_neg g
    have e84 := c84_f (x := x) (h := h) (X := X) (D := D) hr (by omega)
    rw [if_neg (by omega)]
    refine ⟨by omega, Or.inr ⟨q1, ?_⟩⟩
    rw [zc]
    clear p
    simp (disch := first | omega | (simp (disch := omega) only [zwr_s, zwr_a, zwr_i, zn_put, zn_new, zn_fil, zn_chg, zV_n]; omega)) only [zentry, zs0, zs1, zs2, zs3, zg_lo, zg_st, zg_st2, zg_ald, zg_ast, zs_ia, zs_i0, zcs, zg_ii, zi_max, zi_min, zi_abi, zi_abf, zi_fb, zi_bf, lget, lst, lst2, lc2, Option.map_some, zso, if_true, if_false, zc1, and_true, true_and, and_self, List.length_nil, List.length_cons, Nat.zero_le, reduceIte, reduceCtorEq, false_and, and_false, Bool.false_eq_true, zca_some, zr0, zr100, Option.bind_some, zb_none, zb_some, zrc, or_true, true_or, eq_self, ne_eq, not_true_eq_false, not_false_eq_true, zrt_i, zrt_zb, zrt_b, zrt_c, zrt_l, zrt_f, zrt_r, zrt_n, zrt_v, zft_0, zft_1, zft_zb, zft_3, zft_4, zft_5, zft_7r, zft_7n, iI_t, zb_i, zb_0, zb_1, Nat.reduceAdd, Nat.reduceLeDiff, Nat.reduceEqDiff, Nat.reduceSub, Int.reduceNeg, iI_add, iI_sub, iI_mul, iI_neg, iI_n, zbz, zchar_id, zin, zwr_s, zwr_a, zwr_i, if_pos, if_neg, Int.toNat_natCast, Int.natCast_zero, Int.reduceToNat, z61, zc3, e84, zb_x, zt1, zt2]
set_option maxRecDepth 20000 in
theorem k56 {c : Nat} {h : zH} {X D : zD} (p : Inv c h X D) : ∃ X1 D1, InvG c h D X1 D1 ∧ zc 56 1 [.ref 3] (zV (zU h X) D) = some (.inl (some (.int (Int32.ofInt ((lyF D1).2.1.length : Int)))), zV (zU h X1) D1) := by
  obtain ⟨X1, D1, e91, p1, la, -, -, gl, -⟩ := lay p
  have l6 := la.1
  refine ⟨X1, D1, ⟨p1, gl⟩, ?_⟩
  rw [zc]
  clear p p1 la gl
  generalize (lyF D1).2.1.length = n at *
  simp (disch := first | omega | (simp (disch := omega) only [zwr_s, zwr_a, zwr_i, zn_put, zn_new, zn_fil, zn_chg, zV_n]; omega)) only [zentry, zs0, zs1, zs2, zs3, zg_lo, zg_st, zg_st2, zg_ald, zg_ast, zs_ia, zs_i0, zcs, zg_ii, zi_max, zi_min, zi_abi, zi_abf, zi_fb, zi_bf, lget, lst, lst2, lc2, Option.map_some, zso, if_true, if_false, zc1, and_true, true_and, and_self, List.length_nil, List.length_cons, Nat.zero_le, reduceIte, reduceCtorEq, false_and, and_false, Bool.false_eq_true, zca_some, zr0, zr100, Option.bind_some, zb_none, zb_some, zrc, or_true, true_or, eq_self, ne_eq, not_true_eq_false, not_false_eq_true, zrt_i, zrt_zb, zrt_b, zrt_c, zrt_l, zrt_f, zrt_r, zrt_n, zrt_v, zft_0, zft_1, zft_zb, zft_3, zft_4, zft_5, zft_7r, zft_7n, iI_t, zb_i, zb_0, zb_1, Nat.reduceAdd, Nat.reduceLeDiff, Nat.reduceEqDiff, Nat.reduceSub, Int.reduceNeg, iI_add, iI_sub, iI_mul, iI_neg, iI_n, zbz, zchar_id, zin, zwr_s, zwr_a, zwr_i, if_pos, if_neg, Int.toNat_natCast, Int.natCast_zero, Int.reduceToNat, z56, zc3, zc6, e91, l6, zt1]

/-! slate, mean level, apart -/
set_option maxRecDepth 20000 in
theorem k62 {c : Nat} {h : zH} {X D : zD} (p : Inv c h X D) : ∃ X1 D1, InvG c h D X1 D1 ∧ zc 62 3 [.ref 3] (zV (zU h X) D) = some (.inl (some (.int (Int32.ofInt (slS (lyF D1).2.1 (lyF D1).2.1.length)))), zV (zU h X1) D1) := by
  obtain ⟨X1, D1, e91, p1, la, -, -, gl, -⟩ := lay p
  refine ⟨X1, D1, ⟨p1, gl⟩, ?_⟩
  obtain ⟨g1, g2, g3⟩ := spL p1.1.1 la
  obtain ⟨c1, c2, -⟩ := lyF_ok p1.1.1
  clear la p p1 gl
  generalize (lyF D1).2.1 = sp at *
  have hloop := zloop (k := 62) (pc := 8) (fun i => [some (.ref 3), some (.int (Int32.ofInt (slS sp i))), some (.int (Int32.ofInt (i : Int)))]) (fun _ => zV (zU h X1) D1) sp.length (fun i hi => by
    obtain ⟨v1, v2, v3, v4, v5⟩ := g3 i (by omega)
    have s1 := slS_b c1 i (by omega)
    have s2 := lnS_m c1 (sp.length - i) i (by omega)
    have e34 := c34_6 (i := (i : Int)) (h := zU h X1) (D := D1) (by omega) g1
    have e37 := c37_6 (i := (i : Int)) (h := zU h X1) (D := D1) (by omega) g1
    rw [if_pos (by omega), Int.toNat_natCast] at e34 e37
    rw [v1] at e34 v4
    rw [v2, v3] at e37
    rw [v2, v3] at v5
    conv => lhs; rw [z62_8]
    rw [slS]
    clear g3 c1 e91 v1 v2 v3
    generalize spK sp i = sx at *
    generalize slS sp i = sl at *
    by_cases g : sx.1 = -1
    · rw [if_pos g]
      rw [g] at e34
      simp (disch := first | omega | (simp (disch := omega) only [zwr_s, zwr_a, zwr_i, zn_put, zn_new, zn_fil, zn_chg, zV_n]; omega)) only [zentry, zs0, zs1, zs2, zs3, zg_lo, zg_st, zg_st2, zg_ald, zg_ast, zs_ia, zs_i0, zcs, zg_ii, zi_max, zi_min, zi_abi, zi_abf, zi_fb, zi_bf, lget, lst, lst2, lc2, Option.map_some, zso, if_true, if_false, zc1, and_true, true_and, and_self, List.length_nil, List.length_cons, Nat.zero_le, reduceIte, reduceCtorEq, false_and, and_false, Bool.false_eq_true, zca_some, zr0, zr100, Option.bind_some, zb_none, zb_some, zrc, or_true, true_or, eq_self, ne_eq, not_true_eq_false, not_false_eq_true, zrt_i, zrt_zb, zrt_b, zrt_c, zrt_l, zrt_f, zrt_r, zrt_n, zrt_v, zft_0, zft_1, zft_zb, zft_3, zft_4, zft_5, zft_7r, zft_7n, iI_t, zb_i, zb_0, zb_1, Nat.reduceAdd, Nat.reduceLeDiff, Nat.reduceEqDiff, Nat.reduceSub, Int.reduceNeg, iI_add, iI_sub, iI_mul, iI_neg, iI_n, zbz, zchar_id, zin, zwr_s, zwr_a, zwr_i, if_pos, if_neg, Int.toNat_natCast, Int.natCast_zero, Int.reduceToNat, z62, e34, e37, g2, zc3, zc6, zt2]
    · rw [if_neg g]
      simp (disch := first | omega | (simp (disch := omega) only [zwr_s, zwr_a, zwr_i, zn_put, zn_new, zn_fil, zn_chg, zV_n]; omega)) only [zentry, zs0, zs1, zs2, zs3, zg_lo, zg_st, zg_st2, zg_ald, zg_ast, zs_ia, zs_i0, zcs, zg_ii, zi_max, zi_min, zi_abi, zi_abf, zi_fb, zi_bf, lget, lst, lst2, lc2, Option.map_some, zso, if_true, if_false, zc1, and_true, true_and, and_self, List.length_nil, List.length_cons, Nat.zero_le, reduceIte, reduceCtorEq, false_and, and_false, Bool.false_eq_true, zca_some, zr0, zr100, Option.bind_some, zb_none, zb_some, zrc, or_true, true_or, eq_self, ne_eq, not_true_eq_false, not_false_eq_true, zrt_i, zrt_zb, zrt_b, zrt_c, zrt_l, zrt_f, zrt_r, zrt_n, zrt_v, zft_0, zft_1, zft_zb, zft_3, zft_4, zft_5, zft_7r, zft_7n, iI_t, zb_i, zb_0, zb_1, Nat.reduceAdd, Nat.reduceLeDiff, Nat.reduceEqDiff, Nat.reduceSub, Int.reduceNeg, iI_add, iI_sub, iI_mul, iI_neg, iI_n, zbz, zchar_id, zin, zwr_s, zwr_a, zwr_i, if_pos, if_neg, Int.toNat_natCast, Int.natCast_zero, Int.reduceToNat, z62, e34, e37, g2, zc3, zc6, Int.add_zero, zt2]) sp.length (Nat.le_refl _)
  have st : zc 62 3 [.ref 3] (zV (zU h X) D) = zx 62 8 [some (.ref 3), some (.int (Int32.ofInt 0)), some (.int (Int32.ofInt ((0 : Nat) : Int)))] [] (zV (zU h X1) D1) := by
    rw [zc]
    clear hloop g3 c1
    simp (disch := first | omega | (simp (disch := omega) only [zwr_s, zwr_a, zwr_i, zn_put, zn_new, zn_fil, zn_chg, zV_n]; omega)) only [zentry, zs0, zs1, zs2, zs3, zg_lo, zg_st, zg_st2, zg_ald, zg_ast, zs_ia, zs_i0, zcs, zg_ii, zi_max, zi_min, zi_abi, zi_abf, zi_fb, zi_bf, lget, lst, lst2, lc2, Option.map_some, zso, if_true, if_false, zc1, and_true, true_and, and_self, List.length_nil, List.length_cons, Nat.zero_le, reduceIte, reduceCtorEq, false_and, and_false, Bool.false_eq_true, zca_some, zr0, zr100, Option.bind_some, zb_none, zb_some, zrc, or_true, true_or, eq_self, ne_eq, not_true_eq_false, not_false_eq_true, zrt_i, zrt_zb, zrt_b, zrt_c, zrt_l, zrt_f, zrt_r, zrt_n, zrt_v, zft_0, zft_1, zft_zb, zft_3, zft_4, zft_5, zft_7r, zft_7n, iI_t, zb_i, zb_0, zb_1, Nat.reduceAdd, Nat.reduceLeDiff, Nat.reduceEqDiff, Nat.reduceSub, Int.reduceNeg, iI_add, iI_sub, iI_mul, iI_neg, iI_n, zbz, zchar_id, zin, zwr_s, zwr_a, zwr_i, if_pos, if_neg, Int.toNat_natCast, Int.natCast_zero, Int.reduceToNat, z62, zt1, e91, zc3]
  rw [st]
  refine Eq.trans hloop ?_
  rw [z62_8]
  have s1 := slS_b c1 sp.length (by omega)
  have s2 := lnS_t c1
  clear hloop g3 c1 st e91
  generalize slS sp sp.length = sl at *
  simp (disch := first | omega | (simp (disch := omega) only [zwr_s, zwr_a, zwr_i, zn_put, zn_new, zn_fil, zn_chg, zV_n]; omega)) only [zentry, zs0, zs1, zs2, zs3, zg_lo, zg_st, zg_st2, zg_ald, zg_ast, zs_ia, zs_i0, zcs, zg_ii, zi_max, zi_min, zi_abi, zi_abf, zi_fb, zi_bf, lget, lst, lst2, lc2, Option.map_some, zso, if_true, if_false, zc1, and_true, true_and, and_self, List.length_nil, List.length_cons, Nat.zero_le, reduceIte, reduceCtorEq, false_and, and_false, Bool.false_eq_true, zca_some, zr0, zr100, Option.bind_some, zb_none, zb_some, zrc, or_true, true_or, eq_self, ne_eq, not_true_eq_false, not_false_eq_true, zrt_i, zrt_zb, zrt_b, zrt_c, zrt_l, zrt_f, zrt_r, zrt_n, zrt_v, zft_0, zft_1, zft_zb, zft_3, zft_4, zft_5, zft_7r, zft_7n, iI_t, zb_i, zb_0, zb_1, Nat.reduceAdd, Nat.reduceLeDiff, Nat.reduceEqDiff, Nat.reduceSub, Int.reduceNeg, iI_add, iI_sub, iI_mul, iI_neg, iI_n, zbz, zchar_id, zin, zwr_s, zwr_a, zwr_i, if_pos, if_neg, Int.toNat_natCast, Int.natCast_zero, Int.reduceToNat, z62, g2, zc3, zc6]
set_option maxRecDepth 20000 in
/-- the class's mean level -/
theorem c100 {c : Nat} {h : zH} {X D : zD} (p : Inv c h X D) (la : laO X D) :
    (qMn D = 0 ∧ zc 100 6 [.ref 3] (zV (zU h X) D) = some (.inl (some (.float (rMn D))), zV (zU h X) D)) ∨ (qMn D = 1 ∧ zc 100 6 [.ref 3] (zV (zU h X) D) = some (.inr 4, zV (zU (zchg h 1 6) X) D)) := by
  have hO := p.1.1
  obtain ⟨g1, g2, g3⟩ := spL hO la
  obtain ⟨c1, c2, c3, -⟩ := lyF_ok hO
  have h7 := hO.1.1
  have nn := rMn_nn hO
  have hp := mnV_p hO.1 c1 c3
  have hN := mnN_nz c1
  have hC := p.2.1.1
  have h0 := hC.1.1
  have e175 := c175 (h := h) (X := X) (D := D) (a := 4) (by omega) h0.1
  rw [h0.2.1] at e175
  have l34 : ∀ i : Nat, (i : Int) < D 32 7 → -60 ≤ D 34 i ∧ D 34 i ≤ 0 := fun i hi => (hO.1.2.2 i hi).2.1
  unfold rMn qMn at nn ⊢
  clear hO p la
  generalize (lyF D).2.1 = sp at *
  have hL : ∀ n i (x4 x5 : Option Value), i + n = sp.length → ∃ x4' x5', zx 100 6 [some (.ref 3), some (.float (mnV D sp i)), some (.int (Int32.ofInt (mnN sp i))), some (.int (Int32.ofInt (i : Int))), x4, x5] [] (zV (zU h X) D) = zx 100 6 [some (.ref 3), some (.float (mnV D sp sp.length)), some (.int (Int32.ofInt (mnN sp sp.length))), some (.int (Int32.ofInt (sp.length : Int))), x4', x5'] [] (zV (zU h X) D) := by
    intro n
    induction n with
    | zero =>
      intro i x4 x5 hi
      exact ⟨x4, x5, by rw [show i = sp.length by omega]⟩
    | succ n ih =>
      intro i x4 x5 hi
      obtain ⟨v1, v2, v3, v4, v5⟩ := g3 i (by omega)
      have e34 := c34_6 (i := (i : Int)) (h := zU h X) (D := D) (by omega) g1
      have e37 := c37_6 (i := (i : Int)) (h := zU h X) (D := D) (by omega) g1
      rw [if_pos (by omega), Int.toNat_natCast] at e34 e37
      have v := c3 _ (spK_mem (sp := sp) (k := i) (by omega))
      rw [v1] at e34 v4
      rw [v2, v3] at e37 v5
      have n1 := hN i (by omega)
      have z1 := fl_zn (fl_int (hp (i + 1) (by omega)).1)
      have n2 := hN (i + 1) (by omega)
      by_cases g : (spK sp i).1 = -1
      · obtain ⟨x4', x5', e4⟩ := ih (i + 1) (some (.int (Int32.ofInt (spK sp i).1))) x5 (by omega)
        refine ⟨x4', x5', ?_⟩
        rw [← e4, mnV, mnN, if_pos g, if_pos g]
        conv => lhs; rw [z100_6]
        clear ih e4 hp hN c1 c3 nn z1 g3 v1 v2 v3 hC l34
        generalize mnV D sp i = mv at *
        generalize mnN sp i = mn at *
        generalize spK sp i = sx at *
        simp (disch := first | omega | (simp (disch := omega) only [zwr_s, zwr_a, zwr_i, zn_put, zn_new, zn_fil, zn_chg, zV_n]; omega)) only [zentry, zs0, zs1, zs2, zs3, zg_lo, zg_st, zg_st2, zg_ald, zg_ast, zs_ia, zs_i0, zcs, zg_ii, zi_max, zi_min, zi_abi, zi_abf, zi_fb, zi_bf, lget, lst, lst2, lc2, Option.map_some, zso, if_true, if_false, zc1, and_true, true_and, and_self, List.length_nil, List.length_cons, Nat.zero_le, reduceIte, reduceCtorEq, false_and, and_false, Bool.false_eq_true, zca_some, zr0, zr100, Option.bind_some, zb_none, zb_some, zrc, or_true, true_or, eq_self, ne_eq, not_true_eq_false, not_false_eq_true, zrt_i, zrt_zb, zrt_b, zrt_c, zrt_l, zrt_f, zrt_r, zrt_n, zrt_v, zft_0, zft_1, zft_zb, zft_3, zft_4, zft_5, zft_7r, zft_7n, iI_t, zb_i, zb_0, zb_1, Nat.reduceAdd, Nat.reduceLeDiff, Nat.reduceEqDiff, Nat.reduceSub, Int.reduceNeg, iI_add, iI_sub, iI_mul, iI_neg, iI_n, zbz, zchar_id, zin, zwr_s, zwr_a, zwr_i, if_pos, if_neg, Int.toNat_natCast, Int.natCast_zero, Int.reduceToNat, z100, e34, g2, zc3, zc6, zt2]
      · obtain ⟨x4', x5', e4⟩ := ih (i + 1) (some (.int (Int32.ofInt (spK sp i).1))) (some (.int (Int32.ofInt ((spK sp i).2.2.2 - (spK sp i).2.2.1)))) (by omega)
        refine ⟨x4', x5', ?_⟩
        rw [mnV, if_neg g] at z1
        have l9 := l34 (spK sp i).1.toNat (by omega)
        have e171 := c171 (D := D) (i := (spK sp i).1) (Or.inl rfl) hC.1 (by omega)
        obtain ⟨k1, k2, k3⟩ := hC.K (e := (spK sp i).1.toNat) (by omega)
        have y3 := (hC.2 (spK sp i).1.toNat (by omega)).2.2.2.1
        rw [← e4, mnV, mnN, if_neg g, if_neg g]
        conv => lhs; rw [z100_6]
        have hm := mul_c (y := (spK sp i).2.2.2 - (spK sp i).2.2.1) l9 (by omega)
        clear ih e4 hp hN c1 c3 nn l34 g3 v1 v2 v3 hC
        generalize lsE X 4 (spK sp i).1.toNat = a at *
        generalize mnV D sp i = mv at *
        generalize mnN sp i = mn at *
        generalize spK sp i = sx at *
        simp (disch := first | omega | (simp (disch := omega) only [zwr_s, zwr_a, zwr_i, zn_put, zn_new, zn_fil, zn_chg, zV_n]; omega)) only [zentry, zs0, zs1, zs2, zs3, zg_lo, zg_st, zg_st2, zg_ald, zg_ast, zs_ia, zs_i0, zcs, zg_ii, zi_max, zi_min, zi_abi, zi_abf, zi_fb, zi_bf, lget, lst, lst2, lc2, Option.map_some, zso, if_true, if_false, zc1, and_true, true_and, and_self, List.length_nil, List.length_cons, Nat.zero_le, reduceIte, reduceCtorEq, false_and, and_false, Bool.false_eq_true, zca_some, zr0, zr100, Option.bind_some, zb_none, zb_some, zrc, or_true, true_or, eq_self, ne_eq, not_true_eq_false, not_false_eq_true, zrt_i, zrt_zb, zrt_b, zrt_c, zrt_l, zrt_f, zrt_r, zrt_n, zrt_v, zft_0, zft_1, zft_zb, zft_3, zft_4, zft_5, zft_7r, zft_7n, iI_t, zb_i, zb_0, zb_1, Nat.reduceAdd, Nat.reduceLeDiff, Nat.reduceEqDiff, Nat.reduceSub, Int.reduceNeg, iI_add, iI_sub, iI_mul, iI_neg, iI_n, zbz, zchar_id, zin, zwr_s, zwr_a, zwr_i, if_pos, if_neg, Int.toNat_natCast, Int.natCast_zero, Int.reduceToNat, z100, e34, e37, e175, e171, y3, z1, g2, zuL (a := 4) (Or.inl rfl) h0.1, zuC k1 k3, zc3, zc6, zt1, zt2]
  obtain ⟨x4', x5', e4⟩ := hL sp.length 0 none none (by omega)
  have st : zc 100 6 [.ref 3] (zV (zU h X) D) = zx 100 6 [some (.ref 3), some (.float (mnV D sp 0)), some (.int (Int32.ofInt (mnN sp 0))), some (.int (Int32.ofInt ((0 : Nat) : Int))), none, none] [] (zV (zU h X) D) := by
    rw [zc]
    unfold mnV mnN
    clear hL e4 hp hN c1 c3 nn l34 g3 hC
    simp (disch := first | omega | (simp (disch := omega) only [zwr_s, zwr_a, zwr_i, zn_put, zn_new, zn_fil, zn_chg, zV_n]; omega)) only [zentry, zs0, zs1, zs2, zs3, zg_lo, zg_st, zg_st2, zg_ald, zg_ast, zs_ia, zs_i0, zcs, zg_ii, zi_max, zi_min, zi_abi, zi_abf, zi_fb, zi_bf, lget, lst, lst2, lc2, Option.map_some, zso, if_true, if_false, zc1, and_true, true_and, and_self, List.length_nil, List.length_cons, Nat.zero_le, reduceIte, reduceCtorEq, false_and, and_false, Bool.false_eq_true, zca_some, zr0, zr100, Option.bind_some, zb_none, zb_some, zrc, or_true, true_or, eq_self, ne_eq, not_true_eq_false, not_false_eq_true, zrt_i, zrt_zb, zrt_b, zrt_c, zrt_l, zrt_f, zrt_r, zrt_n, zrt_v, zft_0, zft_1, zft_zb, zft_3, zft_4, zft_5, zft_7r, zft_7n, iI_t, zb_i, zb_0, zb_1, Nat.reduceAdd, Nat.reduceLeDiff, Nat.reduceEqDiff, Nat.reduceSub, Int.reduceNeg, iI_add, iI_sub, iI_mul, iI_neg, iI_n, zbz, zchar_id, zin, zwr_s, zwr_a, zwr_i, if_pos, if_neg, Int.toNat_natCast, Int.natCast_zero, Int.reduceToNat, z100, zc3]
  rw [st, e4, z100_6]
  have n1 := hN sp.length (Nat.le_refl _)
  clear hL e4 hp hN c1 c3 l34 st g3 hC
  by_cases g : mnN sp sp.length = 0
  · rw [if_pos g]
    refine Or.inr ⟨rfl, ?_⟩
    clear nn
    generalize mnV D sp sp.length = mv at *
    generalize mnN sp sp.length = mn at *
    simp (disch := first | omega | (simp (disch := omega) only [zwr_s, zwr_a, zwr_i, zn_put, zn_new, zn_fil, zn_chg, zV_n]; omega)) only [zentry, zs0, zs1, zs2, zs3, zg_lo, zg_st, zg_st2, zg_ald, zg_ast, zs_ia, zs_i0, zcs, zg_ii, zi_max, zi_min, zi_abi, zi_abf, zi_fb, zi_bf, lget, lst, lst2, lc2, Option.map_some, zso, if_true, if_false, zc1, and_true, true_and, and_self, List.length_nil, List.length_cons, Nat.zero_le, reduceIte, reduceCtorEq, false_and, and_false, Bool.false_eq_true, zca_some, zr0, zr100, Option.bind_some, zb_none, zb_some, zrc, or_true, true_or, eq_self, ne_eq, not_true_eq_false, not_false_eq_true, zrt_i, zrt_zb, zrt_b, zrt_c, zrt_l, zrt_f, zrt_r, zrt_n, zrt_v, zft_0, zft_1, zft_zb, zft_3, zft_4, zft_5, zft_7r, zft_7n, iI_t, zb_i, zb_0, zb_1, Nat.reduceAdd, Nat.reduceLeDiff, Nat.reduceEqDiff, Nat.reduceSub, Int.reduceNeg, iI_add, iI_sub, iI_mul, iI_neg, iI_n, zbz, zchar_id, zin, zwr_s, zwr_a, zwr_i, if_pos, if_neg, Int.toNat_natCast, Int.natCast_zero, Int.reduceToNat, z100, g2, g, zc3, zc6, zgX]
  · rw [if_neg g] at nn ⊢
    have z := fl_zn (nn rfl)
    refine Or.inl ⟨rfl, ?_⟩
    clear nn
    generalize mnV D sp sp.length = mv at *
    generalize mnN sp sp.length = mn at *
    simp (disch := first | omega | (simp (disch := omega) only [zwr_s, zwr_a, zwr_i, zn_put, zn_new, zn_fil, zn_chg, zV_n]; omega)) only [zentry, zs0, zs1, zs2, zs3, zg_lo, zg_st, zg_st2, zg_ald, zg_ast, zs_ia, zs_i0, zcs, zg_ii, zi_max, zi_min, zi_abi, zi_abf, zi_fb, zi_bf, lget, lst, lst2, lc2, Option.map_some, zso, if_true, if_false, zc1, and_true, true_and, and_self, List.length_nil, List.length_cons, Nat.zero_le, reduceIte, reduceCtorEq, false_and, and_false, Bool.false_eq_true, zca_some, zr0, zr100, Option.bind_some, zb_none, zb_some, zrc, or_true, true_or, eq_self, ne_eq, not_true_eq_false, not_false_eq_true, zrt_i, zrt_zb, zrt_b, zrt_c, zrt_l, zrt_f, zrt_r, zrt_n, zrt_v, zft_0, zft_1, zft_zb, zft_3, zft_4, zft_5, zft_7r, zft_7n, iI_t, zb_i, zb_0, zb_1, Nat.reduceAdd, Nat.reduceLeDiff, Nat.reduceEqDiff, Nat.reduceSub, Int.reduceNeg, iI_add, iI_sub, iI_mul, iI_neg, iI_n, zbz, zchar_id, zin, zwr_s, zwr_a, zwr_i, if_pos, if_neg, Int.toNat_natCast, Int.natCast_zero, Int.reduceToNat, z100, g2, z, zc3, zc6]
theorem qMn_c {D D' : zD} (q : cEq D D') : qMn D' = qMn D := by
  unfold qMn
  rw [lyF_cc q]
theorem mnV_c {D D' : zD} (q : cEq D D') {sp : zSp} : ∀ n, mnV D' sp n = mnV D sp n
  | 0 => rfl
  | n + 1 => by
    unfold mnV
    rw [mnV_c q n, q 34 _ (by omega)]
theorem rMn_c {D D' : zD} (q : cEq D D') : rMn D' = rMn D := by
  unfold rMn
  rw [lyF_cc q, mnV_c q]
theorem qMn_v {D : zD} : qMn D = 0 ∨ qMn D = 1 := by
  unfold qMn
  split <;> omega
theorem fl_nn0 : FP.Core.fIsNaN FP.fconst0 = false := fl_int fl_0
set_option maxRecDepth 20000 in
theorem k65 {c : Nat} {h : zH} {X D : zD} (p : Inv c h X D) : ∃ X1 D1, InvG c h D X1 D1 ∧ (cF' (zc 65 1 [.ref 3] (zV (zU h X) D)) (qMn D1) (if qMn D1 = 0 then rMn D1 else FP.fconst0) h X1 D1 ∨ cE (zc 65 1 [.ref 3] (zV (zU h X) D)) (qMn D1) 1 4 h X1 D1) := by
  obtain ⟨X1, D1, e91, p1, la, -, -, gl, -⟩ := lay p
  refine ⟨X1, D1, ⟨p1, gl⟩, ?_⟩
  rcases c100 p1 la with ⟨e0, e⟩ | ⟨e0, e⟩
  · rw [if_pos e0]
    refine Or.inl ⟨e0, ?_⟩
    rw [zc]
    clear p p1 la gl
    simp (disch := first | omega | (simp (disch := omega) only [zwr_s, zwr_a, zwr_i, zn_put, zn_new, zn_fil, zn_chg, zV_n]; omega)) only [zentry, zs0, zs1, zs2, zs3, zg_lo, zg_st, zg_st2, zg_ald, zg_ast, zs_ia, zs_i0, zcs, zg_ii, zi_max, zi_min, zi_abi, zi_abf, zi_fb, zi_bf, lget, lst, lst2, lc2, Option.map_some, zso, if_true, if_false, zc1, and_true, true_and, and_self, List.length_nil, List.length_cons, Nat.zero_le, reduceIte, reduceCtorEq, false_and, and_false, Bool.false_eq_true, zca_some, zr0, zr100, Option.bind_some, zb_none, zb_some, zrc, or_true, true_or, eq_self, ne_eq, not_true_eq_false, not_false_eq_true, zrt_i, zrt_zb, zrt_b, zrt_c, zrt_l, zrt_f, zrt_r, zrt_n, zrt_v, zft_0, zft_1, zft_zb, zft_3, zft_4, zft_5, zft_7r, zft_7n, iI_t, zb_i, zb_0, zb_1, Nat.reduceAdd, Nat.reduceLeDiff, Nat.reduceEqDiff, Nat.reduceSub, Int.reduceNeg, iI_add, iI_sub, iI_mul, iI_neg, iI_n, zbz, zchar_id, zin, zwr_s, zwr_a, zwr_i, if_pos, if_neg, Int.toNat_natCast, Int.natCast_zero, Int.reduceToNat, z65, zc3, e91, e, zt1]
  · refine Or.inr ⟨e0, ?_⟩
    rw [zc]
    clear p p1 la gl
    simp (disch := first | omega | (simp (disch := omega) only [zwr_s, zwr_a, zwr_i, zn_put, zn_new, zn_fil, zn_chg, zV_n]; omega)) only [zentry, zs0, zs1, zs2, zs3, zg_lo, zg_st, zg_st2, zg_ald, zg_ast, zs_ia, zs_i0, zcs, zg_ii, zi_max, zi_min, zi_abi, zi_abf, zi_fb, zi_bf, lget, lst, lst2, lc2, Option.map_some, zso, if_true, if_false, zc1, and_true, true_and, and_self, List.length_nil, List.length_cons, Nat.zero_le, reduceIte, reduceCtorEq, false_and, and_false, Bool.false_eq_true, zca_some, zr0, zr100, Option.bind_some, zb_none, zb_some, zrc, or_true, true_or, eq_self, ne_eq, not_true_eq_false, not_false_eq_true, zrt_i, zrt_zb, zrt_b, zrt_c, zrt_l, zrt_f, zrt_r, zrt_n, zrt_v, zft_0, zft_1, zft_zb, zft_3, zft_4, zft_5, zft_7r, zft_7n, iI_t, zb_i, zb_0, zb_1, Nat.reduceAdd, Nat.reduceLeDiff, Nat.reduceEqDiff, Nat.reduceSub, Int.reduceNeg, iI_add, iI_sub, iI_mul, iI_neg, iI_n, zbz, zchar_id, zin, zwr_s, zwr_a, zwr_i, if_pos, if_neg, Int.toNat_natCast, Int.natCast_zero, Int.reduceToNat, z65, zc3, e91, e, zb_x, zt1]
set_option maxRecDepth 20000 in
theorem k76 {c : Nat} {h : zH} {X D : zD} (p : Inv c h X D) : ∃ X1 D1, InvG c h D X1 D1 ∧ ((∃ v : Int, (0 ≤ v ∧ v ≤ 3600) ∧ D 32 31 = 1 ∧ zc 76 2 [.ref 3] (zV (zU h X) D) = some (.inl (some (.int (Int32.ofInt v))), zV (zU h X1) D1)) ∨ (D 32 31 = 0 ∧ zc 76 2 [.ref 3] (zV (zU h X) D) = some (.inr 4, zV (zU (zchg h 1 6) X1) D1))) := by
  have hl := p.2.2.1.2
  rcases hl.2 with ⟨a1, a2, a3⟩ | ⟨a1, lg, l1, l2, l3⟩
  · have h37 : D 3 7 = 0 := by rw [hl.1]; exact a1
    refine ⟨X, D, ⟨p, gs.rf⟩, Or.inr ⟨a1, ?_⟩⟩
    rw [zc]
    clear p hl
    simp (disch := first | omega | (simp (disch := omega) only [zwr_s, zwr_a, zwr_i, zn_put, zn_new, zn_fil, zn_chg, zV_n]; omega)) only [zentry, zs0, zs1, zs2, zs3, zg_lo, zg_st, zg_st2, zg_ald, zg_ast, zs_ia, zs_i0, zcs, zg_ii, zi_max, zi_min, zi_abi, zi_abf, zi_fb, zi_bf, lget, lst, lst2, lc2, Option.map_some, zso, if_true, if_false, zc1, and_true, true_and, and_self, List.length_nil, List.length_cons, Nat.zero_le, reduceIte, reduceCtorEq, false_and, and_false, Bool.false_eq_true, zca_some, zr0, zr100, Option.bind_some, zb_none, zb_some, zrc, or_true, true_or, eq_self, ne_eq, not_true_eq_false, not_false_eq_true, zrt_i, zrt_zb, zrt_b, zrt_c, zrt_l, zrt_f, zrt_r, zrt_n, zrt_v, zft_0, zft_1, zft_zb, zft_3, zft_4, zft_5, zft_7r, zft_7n, iI_t, zb_i, zb_0, zb_1, Nat.reduceAdd, Nat.reduceLeDiff, Nat.reduceEqDiff, Nat.reduceSub, Int.reduceNeg, iI_add, iI_sub, iI_mul, iI_neg, iI_n, zbz, zchar_id, zin, zwr_s, zwr_a, zwr_i, if_pos, if_neg, Int.toNat_natCast, Int.natCast_zero, Int.reduceToNat, z76, zc3, h37, zgX]
  · obtain ⟨X1, D1, e91, p1, la, l36, y, d32, d6⟩ := lay p
    have h37 : D 3 7 = 1 := by rw [hl.1]; exact a1
    have ce1 : cEq D D1 := fun a i q => d32 a i (by omega)
    have hl1 := p1.2.2.1.2
    have f1 : D1 32 31 = 1 := by rw [ce1 32 31 (by omega)]; exact a1
    obtain ⟨lg, m1, m2, m3⟩ : ∃ lg, mLg D1 lg ∧ D1 10 3 = lg.length ∧ tRp 10 D1 lg := by
      rcases hl1.2 with ⟨b1, -⟩ | ⟨-, b⟩
      · omega
      · exact b
    have hO := p1.1.1
    obtain ⟨s1, s2, s3, -⟩ := lyF_ok hO
    have h7 := hO.1.1
    have e40 := c40 (h := zU h X1) la.1 s1 s2 la.2.1 (fun x hx => by rcases s3 x hx with v | v <;> omega) m2 m1.1 m1.2.1 m3 m1.2.2.2.2
    have b := apS_b (sp := (lyF D1).2.1) (lg := lg) 3600
    refine ⟨X1, D1, ⟨p1, d32⟩, Or.inl ⟨apS (lyF D1).2.1 lg 3600, by omega, a1, ?_⟩⟩
    rw [zc]
    clear p p1 la hl hl1 l1 l3 m1 m3 hO s1 s3 b
    generalize apS (lyF D1).2.1 lg 3600 = v at *
    simp (disch := first | omega | (simp (disch := omega) only [zwr_s, zwr_a, zwr_i, zn_put, zn_new, zn_fil, zn_chg, zV_n]; omega)) only [zentry, zs0, zs1, zs2, zs3, zg_lo, zg_st, zg_st2, zg_ald, zg_ast, zs_ia, zs_i0, zcs, zg_ii, zi_max, zi_min, zi_abi, zi_abf, zi_fb, zi_bf, lget, lst, lst2, lc2, Option.map_some, zso, if_true, if_false, zc1, and_true, true_and, and_self, List.length_nil, List.length_cons, Nat.zero_le, reduceIte, reduceCtorEq, false_and, and_false, Bool.false_eq_true, zca_some, zr0, zr100, Option.bind_some, zb_none, zb_some, zrc, or_true, true_or, eq_self, ne_eq, not_true_eq_false, not_false_eq_true, zrt_i, zrt_zb, zrt_b, zrt_c, zrt_l, zrt_f, zrt_r, zrt_n, zrt_v, zft_0, zft_1, zft_zb, zft_3, zft_4, zft_5, zft_7r, zft_7n, iI_t, zb_i, zb_0, zb_1, Nat.reduceAdd, Nat.reduceLeDiff, Nat.reduceEqDiff, Nat.reduceSub, Int.reduceNeg, iI_add, iI_sub, iI_mul, iI_neg, iI_n, zbz, zchar_id, zin, zwr_s, zwr_a, zwr_i, if_pos, if_neg, Int.toNat_natCast, Int.natCast_zero, Int.reduceToNat, z76, zc3, zc6, zc10, h37, e91, e40, zt1, zt2]

/-! the law's isSound(o, w): the events, the mean -/
section WRP
variable {L : Nat} {xs : Nat → Int32} {c : Nat} {G : zD}
theorem qSs_off {e : Nat} (h : qAi G (e : Int) ≠ 0) : qSs G (e : Int) 0 = 1 ∨ qSs G (e : Int) 0 = 2 := by
  unfold qSs
  split
  · first | exact Or.inr rfl | (rw [if_neg h]; exact Or.inr rfl)
  · exact Or.inl rfl
set_option maxRecDepth 20000 in
set_option maxRecDepth 20000 in
theorem so_A {w sl bf se : Int} {e n : Nat} {x7 x8 x9 x10 : Option Value} {H : zH} (he : (e : Int) < G 32 15) (h15 : G 32 15 ≤ 12) (ha : (lyF G).2.2.1 e = 1 ∨ plR e (lyF G).2.1 = -1) (p : St L xs c n G H) : ∃ (y7 y8 y9 y10 : Option Value) (H1 : zH), zx 241 145 (so3 w sl bf se (e : Int) x7 x8 x9 x10) [] H = zx 241 145 (so3 w sl bf se ((e : Int) + 1) y7 y8 y9 y10) [] H1 ∧ St L xs c (n + 5) G H1 := by
  have qe : qEv G (e : Int) = 0 := if_pos ⟨by omega, by omega⟩
  have qa : qAi G (e : Int) = 2 := by
    unfold qAi
    rw [if_pos ⟨by omega, by omega⟩, Int.toNat_natCast, if_pos ha]
  have qf : rFate G e = 114 ∨ rFate G e = 120 := by
    unfold rFate
    by_cases g : (lyF G).2.2.1 e = 1
    · exact Or.inl (if_pos g)
    · rw [if_neg g, if_pos (by rcases ha with q | q; exact absurd q g; exact q)]
      exact Or.inr rfl
  have qs : wv (qSs G (e : Int) 0) (qSsV G (e : Int) 0) = -1001 ∨ wv (qSs G (e : Int) 0) (qSsV G (e : Int) 0) = -1002 := by
    rcases qSs_off (G := G) (e := e) (by omega) with q | q
    · exact Or.inl (wv1 q)
    · exact Or.inr (wv2 q)
  obtain ⟨-, H1, e1, p1⟩ := p.x51
  obtain ⟨H2, e2, p2⟩ := w228 (x := (e : Int)) p1 ⟨by omega, by omega⟩
  obtain ⟨H3, e3, p3⟩ := w229a (x := (e : Int)) p2 ⟨by omega, by omega⟩
  obtain ⟨H4, e4, p4⟩ := w229b (x := (e : Int)) p3 ⟨by omega, by omega⟩
  obtain ⟨H5, e5, p5⟩ := w229c (x := (e : Int)) (i := 0) p4 ⟨by omega, by omega⟩ (by omega)
  rw [if_pos qe, Int.toNat_natCast] at e2
  rw [wv2 qa] at e3 e4
  have k0 := p.k3
  generalize wv (qSs G (e : Int) 0) (qSsV G (e : Int) 0) = sh at *
  generalize rFate G e = f at *
  refine ⟨some (.int (Int32.ofInt f)), some (.int (Int32.ofInt (-1002))), some (.int (Int32.ofInt (-1002))), some (.int (Int32.ofInt sh)), H5, ?_, p5⟩
  clear p p1 p2 p3 p4 p5 ha qe qa
  generalize G 32 15 = N at *
  rcases qf with rfl | rfl
  · rw [z241_145]
    simp (disch := first | omega | (simp (disch := omega) only [zwr_s, zwr_a, zwr_i, zn_put, zn_new, zn_fil, zn_chg, zV_n]; omega)) only [zentry, zs0, zs1, zs2, zs3, zg_lo, zg_st, zg_st2, zg_ald, zg_ast, zs_ia, zs_i0, zg_ii, zi_max, zi_min, zi_abi, zi_abf, zi_fb, zi_bf, lget, lst, lst2, lc2, Option.map_some, zso, if_true, if_false, zc1, and_true, true_and, and_self, List.length_nil, List.length_cons, Nat.zero_le, reduceIte, reduceCtorEq, false_and, and_false, Bool.false_eq_true, zca_some, zr0, zr100, Option.bind_some, zb_none, zb_some, zrc, or_true, true_or, eq_self, ne_eq, not_true_eq_false, not_false_eq_true, zrt_i, zrt_zb, zrt_b, zrt_c, zrt_l, zrt_f, zrt_r, zrt_n, zrt_v, zft_0, zft_1, zft_zb, zft_3, zft_4, zft_5, zft_7r, zft_7n, iI_t, zb_i, zb_0, zb_1, Nat.reduceAdd, Nat.reduceLeDiff, Nat.reduceEqDiff, Nat.reduceSub, Int.reduceNeg, iI_add, iI_sub, iI_mul, iI_neg, zbz, zchar_id, zin, zwr_s, zwr_a, zwr_i, if_pos, if_neg, Int.toNat_natCast, Int.natCast_zero, Int.reduceToNat, z241_b0, z241_b1, z241_b2, z241_b3, zt1, zt2, zt3, k0, e1, e2, e3, e4, e5]
  · rw [z241_145]
    simp (disch := first | omega | (simp (disch := omega) only [zwr_s, zwr_a, zwr_i, zn_put, zn_new, zn_fil, zn_chg, zV_n]; omega)) only [zentry, zs0, zs1, zs2, zs3, zg_lo, zg_st, zg_st2, zg_ald, zg_ast, zs_ia, zs_i0, zg_ii, zi_max, zi_min, zi_abi, zi_abf, zi_fb, zi_bf, lget, lst, lst2, lc2, Option.map_some, zso, if_true, if_false, zc1, and_true, true_and, and_self, List.length_nil, List.length_cons, Nat.zero_le, reduceIte, reduceCtorEq, false_and, and_false, Bool.false_eq_true, zca_some, zr0, zr100, Option.bind_some, zb_none, zb_some, zrc, or_true, true_or, eq_self, ne_eq, not_true_eq_false, not_false_eq_true, zrt_i, zrt_zb, zrt_b, zrt_c, zrt_l, zrt_f, zrt_r, zrt_n, zrt_v, zft_0, zft_1, zft_zb, zft_3, zft_4, zft_5, zft_7r, zft_7n, iI_t, zb_i, zb_0, zb_1, Nat.reduceAdd, Nat.reduceLeDiff, Nat.reduceEqDiff, Nat.reduceSub, Int.reduceNeg, iI_add, iI_sub, iI_mul, iI_neg, zbz, zchar_id, zin, zwr_s, zwr_a, zwr_i, if_pos, if_neg, Int.toNat_natCast, Int.natCast_zero, Int.reduceToNat, z241_b0, z241_b1, z241_b2, z241_b3, zt1, zt2, zt3, k0, e1, e2, e3, e4, e5]
set_option maxRecDepth 20000 in
set_option maxRecDepth 20000 in
theorem so_B {w sl bf se : Int} {e n : Nat} {x7 x8 x9 x10 : Option Value} {H : zH} (he : (e : Int) < G 32 15) (h15 : G 32 15 ≤ 12) (hb1 : (lyF G).2.2.1 e ≠ 1) (hb2 : plR e (lyF G).2.1 ≠ -1) (hbf : 0 ≤ bf ∧ bf ≤ rSt G e) (hse : 0 ≤ se ∧ se ≤ 3600) (p : St L xs c n G H) : ∃ (y7 y8 y9 y10 : Option Value) (H1 : zH), zx 241 145 (so3 w sl bf se (e : Int) x7 x8 x9 x10) [] H = zx 241 145 (so3 w sl (rEn G e) (se + (rEn G e - rSt G e)) ((e : Int) + 1) y7 y8 y9 y10) [] H1 ∧ St L xs c (n + 10) G H1 := by
  have hO := p.ok.1
  have hH := p.ok.2.1
  have hr := plR_r (n := e) (sp := (lyF G).2.1)
  have h0 : 0 ≤ plR e (lyF G).2.1 := by omega
  have qe : qEv G (e : Int) = 0 := if_pos ⟨by omega, by omega⟩
  have qa : qAi G (e : Int) = 0 := by
    unfold qAi
    rw [if_pos ⟨by omega, by omega⟩, Int.toNat_natCast, if_neg (by omega)]
  have qf : ¬ rFate G e = 114 ∧ ¬ rFate G e = 120 := by
    unfold rFate
    rw [if_neg hb1, if_neg hb2]
    refine ⟨?_, ?_⟩ <;> (repeat' split) <;> omega
  have fb := rFate_b (D := G) (n := e)
  have b := rSE_b hO h0
  have cl := ev_clip hO h0
  have a1 := rAir_ev hO h0 (s := rSt G e) (Int.le_refl _) (by omega)
  have a2 := rAir_ev hO h0 (s := rEn G e - 1) (by omega) (by omega)
  have c12 : G 40 e < 12 := by
    have := (hO.2.1.2.1 e he).1.2
    have := hO.1.1.2
    omega
  obtain ⟨-, H1, e1, p1⟩ := p.x51
  obtain ⟨H2, e2, p2⟩ := w228 (x := (e : Int)) p1 ⟨by omega, by omega⟩
  obtain ⟨H3, e3, p3⟩ := w229a (x := (e : Int)) p2 ⟨by omega, by omega⟩
  obtain ⟨H4, e4, p4⟩ := w229b (x := (e : Int)) p3 ⟨by omega, by omega⟩
  obtain ⟨H5, e5, p5⟩ := w231_0 (x := rSt G e) p4 ⟨by omega, by omega⟩
  obtain ⟨H6, e6, p6⟩ := w225c (x := (e : Int)) p5 ⟨by omega, by omega⟩
  obtain ⟨H7, e7, p7⟩ := w231_1 (x := rEn G e - 1) p6 ⟨by omega, by omega⟩
  obtain ⟨H8, e8, p8⟩ := w225c (x := (e : Int)) p7 ⟨by omega, by omega⟩
  obtain ⟨H9, e9, p9⟩ := w229c (x := (e : Int)) (i := 0) p8 ⟨by omega, by omega⟩ (by omega)
  have s1 : qSec (rSt G e) = 0 := if_pos ⟨by omega, by omega⟩
  have s2 : qSec (rEn G e - 1) = 0 := if_pos ⟨by omega, by omega⟩
  rw [if_pos qe, Int.toNat_natCast] at e2
  rw [wv0 qa, if_pos qa, Int.toNat_natCast] at e3 e4
  rw [wv0 s1, if_pos s1, a1] at e5
  rw [wv0 s2, if_pos s2, a2] at e7
  rw [wv0 qe, Int.toNat_natCast] at e6 e8
  have k0 := p.k3
  by_cases gs : qSs G (e : Int) 0 = 0
  · have hsh : (0 < G 57 e) ∧ rSt G e ≤ qSsV G (e : Int) 0 ∧ qSsV G (e : Int) 0 < rEn G e ∧ shC G (qSsV G (e : Int) 0) e 0 := by
      have g0 : (0 ≤ (e : Int) ∧ (e : Int) ≤ G 32 15 - 1) ∧ ((0 : Int) ≤ 0 ∧ (0 : Int) ≤ G 57 (e : Int).toNat - 1) := by
        by_cases g : (0 ≤ (e : Int) ∧ (e : Int) ≤ G 32 15 - 1) ∧ ((0 : Int) ≤ 0 ∧ (0 : Int) ≤ G 57 (e : Int).toNat - 1)
        · exact g
        · unfold qSs at gs
          rw [if_neg g] at gs
          omega
      have g1 : shL G e 0 (rSt G e) (rEn G e) < shH G e 0 (rSt G e) (rEn G e) := by
        by_cases g : shL G e 0 (rSt G e) (rEn G e) < shH G e 0 (rSt G e) (rEn G e)
        · exact g
        · unfold qSs at gs
          rw [if_pos g0, if_pos qa, Int.toNat_natCast, show (0 : Int).toNat = 0 from rfl, if_neg g] at gs
          omega
      have ev : qSsV G (e : Int) 0 = shL G e 0 (rSt G e) (rEn G e) := by
        unfold qSsV
        rw [if_pos gs, Int.toNat_natCast]
        rfl
      rw [ev]
      have l1 : rSt G e ≤ shL G e 0 (rSt G e) (rEn G e) := Int.le_max_left _ _
      have l2 : shH G e 0 (rSt G e) (rEn G e) ≤ rEn G e := Int.min_le_left _ _
      have g57 := g0.2.2
      rw [Int.toNat_natCast] at g57
      exact ⟨by omega, l1, by omega, hb1, hb2, Int.le_refl _, g1⟩
    obtain ⟨h57, l1, l2, hC⟩ := hsh
    have one := shE_1 hO hH hC h57 (G 32 15).toNat (by omega) (by omega)
    have b36 := shE_b (s := qSsV G (e : Int) 0) hH (G 32 15).toNat (by omega)
    rw [wv0 gs] at e9
    obtain ⟨H10, e10, p10⟩ := w231_2 (x := qSsV G (e : Int) 0) p9 ⟨by omega, by omega⟩
    have s3 : qSec (qSsV G (e : Int) 0) = 0 := if_pos ⟨by omega, by omega⟩
    rw [wv0 s3, if_pos s3] at e10
    generalize shE G (qSsV G (e : Int) 0) (G 32 15).toNat = shn at *
    have shb : 1 ≤ shn ∧ shn ≤ 100 := by omega
    refine ⟨some (.int (Int32.ofInt (rFate G e))), some (.int (Int32.ofInt (rSt G e))), some (.int (Int32.ofInt (rEn G e))), some (.int (Int32.ofInt (qSsV G (e : Int) 0))), H10, ?_, p10⟩
    clear p p1 p2 p3 p4 p5 p6 p7 p8 p9 p10 hO hH hC qe qa s1 s2 s3 gs hr h0 hb1 hb2 a1 a2 b36 one h57
    generalize qSsV G (e : Int) 0 = sh at *
    generalize rFate G e = f at *
    generalize rSt G e = st at *
    generalize rEn G e = en at *
    generalize G 40 e = cl at *
    generalize G 32 15 = N at *
    obtain ⟨qf1, qf2⟩ := qf
    rw [z241_145]
    simp (disch := first | omega | (simp (disch := omega) only [zwr_s, zwr_a, zwr_i, zn_put, zn_new, zn_fil, zn_chg, zV_n]; omega)) only [zentry, zs0, zs1, zs2, zs3, zg_lo, zg_st, zg_st2, zg_ald, zg_ast, zs_ia, zs_i0, zg_ii, zi_max, zi_min, zi_abi, zi_abf, zi_fb, zi_bf, lget, lst, lst2, lc2, Option.map_some, zso, if_true, if_false, zc1, and_true, true_and, and_self, List.length_nil, List.length_cons, Nat.zero_le, reduceIte, reduceCtorEq, false_and, and_false, Bool.false_eq_true, zca_some, zr0, zr100, Option.bind_some, zb_none, zb_some, zrc, or_true, true_or, eq_self, ne_eq, not_true_eq_false, not_false_eq_true, zrt_i, zrt_zb, zrt_b, zrt_c, zrt_l, zrt_f, zrt_r, zrt_n, zrt_v, zft_0, zft_1, zft_zb, zft_3, zft_4, zft_5, zft_7r, zft_7n, iI_t, zb_i, zb_0, zb_1, Nat.reduceAdd, Nat.reduceLeDiff, Nat.reduceEqDiff, Nat.reduceSub, Int.reduceNeg, iI_add, iI_sub, iI_mul, iI_neg, zbz, zchar_id, zin, zwr_s, zwr_a, zwr_i, if_pos, if_neg, Int.toNat_natCast, Int.natCast_zero, Int.reduceToNat, z241_b0, z241_b1, z241_b2, z241_b3, zt1, zt2, zt3, zt4, k0, e1, e2, e3, e4, e5, e6, e7, e8, e9, e10]
  · have qs : wv (qSs G (e : Int) 0) (qSsV G (e : Int) 0) ≤ -1001 ∧ -1002 ≤ wv (qSs G (e : Int) 0) (qSsV G (e : Int) 0) := by
      have : qSs G (e : Int) 0 = 1 ∨ qSs G (e : Int) 0 = 2 := by
        unfold qSs at gs ⊢
        repeat' split
        all_goals omega
      rcases this with q | q
      · rw [wv1 q]
        omega
      · rw [wv2 q]
        omega
    refine ⟨some (.int (Int32.ofInt (rFate G e))), some (.int (Int32.ofInt (rSt G e))), some (.int (Int32.ofInt (rEn G e))), some (.int (Int32.ofInt (wv (qSs G (e : Int) 0) (qSsV G (e : Int) 0)))), H9, ?_, p9.le (by omega)⟩
    clear p p1 p2 p3 p4 p5 p6 p7 p8 p9 hO hH qe qa s1 s2 gs hr h0 hb1 hb2 a1 a2
    generalize wv (qSs G (e : Int) 0) (qSsV G (e : Int) 0) = sh at *
    generalize rFate G e = f at *
    generalize rSt G e = st at *
    generalize rEn G e = en at *
    generalize G 40 e = cl at *
    generalize G 32 15 = N at *
    obtain ⟨qf1, qf2⟩ := qf
    rw [z241_145]
    simp (disch := first | omega | (simp (disch := omega) only [zwr_s, zwr_a, zwr_i, zn_put, zn_new, zn_fil, zn_chg, zV_n]; omega)) only [zentry, zs0, zs1, zs2, zs3, zg_lo, zg_st, zg_st2, zg_ald, zg_ast, zs_ia, zs_i0, zg_ii, zi_max, zi_min, zi_abi, zi_abf, zi_fb, zi_bf, lget, lst, lst2, lc2, Option.map_some, zso, if_true, if_false, zc1, and_true, true_and, and_self, List.length_nil, List.length_cons, Nat.zero_le, reduceIte, reduceCtorEq, false_and, and_false, Bool.false_eq_true, zca_some, zr0, zr100, Option.bind_some, zb_none, zb_some, zrc, or_true, true_or, eq_self, ne_eq, not_true_eq_false, not_false_eq_true, zrt_i, zrt_zb, zrt_b, zrt_c, zrt_l, zrt_f, zrt_r, zrt_n, zrt_v, zft_0, zft_1, zft_zb, zft_3, zft_4, zft_5, zft_7r, zft_7n, iI_t, zb_i, zb_0, zb_1, Nat.reduceAdd, Nat.reduceLeDiff, Nat.reduceEqDiff, Nat.reduceSub, Int.reduceNeg, iI_add, iI_sub, iI_mul, iI_neg, zbz, zchar_id, zin, zwr_s, zwr_a, zwr_i, if_pos, if_neg, Int.toNat_natCast, Int.natCast_zero, Int.reduceToNat, z241_b0, z241_b1, z241_b2, z241_b3, zt1, zt2, zt3, zt4, k0, e1, e2, e3, e4, e5, e6, e7, e8, e9]
/-- events in a row: what is behind them, the seconds that they and the slate before have -/
theorem so_3l {w sl : Int} : ∀ (m e k n : Nat) (bf se : Int) (x7 x8 x9 x10 : Option Value) (H : zH), (e : Int) + m = G 32 15 → k ≤ (lyF G).2.1.length → bf = lnS (lyF G).2.1 k → 0 ≤ se → se + slS (lyF G).2.1 k ≤ bf → (∀ e' : Nat, e ≤ e' → plR e' (lyF G).2.1 = -1 ∨ (k : Int) ≤ plR e' (lyF G).2.1) → St L xs c n G H → ∃ (bf1 se1 : Int) (y7 y8 y9 y10 : Option Value) (H1 : zH), zx 241 145 (so3 w sl bf se (e : Int) x7 x8 x9 x10) [] H = zx 241 145 (so3 w sl bf1 se1 (G 32 15) y7 y8 y9 y10) [] H1 ∧ (0 ≤ se1 ∧ se1 + slS (lyF G).2.1 (lyF G).2.1.length ≤ 3600) ∧ St L xs c (n + 10 * m) G H1
  | 0, e, k, n, bf, se, x7, x8, x9, x10, H, he, hk, hbf, h0, h1, h2, p => by
    refine ⟨bf, se, x7, x8, x9, x10, H, by rw [← he]; rfl, ⟨h0, ?_⟩, p⟩
    have hc := (lyF_ok p.ok.1).1
    have t := lnS_t hc
    have d := (lnS_le hc ((lyF G).2.1.length - k) k (by omega)).2
    rw [show k + ((lyF G).2.1.length - k) = (lyF G).2.1.length by omega] at d
    omega
  | m + 1, e, k, n, bf, se, x7, x8, x9, x10, H, he, hk, hbf, h0, h1, h2, p => by
    have b15 := p.G7.2.1
    have hO := p.ok.1
    have hc := (lyF_ok hO).1
    have kb := lnS_m hc ((lyF G).2.1.length - k) k (by omega)
    have sb := slS_b hc k hk
    by_cases ha : (lyF G).2.2.1 e = 1 ∨ plR e (lyF G).2.1 = -1
    · obtain ⟨y7, y8, y9, y10, H1, e1, p1⟩ := so_A (w := w) (sl := sl) (bf := bf) (se := se) (x7 := x7) (x8 := x8) (x9 := x9) (x10 := x10) (e := e) (by omega) b15.2 ha p
      obtain ⟨bf1, se1, z7, z8, z9, z10, H2, e2, hs, p2⟩ := so_3l m (e + 1) k _ bf se y7 y8 y9 y10 H1 (by omega) hk hbf h0 h1 (fun e' q => h2 e' (by omega)) p1
      exact ⟨bf1, se1, z7, z8, z9, z10, H2, e1.trans e2, hs, p2.le (by omega)⟩
    · have hr := plR_r (n := e) (sp := (lyF G).2.1)
      have ha2 : plR e (lyF G).2.1 ≠ -1 := fun q => ha (Or.inr q)
      have hp : 0 ≤ plR e (lyF G).2.1 := by omega
      have hj := plR_m hp
      have kj : (k : Int) ≤ plR e (lyF G).2.1 := by
        rcases h2 e (Nat.le_refl _) with q | q
        · exact absurd q ha2
        · exact q
      obtain ⟨s1, s2, s3⟩ := lnS_s hc _ hj
      have c1 := ev_clip hO hp
      have eSt : rSt G e = lnS (lyF G).2.1 (plR e (lyF G).2.1).toNat := s1
      have eEn : rEn G e = lnS (lyF G).2.1 ((plR e (lyF G).2.1).toNat + 1) := s2
      have d := lnS_le hc ((plR e (lyF G).2.1).toNat - k) k (by omega)
      rw [show k + ((plR e (lyF G).2.1).toNat - k) = (plR e (lyF G).2.1).toNat by omega] at d
      have es : slS (lyF G).2.1 ((plR e (lyF G).2.1).toNat + 1) = slS (lyF G).2.1 (plR e (lyF G).2.1).toNat := by
        rw [slS, if_neg (by omega), Int.add_zero]
      obtain ⟨y7, y8, y9, y10, H1, e1, p1⟩ := so_B (w := w) (sl := sl) (bf := bf) (se := se) (x7 := x7) (x8 := x8) (x9 := x9) (x10 := x10) (e := e) (by omega) b15.2 (fun q => ha (Or.inl q)) ha2 (by omega) (by omega) p
      obtain ⟨bf1, se1, z7, z8, z9, z10, H2, e2, hs, p2⟩ := so_3l m (e + 1) ((plR e (lyF G).2.1).toNat + 1) _ (rEn G e) (se + (rEn G e - rSt G e)) y7 y8 y9 y10 H1 (by omega) (by omega) eEn (by omega) (by omega) (fun e' q => by
        have r2 := plR_r (n := e') (sp := (lyF G).2.1)
        by_cases g : plR e' (lyF G).2.1 = -1
        · exact Or.inl g
        · have := plR_lt (show e < e' by omega) (lyF_ok hO).2.2.2.1 hp (by omega)
          exact Or.inr (by omega)) p1
      exact ⟨bf1, se1, z7, z8, z9, z10, H2, e1.trans e2, hs, p2.le (by omega)⟩
end WRP

/-! calls: class and reference side by side -/
theorem qEv_c {D D' : zD} {p : Int} (q : cEq D D') : qEv D' p = qEv D p := by
  unfold qEv
  rw [q 32 15 (by omega)]
theorem qAi_c {D D' : zD} {p : Int} (q : cEq D D') : qAi D' p = qAi D p := by
  unfold qAi
  rw [q 32 15 (by omega), lyF_cc q]
theorem rSt_c {D D' : zD} {p : Nat} (q : cEq D D') : rSt D' p = rSt D p := by
  unfold rSt
  rw [lyF_cc q]
theorem rEn_c {D D' : zD} {p : Nat} (q : cEq D D') : rEn D' p = rEn D p := by
  unfold rEn
  rw [lyF_cc q]
theorem rFate_c {D D' : zD} {p : Nat} (q : cEq D D') : rFate D' p = rFate D p := by
  unfold rFate
  rw [lyF_cc q]
theorem qSp_c {D D' : zD} {p : Int} (q : cEq D D') : qSp D' p = qSp D p := by
  unfold qSp
  rw [lyF_cc q]
theorem rAir_c {D D' : zD} {p : Int} (q : cEq D D') : rAir D' p = rAir D p := by
  unfold rAir
  rw [lyF_cc q]
theorem mPlT_c {D D' : zD} {p : Int} (q : cEq D D') : mPlT D' p = mPlT D p := by
  unfold mPlT
  rw [q 32 7 (by omega), q 38 _ (by omega)]
theorem mEnT_c {D D' : zD} {p : Int} (q : cEq D D') : mEnT D' p = mEnT D p := by
  unfold mEnT
  rw [q 32 30 (by omega)]
theorem mAiT_c {D D' : zD} {p : Int} (q : cEq D D') : mAiT D' p = mAiT D p := by
  unfold mAiT
  rw [q 32 7 (by omega)]
theorem mAft_w {D : zD} {τ : Int} (hn : FP.Core.fIsNaN (mLst D) = false) : mAft D (zwr D 32 32 τ) τ := ⟨zwr_32, zwr_s, zwr_32n hn⟩
/-- the script stays -/
def SC (h h' : zH) : Prop := zk h' 0 = zk h 0 ∧ zl h' 0 = zl h 0 ∧ zm h' 0 = zm h 0
theorem SC.rf {h : zH} : SC h h := ⟨rfl, rfl, rfl⟩
theorem SC.sh {h h' : zH} {c s : Nat} (hn : 70 ≤ zn h) (p : shX h h' c s) : SC h h' := p.2.2.2 0 (by omega)
theorem SC.tr {h h1 h2 : zH} (a : SC h h1) (b : SC h1 h2) : SC h h2 := ⟨b.1.trans a.1, b.2.1.trans a.2.1, b.2.2.trans a.2.2⟩
/-- the reference's cells stay -/
def gs (D D' : zD) : Prop := ∀ a i, 32 ≤ a → D' a i = D a i
theorem gs.rf {D : zD} : gs D D := fun _ _ _ => rfl
theorem gs.ce {D D' : zD} (q : gs D D') : cEq D D' := fun a i w => q a i (by omega)
theorem gs.tr {D D' D2 : zD} (q : gs D D') (r : gs D' D2) : gs D D2 := fun a i w => (r a i w).trans (q a i w)
abbrev InvG (c : Nat) (h : zH) (D X1 D1 : zD) : Prop := Inv c h X1 D1 ∧ gs D D1
/-! .. without a layout -/
set_option maxRecDepth 20000 in
theorem c44 {x : Int} {c : Nat} {h : zH} {X D : zD} (p : Inv c h X D) (hr : iR x) :
    cV (zc 44 2 [.ref 3, .int (Int32.ofInt x)] (zV (zU h X) D)) (mPlT D x) (D 35 x.toNat) h X D ∨ cE (zc 44 2 [.ref 3, .int (Int32.ofInt x)] (zV (zU h X) D)) (mPlT D x) 1 2 h X D ∨ cE (zc 44 2 [.ref 3, .int (Int32.ofInt x)] (zV (zU h X) D)) (mPlT D x) 2 3 h X D := by
  rcases c86 p hr with ⟨e0, e⟩ | ⟨e0, e⟩ | ⟨e0, e⟩
  · refine Or.inl ⟨e0, ?_⟩
    have hx : 0 ≤ x ∧ x ≤ D 32 7 - 1 := by
      unfold mPlT at e0
      by_cases g : 0 ≤ x ∧ x ≤ D 32 7 - 1
      · exact g
      · rw [if_neg g] at e0
        omega
    obtain ⟨k1, k2, k3⟩ := p.2.1.1.K (e := x.toNat) (by omega)
    have q6 := (p.2.1.1.2 x.toNat (by omega)).2.2.2.2.2.2.1
    rw [zc]
    clear p
    generalize lsE X 4 x.toNat = a at *
    simp (disch := first | omega | (simp (disch := omega) only [zwr_s, zwr_a, zwr_i, zn_put, zn_new, zn_fil, zn_chg, zV_n]; omega)) only [zentry, zs0, zs1, zs2, zs3, zg_lo, zg_st, zg_st2, zg_ald, zg_ast, zs_ia, zs_i0, zcs, zg_ii, zi_max, zi_min, zi_abi, zi_abf, zi_fb, zi_bf, lget, lst, lst2, lc2, Option.map_some, zso, if_true, if_false, zc1, and_true, true_and, and_self, List.length_nil, List.length_cons, Nat.zero_le, reduceIte, reduceCtorEq, false_and, and_false, Bool.false_eq_true, zca_some, zr0, zr100, Option.bind_some, zb_none, zb_some, zrc, or_true, true_or, eq_self, ne_eq, not_true_eq_false, not_false_eq_true, zrt_i, zrt_zb, zrt_b, zrt_c, zrt_l, zrt_f, zrt_r, zrt_n, zrt_v, zft_0, zft_1, zft_zb, zft_3, zft_4, zft_5, zft_7r, zft_7n, iI_t, zb_i, zb_0, zb_1, Nat.reduceAdd, Nat.reduceLeDiff, Nat.reduceEqDiff, Nat.reduceSub, Int.reduceNeg, iI_add, iI_sub, iI_mul, iI_neg, iI_n, zbz, zchar_id, zin, zwr_s, zwr_a, zwr_i, if_pos, if_neg, Int.toNat_natCast, Int.natCast_zero, Int.reduceToNat, z44, zc3, zuC k1 k3, e, q6, zt2]
  · refine Or.inr (Or.inl ⟨e0, ?_⟩)
    rw [zc]
    clear p
    simp (disch := first | omega | (simp (disch := omega) only [zwr_s, zwr_a, zwr_i, zn_put, zn_new, zn_fil, zn_chg, zV_n]; omega)) only [zentry, zs0, zs1, zs2, zs3, zg_lo, zg_st, zg_st2, zg_ald, zg_ast, zs_ia, zs_i0, zcs, zg_ii, zi_max, zi_min, zi_abi, zi_abf, zi_fb, zi_bf, lget, lst, lst2, lc2, Option.map_some, zso, if_true, if_false, zc1, and_true, true_and, and_self, List.length_nil, List.length_cons, Nat.zero_le, reduceIte, reduceCtorEq, false_and, and_false, Bool.false_eq_true, zca_some, zr0, zr100, Option.bind_some, zb_none, zb_some, zrc, or_true, true_or, eq_self, ne_eq, not_true_eq_false, not_false_eq_true, zrt_i, zrt_zb, zrt_b, zrt_c, zrt_l, zrt_f, zrt_r, zrt_n, zrt_v, zft_0, zft_1, zft_zb, zft_3, zft_4, zft_5, zft_7r, zft_7n, iI_t, zb_i, zb_0, zb_1, Nat.reduceAdd, Nat.reduceLeDiff, Nat.reduceEqDiff, Nat.reduceSub, Int.reduceNeg, iI_add, iI_sub, iI_mul, iI_neg, iI_n, zbz, zchar_id, zin, zwr_s, zwr_a, zwr_i, if_pos, if_neg, Int.toNat_natCast, Int.natCast_zero, Int.reduceToNat, z44, zc3, e, zb_x, zt2]
  · refine Or.inr (Or.inr ⟨e0, ?_⟩)
    rw [zc]
    clear p
    simp (disch := first | omega | (simp (disch := omega) only [zwr_s, zwr_a, zwr_i, zn_put, zn_new, zn_fil, zn_chg, zV_n]; omega)) only [zentry, zs0, zs1, zs2, zs3, zg_lo, zg_st, zg_st2, zg_ald, zg_ast, zs_ia, zs_i0, zcs, zg_ii, zi_max, zi_min, zi_abi, zi_abf, zi_fb, zi_bf, lget, lst, lst2, lc2, Option.map_some, zso, if_true, if_false, zc1, and_true, true_and, and_self, List.length_nil, List.length_cons, Nat.zero_le, reduceIte, reduceCtorEq, false_and, and_false, Bool.false_eq_true, zca_some, zr0, zr100, Option.bind_some, zb_none, zb_some, zrc, or_true, true_or, eq_self, ne_eq, not_true_eq_false, not_false_eq_true, zrt_i, zrt_zb, zrt_b, zrt_c, zrt_l, zrt_f, zrt_r, zrt_n, zrt_v, zft_0, zft_1, zft_zb, zft_3, zft_4, zft_5, zft_7r, zft_7n, iI_t, zb_i, zb_0, zb_1, Nat.reduceAdd, Nat.reduceLeDiff, Nat.reduceEqDiff, Nat.reduceSub, Int.reduceNeg, iI_add, iI_sub, iI_mul, iI_neg, iI_n, zbz, zchar_id, zin, zwr_s, zwr_a, zwr_i, if_pos, if_neg, Int.toNat_natCast, Int.natCast_zero, Int.reduceToNat, z44, zc3, e, zb_x, zt2]
set_option maxRecDepth 20000 in
theorem c52 {x : Int} {c : Nat} {h : zH} {X D : zD} (p : Inv c h X D) (hr : iR x) :
    cV (zc 52 2 [.ref 3, .int (Int32.ofInt x)] (zV (zU h X) D)) (qEv D x) (D 40 x.toNat) h X D ∨ cE (zc 52 2 [.ref 3, .int (Int32.ofInt x)] (zV (zU h X) D)) (qEv D x) 1 2 h X D := by
  rcases c87 p hr with ⟨e0, e⟩ | ⟨e0, e⟩
  · refine Or.inl ⟨e0, ?_⟩
    have hx : 0 ≤ x ∧ x ≤ D 32 15 - 1 := by
      unfold qEv at e0
      by_cases g : 0 ≤ x ∧ x ≤ D 32 15 - 1
      · exact g
      · rw [if_neg g] at e0
        omega
    obtain ⟨k1, k2, k3⟩ := p.2.1.2.1.K (e := x.toNat) (by omega)
    have x0 := (p.2.1.2.1.2.2 x.toNat (by omega)).1
    have v := p.vE x.toNat (by omega)
    obtain ⟨d1, d2, d3⟩ := p.2.1.1.K (e := (D 40 x.toNat).toNat) (by omega)
    have y0 : X (lsE X 4 (D 40 x.toNat).toNat) 0 = D 40 x.toNat := by
      have := (p.2.1.1.2 (D 40 x.toNat).toNat (by omega)).1
      omega
    rw [zc]
    clear p
    generalize lsE X 4 (D 40 x.toNat).toNat = cc at *
    generalize lsE X 5 x.toNat = a at *
    simp (disch := first | omega | (simp (disch := omega) only [zwr_s, zwr_a, zwr_i, zn_put, zn_new, zn_fil, zn_chg, zV_n]; omega)) only [zentry, zs0, zs1, zs2, zs3, zg_lo, zg_st, zg_st2, zg_ald, zg_ast, zs_ia, zs_i0, zcs, zg_ii, zi_max, zi_min, zi_abi, zi_abf, zi_fb, zi_bf, lget, lst, lst2, lc2, Option.map_some, zso, if_true, if_false, zc1, and_true, true_and, and_self, List.length_nil, List.length_cons, Nat.zero_le, reduceIte, reduceCtorEq, false_and, and_false, Bool.false_eq_true, zca_some, zr0, zr100, Option.bind_some, zb_none, zb_some, zrc, or_true, true_or, eq_self, ne_eq, not_true_eq_false, not_false_eq_true, zrt_i, zrt_zb, zrt_b, zrt_c, zrt_l, zrt_f, zrt_r, zrt_n, zrt_v, zft_0, zft_1, zft_zb, zft_3, zft_4, zft_5, zft_7r, zft_7n, iI_t, zb_i, zb_0, zb_1, Nat.reduceAdd, Nat.reduceLeDiff, Nat.reduceEqDiff, Nat.reduceSub, Int.reduceNeg, iI_add, iI_sub, iI_mul, iI_neg, iI_n, zbz, zchar_id, zin, zwr_s, zwr_a, zwr_i, if_pos, if_neg, Int.toNat_natCast, Int.natCast_zero, Int.reduceToNat, z52, zc3, zuE k1 k3, zuC d1 d3, e, x0, y0, zt2]
  · refine Or.inr ⟨e0, ?_⟩
    rw [zc]
    clear p
    simp (disch := first | omega | (simp (disch := omega) only [zwr_s, zwr_a, zwr_i, zn_put, zn_new, zn_fil, zn_chg, zV_n]; omega)) only [zentry, zs0, zs1, zs2, zs3, zg_lo, zg_st, zg_st2, zg_ald, zg_ast, zs_ia, zs_i0, zcs, zg_ii, zi_max, zi_min, zi_abi, zi_abf, zi_fb, zi_bf, lget, lst, lst2, lc2, Option.map_some, zso, if_true, if_false, zc1, and_true, true_and, and_self, List.length_nil, List.length_cons, Nat.zero_le, reduceIte, reduceCtorEq, false_and, and_false, Bool.false_eq_true, zca_some, zr0, zr100, Option.bind_some, zb_none, zb_some, zrc, or_true, true_or, eq_self, ne_eq, not_true_eq_false, not_false_eq_true, zrt_i, zrt_zb, zrt_b, zrt_c, zrt_l, zrt_f, zrt_r, zrt_n, zrt_v, zft_0, zft_1, zft_zb, zft_3, zft_4, zft_5, zft_7r, zft_7n, iI_t, zb_i, zb_0, zb_1, Nat.reduceAdd, Nat.reduceLeDiff, Nat.reduceEqDiff, Nat.reduceSub, Int.reduceNeg, iI_add, iI_sub, iI_mul, iI_neg, iI_n, zbz, zchar_id, zin, zwr_s, zwr_a, zwr_i, if_pos, if_neg, Int.toNat_natCast, Int.natCast_zero, Int.reduceToNat, z52, zc3, e, zb_x, zt2]
set_option maxRecDepth 20000 in
theorem c77 {x : Int} {c : Nat} {h : zH} {X D : zD} (p : Inv c h X D) (hr : iR x) :
    (mAiT D x = 0 ∧ zc 77 2 [.ref 3, .int (Int32.ofInt x)] (zV (zU h X) D) = some (.inl (some (.long (Int64.ofInt (D 39 x.toNat)))), zV (zU h X) D)) ∨ cE (zc 77 2 [.ref 3, .int (Int32.ofInt x)] (zV (zU h X) D)) (mAiT D x) 1 2 h X D := by
  have hO := p.2.1.1
  have h0 := hO.1.1
  have h7 := p.1.1.1.1
  unfold mAiT
  by_cases g : 0 ≤ x ∧ x ≤ D 32 7 - 1
  · have e80 := c80_t (x := x) (X := X) (D := D) h0.1 (by omega) (by omega)
    have e171 := c171 (D := D) (i := x) (Or.inl rfl) hO.1 (by omega)
    obtain ⟨k1, k2, k3⟩ := hO.K (e := x.toNat) (by omega)
    have q7 := (hO.2 x.toNat (by omega)).2.2.2.2.2.2.2
    rw [if_pos g]
    refine Or.inl ⟨rfl, ?_⟩
    rw [zc]
    clear p hO
    generalize lsE X 4 x.toNat = a at *
    simp (disch := first | omega | (simp (disch := omega) only [zwr_s, zwr_a, zwr_i, zn_put, zn_new, zn_fil, zn_chg, zV_n]; omega)) only [zentry, zs0, zs1, zs2, zs3, zg_lo, zg_st, zg_st2, zg_ald, zg_ast, zs_ia, zs_i0, zcs, zg_ii, zi_max, zi_min, zi_abi, zi_abf, zi_fb, zi_bf, lget, lst, lst2, lc2, Option.map_some, zso, if_true, if_false, zc1, and_true, true_and, and_self, List.length_nil, List.length_cons, Nat.zero_le, reduceIte, reduceCtorEq, false_and, and_false, Bool.false_eq_true, zca_some, zr0, zr100, Option.bind_some, zb_none, zb_some, zrc, or_true, true_or, eq_self, ne_eq, not_true_eq_false, not_false_eq_true, zrt_i, zrt_zb, zrt_b, zrt_c, zrt_l, zrt_f, zrt_r, zrt_n, zrt_v, zft_0, zft_1, zft_zb, zft_3, zft_4, zft_5, zft_7r, zft_7n, iI_t, zb_i, zb_0, zb_1, Nat.reduceAdd, Nat.reduceLeDiff, Nat.reduceEqDiff, Nat.reduceSub, Int.reduceNeg, iI_add, iI_sub, iI_mul, iI_neg, iI_n, zbz, zchar_id, zin, zwr_s, zwr_a, zwr_i, if_pos, if_neg, Int.toNat_natCast, Int.natCast_zero, Int.reduceToNat, z77, zc3, zuL (a := 4) (Or.inl rfl) h0.1, zuC k1 k3, e80, e171, q7, zt2]
  · have e80 := c80_f (x := x) (X := X) (D := D) h0.1 (by omega) hr (by omega)
    rw [if_neg g]
    refine Or.inr ⟨rfl, ?_⟩
    rw [zc]
    clear p hO
    simp (disch := first | omega | (simp (disch := omega) only [zwr_s, zwr_a, zwr_i, zn_put, zn_new, zn_fil, zn_chg, zV_n]; omega)) only [zentry, zs0, zs1, zs2, zs3, zg_lo, zg_st, zg_st2, zg_ald, zg_ast, zs_ia, zs_i0, zcs, zg_ii, zi_max, zi_min, zi_abi, zi_abf, zi_fb, zi_bf, lget, lst, lst2, lc2, Option.map_some, zso, if_true, if_false, zc1, and_true, true_and, and_self, List.length_nil, List.length_cons, Nat.zero_le, reduceIte, reduceCtorEq, false_and, and_false, Bool.false_eq_true, zca_some, zr0, zr100, Option.bind_some, zb_none, zb_some, zrc, or_true, true_or, eq_self, ne_eq, not_true_eq_false, not_false_eq_true, zrt_i, zrt_zb, zrt_b, zrt_c, zrt_l, zrt_f, zrt_r, zrt_n, zrt_v, zft_0, zft_1, zft_zb, zft_3, zft_4, zft_5, zft_7r, zft_7n, iI_t, zb_i, zb_0, zb_1, Nat.reduceAdd, Nat.reduceLeDiff, Nat.reduceEqDiff, Nat.reduceSub, Int.reduceNeg, iI_add, iI_sub, iI_mul, iI_neg, iI_n, zbz, zchar_id, zin, zwr_s, zwr_a, zwr_i, if_pos, if_neg, Int.toNat_natCast, Int.natCast_zero, Int.reduceToNat, z77, zc3, e80, zb_x, zt2]
theorem lgL {D : zD} (hO : mOk D) (p : lgO D) : D 10 3 = D 32 30 ∧ (0 ≤ D 10 3 ∧ D 10 3 ≤ 116) ∧ ∀ k : Nat, (k : Int) < D 10 3 → D 11 k = D 66 k ∧ D 12 k = D 67 k ∧ (-1 ≤ D 66 k ∧ D 66 k < 12) ∧ (0 ≤ D 67 k ∧ D 67 k ≤ 3600) := by
  have h30 := hO.2.2.2.2.1
  rcases p.2 with ⟨a, b, d⟩ | ⟨a, lg, l, b, d⟩
  · exact ⟨by omega, by omega, fun k hk => by omega⟩
  · obtain ⟨l1, l2, l3, l4, l5⟩ := l
    refine ⟨by omega, by omega, fun k hk => ?_⟩
    obtain ⟨r1, r2, r3⟩ := tRp_K d k (by omega)
    obtain ⟨s1, s2⟩ := l4 k (by omega)
    have m := spK_mem (sp := lg) (k := k) (by omega)
    have := spC_b l1 _ m
    have := l5 _ m
    refine ⟨r1.trans s1.symm, r2.trans s2.symm, by omega, by omega⟩
set_option maxRecDepth 20000 in
theorem c74 {x : Int} {c : Nat} {h : zH} {X D : zD} (p : Inv c h X D) (hr : iR x) :
    cV (zc 74 2 [.ref 3, .int (Int32.ofInt x)] (zV (zU h X) D)) (mEnT D x) (if mEnT D x = 0 then D 66 x.toNat else 0) h X D ∨ cE (zc 74 2 [.ref 3, .int (Int32.ofInt x)] (zV (zU h X) D)) (mEnT D x) 1 2 h X D := by
  obtain ⟨g1, g2, g3⟩ := lgL p.1.1 p.2.2.1.2
  have e34 := c34_10 (i := x) (h := zU h X) (D := D) hr g2
  unfold mEnT
  by_cases g : 0 ≤ x ∧ x ≤ D 32 30 - 1
  · have e83 := c83_t (x := x) (h := zU h X) (D := D) g2.2 (by omega)
    rw [if_pos g, if_pos rfl]
    refine Or.inl ⟨rfl, ?_⟩
    have g4 := (g3 x.toNat (by omega)).1
    rw [if_pos (by omega), g4] at e34
    rw [zc]
    clear p g3
    simp (disch := first | omega | (simp (disch := omega) only [zwr_s, zwr_a, zwr_i, zn_put, zn_new, zn_fil, zn_chg, zV_n]; omega)) only [zentry, zs0, zs1, zs2, zs3, zg_lo, zg_st, zg_st2, zg_ald, zg_ast, zs_ia, zs_i0, zcs, zg_ii, zi_max, zi_min, zi_abi, zi_abf, zi_fb, zi_bf, lget, lst, lst2, lc2, Option.map_some, zso, if_true, if_false, zc1, and_true, true_and, and_self, List.length_nil, List.length_cons, Nat.zero_le, reduceIte, reduceCtorEq, false_and, and_false, Bool.false_eq_true, zca_some, zr0, zr100, Option.bind_some, zb_none, zb_some, zrc, or_true, true_or, eq_self, ne_eq, not_true_eq_false, not_false_eq_true, zrt_i, zrt_zb, zrt_b, zrt_c, zrt_l, zrt_f, zrt_r, zrt_n, zrt_v, zft_0, zft_1, zft_zb, zft_3, zft_4, zft_5, zft_7r, zft_7n, iI_t, zb_i, zb_0, zb_1, Nat.reduceAdd, Nat.reduceLeDiff, Nat.reduceEqDiff, Nat.reduceSub, Int.reduceNeg, iI_add, iI_sub, iI_mul, iI_neg, iI_n, zbz, zchar_id, zin, zwr_s, zwr_a, zwr_i, if_pos, if_neg, Int.toNat_natCast, Int.natCast_zero, Int.reduceToNat, z74, zc3, zc10, e83, e34, zt2]
  · have e83 := c83_f (x := x) (X := X) (h := h) (D := D) g2 hr (by omega)
    rw [if_neg g]
    refine Or.inr ⟨rfl, ?_⟩
    rw [zc]
    clear p g3
    simp (disch := first | omega | (simp (disch := omega) only [zwr_s, zwr_a, zwr_i, zn_put, zn_new, zn_fil, zn_chg, zV_n]; omega)) only [zentry, zs0, zs1, zs2, zs3, zg_lo, zg_st, zg_st2, zg_ald, zg_ast, zs_ia, zs_i0, zcs, zg_ii, zi_max, zi_min, zi_abi, zi_abf, zi_fb, zi_bf, lget, lst, lst2, lc2, Option.map_some, zso, if_true, if_false, zc1, and_true, true_and, and_self, List.length_nil, List.length_cons, Nat.zero_le, reduceIte, reduceCtorEq, false_and, and_false, Bool.false_eq_true, zca_some, zr0, zr100, Option.bind_some, zb_none, zb_some, zrc, or_true, true_or, eq_self, ne_eq, not_true_eq_false, not_false_eq_true, zrt_i, zrt_zb, zrt_b, zrt_c, zrt_l, zrt_f, zrt_r, zrt_n, zrt_v, zft_0, zft_1, zft_zb, zft_3, zft_4, zft_5, zft_7r, zft_7n, iI_t, zb_i, zb_0, zb_1, Nat.reduceAdd, Nat.reduceLeDiff, Nat.reduceEqDiff, Nat.reduceSub, Int.reduceNeg, iI_add, iI_sub, iI_mul, iI_neg, iI_n, zbz, zchar_id, zin, zwr_s, zwr_a, zwr_i, if_pos, if_neg, Int.toNat_natCast, Int.natCast_zero, Int.reduceToNat, z74, zc3, zc10, e83, zb_x, zt2]
set_option maxRecDepth 20000 in
theorem c75 {x : Int} {c : Nat} {h : zH} {X D : zD} (p : Inv c h X D) (hr : iR x) :
    cV (zc 75 2 [.ref 3, .int (Int32.ofInt x)] (zV (zU h X) D)) (mEnT D x) (if mEnT D x = 0 then D 67 x.toNat else 0) h X D ∨ cE (zc 75 2 [.ref 3, .int (Int32.ofInt x)] (zV (zU h X) D)) (mEnT D x) 1 2 h X D := by
  obtain ⟨g1, g2, g3⟩ := lgL p.1.1 p.2.2.1.2
  have e34 := c35_10 (i := x) (h := zU h X) (D := D) hr g2
  unfold mEnT
  by_cases g : 0 ≤ x ∧ x ≤ D 32 30 - 1
  · have e83 := c83_t (x := x) (h := zU h X) (D := D) g2.2 (by omega)
    rw [if_pos g, if_pos rfl]
    refine Or.inl ⟨rfl, ?_⟩
    have g4 := (g3 x.toNat (by omega)).2.1
    rw [if_pos (by omega), g4] at e34
    rw [zc]
    clear p g3
    simp (disch := first | omega | (simp (disch := omega) only [zwr_s, zwr_a, zwr_i, zn_put, zn_new, zn_fil, zn_chg, zV_n]; omega)) only [zentry, zs0, zs1, zs2, zs3, zg_lo, zg_st, zg_st2, zg_ald, zg_ast, zs_ia, zs_i0, zcs, zg_ii, zi_max, zi_min, zi_abi, zi_abf, zi_fb, zi_bf, lget, lst, lst2, lc2, Option.map_some, zso, if_true, if_false, zc1, and_true, true_and, and_self, List.length_nil, List.length_cons, Nat.zero_le, reduceIte, reduceCtorEq, false_and, and_false, Bool.false_eq_true, zca_some, zr0, zr100, Option.bind_some, zb_none, zb_some, zrc, or_true, true_or, eq_self, ne_eq, not_true_eq_false, not_false_eq_true, zrt_i, zrt_zb, zrt_b, zrt_c, zrt_l, zrt_f, zrt_r, zrt_n, zrt_v, zft_0, zft_1, zft_zb, zft_3, zft_4, zft_5, zft_7r, zft_7n, iI_t, zb_i, zb_0, zb_1, Nat.reduceAdd, Nat.reduceLeDiff, Nat.reduceEqDiff, Nat.reduceSub, Int.reduceNeg, iI_add, iI_sub, iI_mul, iI_neg, iI_n, zbz, zchar_id, zin, zwr_s, zwr_a, zwr_i, if_pos, if_neg, Int.toNat_natCast, Int.natCast_zero, Int.reduceToNat, z75, zc3, zc10, e83, e34, zt2]
  · have e83 := c83_f (x := x) (X := X) (h := h) (D := D) g2 hr (by omega)
    rw [if_neg g]
    refine Or.inr ⟨rfl, ?_⟩
    rw [zc]
    clear p g3
    simp (disch := first | omega | (simp (disch := omega) only [zwr_s, zwr_a, zwr_i, zn_put, zn_new, zn_fil, zn_chg, zV_n]; omega)) only [zentry, zs0, zs1, zs2, zs3, zg_lo, zg_st, zg_st2, zg_ald, zg_ast, zs_ia, zs_i0, zcs, zg_ii, zi_max, zi_min, zi_abi, zi_abf, zi_fb, zi_bf, lget, lst, lst2, lc2, Option.map_some, zso, if_true, if_false, zc1, and_true, true_and, and_self, List.length_nil, List.length_cons, Nat.zero_le, reduceIte, reduceCtorEq, false_and, and_false, Bool.false_eq_true, zca_some, zr0, zr100, Option.bind_some, zb_none, zb_some, zrc, or_true, true_or, eq_self, ne_eq, not_true_eq_false, not_false_eq_true, zrt_i, zrt_zb, zrt_b, zrt_c, zrt_l, zrt_f, zrt_r, zrt_n, zrt_v, zft_0, zft_1, zft_zb, zft_3, zft_4, zft_5, zft_7r, zft_7n, iI_t, zb_i, zb_0, zb_1, Nat.reduceAdd, Nat.reduceLeDiff, Nat.reduceEqDiff, Nat.reduceSub, Int.reduceNeg, iI_add, iI_sub, iI_mul, iI_neg, iI_n, zbz, zchar_id, zin, zwr_s, zwr_a, zwr_i, if_pos, if_neg, Int.toNat_natCast, Int.natCast_zero, Int.reduceToNat, z75, zc3, zc10, e83, zb_x, zt2]
set_option maxRecDepth 20000 in
theorem k51 {c : Nat} {h : zH} {X D : zD} (p : Inv c h X D) : zc 51 1 [.ref 3] (zV (zU h X) D) = some (.inl (some (.int (Int32.ofInt (D 32 15)))), zV (zU h X) D) := by
  have h0 := p.2.1.2.1.1.1
  have e := c175 (h := h) (X := X) (D := D) (a := 5) (by omega) h0.1
  rw [h0.2.1] at e
  rw [zc]
  clear p
  simp (disch := first | omega | (simp (disch := omega) only [zwr_s, zwr_a, zwr_i, zn_put, zn_new, zn_fil, zn_chg, zV_n]; omega)) only [zentry, zs0, zs1, zs2, zs3, zg_lo, zg_st, zg_st2, zg_ald, zg_ast, zs_ia, zs_i0, zcs, zg_ii, zi_max, zi_min, zi_abi, zi_abf, zi_fb, zi_bf, lget, lst, lst2, lc2, Option.map_some, zso, if_true, if_false, zc1, and_true, true_and, and_self, List.length_nil, List.length_cons, Nat.zero_le, reduceIte, reduceCtorEq, false_and, and_false, Bool.false_eq_true, zca_some, zr0, zr100, Option.bind_some, zb_none, zb_some, zrc, or_true, true_or, eq_self, ne_eq, not_true_eq_false, not_false_eq_true, zrt_i, zrt_zb, zrt_b, zrt_c, zrt_l, zrt_f, zrt_r, zrt_n, zrt_v, zft_0, zft_1, zft_zb, zft_3, zft_4, zft_5, zft_7r, zft_7n, iI_t, zb_i, zb_0, zb_1, Nat.reduceAdd, Nat.reduceLeDiff, Nat.reduceEqDiff, Nat.reduceSub, Int.reduceNeg, iI_add, iI_sub, iI_mul, iI_neg, iI_n, zbz, zchar_id, zin, zwr_s, zwr_a, zwr_i, if_pos, if_neg, Int.toNat_natCast, Int.natCast_zero, Int.reduceToNat, z51, zc3, zuL (a := 5) (Or.inr (Or.inl rfl)) h0.1, e, zt1]
set_option maxRecDepth 20000 in
theorem k72 {c : Nat} {h : zH} {X D : zD} (p : Inv c h X D) : zc 72 1 [.ref 3] (zV (zU h X) D) = some (.inl (some (.int (Int32.ofInt (D 32 16)))), zV (zU h X) D) := by
  have h0 := p.2.2.1.1.1
  rw [zc]
  clear p
  simp (disch := first | omega | (simp (disch := omega) only [zwr_s, zwr_a, zwr_i, zn_put, zn_new, zn_fil, zn_chg, zV_n]; omega)) only [zentry, zs0, zs1, zs2, zs3, zg_lo, zg_st, zg_st2, zg_ald, zg_ast, zs_ia, zs_i0, zcs, zg_ii, zi_max, zi_min, zi_abi, zi_abf, zi_fb, zi_bf, lget, lst, lst2, lc2, Option.map_some, zso, if_true, if_false, zc1, and_true, true_and, and_self, List.length_nil, List.length_cons, Nat.zero_le, reduceIte, reduceCtorEq, false_and, and_false, Bool.false_eq_true, zca_some, zr0, zr100, Option.bind_some, zb_none, zb_some, zrc, or_true, true_or, eq_self, ne_eq, not_true_eq_false, not_false_eq_true, zrt_i, zrt_zb, zrt_b, zrt_c, zrt_l, zrt_f, zrt_r, zrt_n, zrt_v, zft_0, zft_1, zft_zb, zft_3, zft_4, zft_5, zft_7r, zft_7n, iI_t, zb_i, zb_0, zb_1, Nat.reduceAdd, Nat.reduceLeDiff, Nat.reduceEqDiff, Nat.reduceSub, Int.reduceNeg, iI_add, iI_sub, iI_mul, iI_neg, iI_n, zbz, zchar_id, zin, zwr_s, zwr_a, zwr_i, if_pos, if_neg, Int.toNat_natCast, Int.natCast_zero, Int.reduceToNat, z72, zc3, h0]
set_option maxRecDepth 20000 in
theorem k73 {c : Nat} {h : zH} {X D : zD} (p : Inv c h X D) : zc 73 1 [.ref 3] (zV (zU h X) D) = some (.inl (some (.int (Int32.ofInt (D 32 30)))), zV (zU h X) D) := by
  have h0 := (lgL p.1.1 p.2.2.1.2).1
  rw [zc]
  clear p
  simp (disch := first | omega | (simp (disch := omega) only [zwr_s, zwr_a, zwr_i, zn_put, zn_new, zn_fil, zn_chg, zV_n]; omega)) only [zentry, zs0, zs1, zs2, zs3, zg_lo, zg_st, zg_st2, zg_ald, zg_ast, zs_ia, zs_i0, zcs, zg_ii, zi_max, zi_min, zi_abi, zi_abf, zi_fb, zi_bf, lget, lst, lst2, lc2, Option.map_some, zso, if_true, if_false, zc1, and_true, true_and, and_self, List.length_nil, List.length_cons, Nat.zero_le, reduceIte, reduceCtorEq, false_and, and_false, Bool.false_eq_true, zca_some, zr0, zr100, Option.bind_some, zb_none, zb_some, zrc, or_true, true_or, eq_self, ne_eq, not_true_eq_false, not_false_eq_true, zrt_i, zrt_zb, zrt_b, zrt_c, zrt_l, zrt_f, zrt_r, zrt_n, zrt_v, zft_0, zft_1, zft_zb, zft_3, zft_4, zft_5, zft_7r, zft_7n, iI_t, zb_i, zb_0, zb_1, Nat.reduceAdd, Nat.reduceLeDiff, Nat.reduceEqDiff, Nat.reduceSub, Int.reduceNeg, iI_add, iI_sub, iI_mul, iI_neg, iI_n, zbz, zchar_id, zin, zwr_s, zwr_a, zwr_i, if_pos, if_neg, Int.toNat_natCast, Int.natCast_zero, Int.reduceToNat, z73, zc3, zc10, h0]

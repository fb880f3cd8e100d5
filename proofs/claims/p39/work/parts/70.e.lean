/-! choices for gaps: class and reference side by side -/
theorem fl_kd {v b : UInt32} (hb : FP.Core.fIsNaN b = false) (h : FP.Core.fkey v = FP.Core.fkey b) : FP.dcmp (FP.f2d v) (FP.f2d b) = some .eq := by
  unfold FP.Core.fkey at h
  have same : v.toNat = b.toNat → FP.dcmp (FP.f2d v) (FP.f2d b) = some .eq := fun e => by
    rw [UInt32.toNat_inj.mp e]
    exact (fl_d2 hb).2
  by_cases g1 : 2 ^ 31 ≤ v.toNat
  · by_cases g2 : 2 ^ 31 ≤ b.toNat
    · rw [if_pos g1, if_pos g2] at h
      exact same (by omega)
    · rw [if_pos g1, if_neg g2] at h
      have e1 : v.toNat = (0x80000000 : UInt32).toNat := by
        show v.toNat = 2147483648
        omega
      have e2 : b.toNat = (0 : UInt32).toNat := by
        show b.toNat = 0
        omega
      rw [UInt32.toNat_inj.mp e1, UInt32.toNat_inj.mp e2]
      decide +kernel
  · by_cases g2 : 2 ^ 31 ≤ b.toNat
    · rw [if_neg g1, if_pos g2] at h
      have e1 : b.toNat = (0x80000000 : UInt32).toNat := by
        show b.toNat = 2147483648
        omega
      have e2 : v.toNat = (0 : UInt32).toNat := by
        show v.toNat = 0
        omega
      rw [UInt32.toNat_inj.mp e1, UInt32.toNat_inj.mp e2]
      decide +kernel
    · rw [if_neg g1, if_neg g2] at h
      exact same (by omega)
/-- only the filler's sums differ -/
theorem Inv.fq {c : Nat} {h : zH} {X D D' : zD} (p : Inv c h X D) (q : fiQ D D') (f : fiO D') : Inv c h X D' := by
  obtain ⟨⟨p1, p2, p3, p4, p5⟩, ⟨c1, c2, c3⟩, ⟨d1, d2⟩, ⟨f1, f2, f3⟩, l, r⟩ := p
  have ce : cEq D D' := fun a i w => q a i (by omega) (by omega)
  have h15 := p1.2.1.1.2
  refine ⟨⟨ce.ok ?_ p1, ce.hg h15 p2, ce.m43 p3, ?_, fun i => by rw [ce 35 i (by omega), ce 38 i (by omega)]; exact p5 i⟩, ⟨c1.c ce, c2.c ce, c3.c ce h15⟩, ⟨?_, d2.c ce fun a i _ _ => q a i (by omega) (by omega)⟩, ⟨f, f2.c ce fun a i _ _ _ => q a i (by omega) (by omega), f3.c ce fun a i _ _ _ => q a i (by omega) (by omega)⟩, ?_, r⟩
  · unfold mLst
    rw [q 32 27 (by omega) (by omega)]
    exact p1.2.2.1
  · rw [ce 32 8 (by omega), ce 32 7 (by omega), ce.cn]; exact p4
  · exact d1.c ce (q 3 5 (by omega) (by omega))
  · rw [q 3 6 (by omega) (by omega)]
    exact l.imp id fun ⟨a, b⟩ => ⟨a, b.c ce fun a i _ _ => q a i (by omega) (by omega)⟩
/-- the best choice as the class has it -/
theorem mk_pop {D : zD} {gap lev : Int} (hO : mOk D) (hg : okGap gap lev) (h0 : bestM D gap lev ≠ 0) : popB 12 (mkB D gap lev) = popB 12 (bestM D gap lev) := by
  have hC := hO.1
  have h7 := hC.1
  have hlen := clsD_len h7
  have h8 := hO.2.1.2.2.2
  have hp1 : ∀ q ∈ clsD D, 1 ≤ q.2.1 := fun q hq => by
    obtain ⟨i, i1, i2, rfl⟩ := clsF_mem 0 _ q hq
    exact (hC.2.2 i (by omega)).1.1
  rcases bestM_B hC hg.1 hg.2 hO.2.2.1 with ⟨q, -⟩ | ⟨q1, -⟩
  · exact absurd q h0
  · have hm := mch_lt hC q1
    have s1 := sel_C (clsD D) _ hp1 q1.1
    have hl := selC_len (clsD D) (bestM D gap lev)
    have e12 : popB 12 (bestM D gap lev) = popB (clsD D).length (bestM D gap lev) := by
      have := popB_12e (clsD D).length (12 - (clsD D).length) _ hm.1
      rw [show (clsD D).length + (12 - (clsD D).length) = 12 by omega] at this
      exact this
    obtain ⟨i, m1, m2⟩ := mk_mul (b := selC (clsD D) (bestM D gap lev)) (n := (pcs (clsD D)).length) hl h8
    have e1 := fi_pop (n := (pcs (clsD D)).length) (i := i) (by omega) m2
    rw [← m1] at e1
    -- counted along the choice
    have key : ∀ (ps : List (Int × Int)) (i : Nat) (s k : Int) (b : List Bool), b ∈ selR (lns ps) s k → (∀ j, j < ps.length → (mkB D gap lev).testBit (7 - (i + j)) = b.getD j false) → cF (mkB D gap lev) i ps.length = k := by
      intro ps
      induction ps with
      | nil =>
        intro i s k b hb _
        have hb : b ∈ selR [] s k := hb
        unfold selR at hb
        split at hb
        · rename_i g
          exact g.2.symm
        · cases hb
      | cons q r ih =>
        intro i s k b hb ht
        have hb : b ∈ selR (q.1 :: lns r) s k := hb
        rw [selR] at hb
        rw [List.length_cons] at ht ⊢
        have t0 := ht 0 (by omega)
        rw [Nat.add_zero] at t0
        have next : ∀ c : List Bool, (∀ j, b.getD (j + 1) false = c.getD j false) → ∀ j, j < r.length → (mkB D gap lev).testBit (7 - ((i + 1) + j)) = c.getD j false := fun c hc j hj => by
          have := ht (j + 1) (by omega)
          rw [show i + (j + 1) = (i + 1) + j by omega, hc] at this
          exact this
        rcases List.mem_append.mp hb with hb | hb
        · split at hb
          · obtain ⟨c, hc, rfl⟩ := List.mem_map.mp hb
            have t1 := ih (i + 1) _ _ c hc (next c (fun j => rfl))
            have t0 : (mkB D gap lev).testBit (7 - i) = true := t0
            rw [cF, if_pos t0]
            omega
          · cases hb
        · obtain ⟨c, hc, rfl⟩ := List.mem_map.mp hb
          have t1 := ih (i + 1) _ _ c hc (next c (fun j => rfl))
          have t0 : (mkB D gap lev).testBit (7 - i) = false := t0
          rw [cF, if_neg (by simp [t0])]
          omega
    have e2 := key (pcs (clsD D)) 0 _ _ _ s1 (fun j hj => (mkB_b h8).2 j (by omega))
    have e1 : (popB 12 (mkB D gap lev) : Int) = cF (mkB D gap lev) 0 (pcs (clsD D)).length := e1
    rw [e12]
    omega
theorem mAsT_c {D D' : zD} {gap lev : Int} (q : cEq D D') : mAsT D' gap lev = mAsT D gap lev := by
  unfold mAsT
  rw [q.best]
theorem mAsT_0 {D : zD} {gap lev : Int} (h : mAsT D gap lev = 0) : okGap gap lev ∧ bestM D gap lev ≠ 0 := by
  unfold mAsT at h
  by_cases g : okGap gap lev
  · rw [if_pos g] at h
    refine ⟨g, fun w => ?_⟩
    rw [if_pos w] at h
    omega
  · rw [if_neg g] at h
    omega
set_option maxRecDepth 20000 in
theorem c89 {gap lev : Int} {c : Nat} {h : zH} {X D : zD} (p : Inv c h X D) (hg : iR gap) (hl : iR lev) : ∃ D1, Inv c h X D1 ∧ fiQ D D1 ∧
    ((mAsT D gap lev = 0 ∧ zc 89 4 [.ref 3, .int (Int32.ofInt gap), .int (Int32.ofInt lev)] (zV (zU h X) D) = some (.inl (some (.int (Int32.ofInt (mkB D gap lev : Nat)))), zV (zU h X) D1)) ∨
     (mAsT D gap lev = 1 ∧ zc 89 4 [.ref 3, .int (Int32.ofInt gap), .int (Int32.ofInt lev)] (zV (zU h X) D) = some (.inr 0, zV (zU (zchg h 1 6) X) D1)) ∨
     (mAsT D gap lev = 2 ∧ zc 89 4 [.ref 3, .int (Int32.ofInt gap), .int (Int32.ofInt lev)] (zV (zU h X) D) = some (.inr 4, zV (zU (zchg h 1 6) X) D1))) := by
  by_cases g : okGap gap lev
  · have hO := p.1.1
    obtain ⟨D1, e15, q1, q2, q3⟩ := c15 (h := zU h X) hO.1 hO.2.1.2.2.2 hO.2.2.1 p.2.2.2.1.1 g.1 g.2
    have e85 := c85_t (h := zV (zU h X) D) g
    have mb := (mkB_b (gap := gap) (lev := lev) hO.2.1.2.2.2).1
    refine ⟨D1, p.fq q1 q2, q1, ?_⟩
    unfold mAsT
    rw [if_pos g]
    by_cases g2 : bestM D gap lev = 0
    · rw [if_pos g2]
      refine Or.inr (Or.inr ⟨rfl, ?_⟩)
      rw [q3.mpr g2] at e15
      rw [zc]
      clear p hO q1 q2 q3 g g2 mb
      simp (disch := first | omega | (simp (disch := omega) only [zwr_s, zwr_a, zwr_i, zn_put, zn_new, zn_fil, zn_chg, zV_n]; omega)) only [zentry, zs0, zs1, zs2, zs3, zg_lo, zg_st, zg_st2, zg_ald, zg_ast, zs_ia, zs_i0, zcs, zg_ii, zi_max, zi_min, zi_abi, zi_abf, zi_fb, zi_bf, lget, lst, lst2, lc2, Option.map_some, zso, if_true, if_false, zc1, and_true, true_and, and_self, List.length_nil, List.length_cons, Nat.zero_le, reduceIte, reduceCtorEq, false_and, and_false, Bool.false_eq_true, zca_some, zr0, zr100, Option.bind_some, zb_none, zb_some, zrc, or_true, true_or, eq_self, ne_eq, not_true_eq_false, not_false_eq_true, zrt_i, zrt_zb, zrt_b, zrt_c, zrt_l, zrt_f, zrt_r, zrt_n, zrt_v, zft_0, zft_1, zft_zb, zft_3, zft_4, zft_5, zft_7r, zft_7n, iI_t, zb_i, zb_0, zb_1, Nat.reduceAdd, Nat.reduceLeDiff, Nat.reduceEqDiff, Nat.reduceSub, Int.reduceNeg, iI_add, iI_sub, iI_mul, iI_neg, iI_n, zbz, zchar_id, zin, zwr_s, zwr_a, zwr_i, if_pos, if_neg, Int.toNat_natCast, Int.natCast_zero, Int.reduceToNat, z89, zc3, zc14, e85, e15, zt2, zt3, zgX, Int.natCast_zero]
    · rw [if_neg g2]
      have m0 : mkB D gap lev ≠ 0 := fun w => g2 (q3.mp w)
      refine Or.inl ⟨rfl, ?_⟩
      rw [zc]
      clear p hO q1 q2 q3 g g2
      generalize mkB D gap lev = mk at *
      simp (disch := first | omega | (simp (disch := omega) only [zwr_s, zwr_a, zwr_i, zn_put, zn_new, zn_fil, zn_chg, zV_n]; omega)) only [zentry, zs0, zs1, zs2, zs3, zg_lo, zg_st, zg_st2, zg_ald, zg_ast, zs_ia, zs_i0, zcs, zg_ii, zi_max, zi_min, zi_abi, zi_abf, zi_fb, zi_bf, lget, lst, lst2, lc2, Option.map_some, zso, if_true, if_false, zc1, and_true, true_and, and_self, List.length_nil, List.length_cons, Nat.zero_le, reduceIte, reduceCtorEq, false_and, and_false, Bool.false_eq_true, zca_some, zr0, zr100, Option.bind_some, zb_none, zb_some, zrc, or_true, true_or, eq_self, ne_eq, not_true_eq_false, not_false_eq_true, zrt_i, zrt_zb, zrt_b, zrt_c, zrt_l, zrt_f, zrt_r, zrt_n, zrt_v, zft_0, zft_1, zft_zb, zft_3, zft_4, zft_5, zft_7r, zft_7n, iI_t, zb_i, zb_0, zb_1, Nat.reduceAdd, Nat.reduceLeDiff, Nat.reduceEqDiff, Nat.reduceSub, Int.reduceNeg, iI_add, iI_sub, iI_mul, iI_neg, iI_n, zbz, zchar_id, zin, zwr_s, zwr_a, zwr_i, if_pos, if_neg, Int.toNat_natCast, Int.natCast_zero, Int.reduceToNat, z89, zc3, zc14, e85, e15, zt2, zt3]
  · have e85 := c85_f (h := h) (X := X) (D := D) ⟨hg, hl⟩ g
    refine ⟨D, p, fun _ _ _ _ => rfl, ?_⟩
    unfold mAsT
    rw [if_neg g]
    refine Or.inr (Or.inl ⟨rfl, ?_⟩)
    rw [zc]
    clear p g
    simp (disch := first | omega | (simp (disch := omega) only [zwr_s, zwr_a, zwr_i, zn_put, zn_new, zn_fil, zn_chg, zV_n]; omega)) only [zentry, zs0, zs1, zs2, zs3, zg_lo, zg_st, zg_st2, zg_ald, zg_ast, zs_ia, zs_i0, zcs, zg_ii, zi_max, zi_min, zi_abi, zi_abf, zi_fb, zi_bf, lget, lst, lst2, lc2, Option.map_some, zso, if_true, if_false, zc1, and_true, true_and, and_self, List.length_nil, List.length_cons, Nat.zero_le, reduceIte, reduceCtorEq, false_and, and_false, Bool.false_eq_true, zca_some, zr0, zr100, Option.bind_some, zb_none, zb_some, zrc, or_true, true_or, eq_self, ne_eq, not_true_eq_false, not_false_eq_true, zrt_i, zrt_zb, zrt_b, zrt_c, zrt_l, zrt_f, zrt_r, zrt_n, zrt_v, zft_0, zft_1, zft_zb, zft_3, zft_4, zft_5, zft_7r, zft_7n, iI_t, zb_i, zb_0, zb_1, Nat.reduceAdd, Nat.reduceLeDiff, Nat.reduceEqDiff, Nat.reduceSub, Int.reduceNeg, iI_add, iI_sub, iI_mul, iI_neg, iI_n, zbz, zchar_id, zin, zwr_s, zwr_a, zwr_i, if_pos, if_neg, Int.toNat_natCast, Int.natCast_zero, Int.reduceToNat, z89, zc3, e85, zb_x, zt2]
theorem fiQ.ce {D D1 : zD} (q : fiQ D D1) : cEq D D1 := fun a i w => q a i (by omega) (by omega)
theorem mAs_a {D : zD} {gap lev : Int} (hO : mOk D) : mAft D (mAs D gap lev) (mAsT D gap lev) := by
  refine ⟨fun a i w1 w2 => mAs_o (by omega), by unfold mAs; rw [zwr_s], ?_⟩
  unfold mAs
  refine zwr_32n ?_
  by_cases g : okGap gap lev
  · rw [if_pos g]
    exact mFl_nn hO.1 g.1 hO.2.2.1
  · rw [if_neg g]
    exact hO.2.2.1
set_option maxRecDepth 20000 in
theorem k67 {gap lev : Int} {c : Nat} {h : zH} {X D : zD} (p : Inv c h X D) (hg : iR gap) (hl : iR lev) : ∃ D1, InvG c h D X D1 ∧ (cV (zc 67 3 [.ref 3, .int (Int32.ofInt gap), .int (Int32.ofInt lev)] (zV (zU h X) D)) (mAsT D gap lev) (if mAsT D gap lev = 0 then (popB 12 (bestM D gap lev) : Int) else 0) h X D1 ∨ cE (zc 67 3 [.ref 3, .int (Int32.ofInt gap), .int (Int32.ofInt lev)] (zV (zU h X) D)) (mAsT D gap lev) 1 0 h X D1 ∨ cE (zc 67 3 [.ref 3, .int (Int32.ofInt gap), .int (Int32.ofInt lev)] (zV (zU h X) D)) (mAsT D gap lev) 2 4 h X D1) := by
  obtain ⟨D1, p1, q1, hA⟩ := c89 p hg hl
  have ce1 := q1.ce
  have pb := popB_le 12 (bestM D gap lev)
  have mb := (mkB_b (gap := gap) (lev := lev) p.1.1.2.1.2.2.2).1
  have mv := mAsT_v (D := D) (gap := gap) (lev := lev)
  have bv : iR (if mAsT D gap lev = 0 then (popB 12 (bestM D gap lev) : Int) else 0) := by split <;> omega
  have hw : cV (zc 67 3 [.ref 3, .int (Int32.ofInt gap), .int (Int32.ofInt lev)] (zV (zU h X) D)) (mAsT D gap lev) (if mAsT D gap lev = 0 then (popB 12 (bestM D gap lev) : Int) else 0) h X D1 ∨ cE (zc 67 3 [.ref 3, .int (Int32.ofInt gap), .int (Int32.ofInt lev)] (zV (zU h X) D)) (mAsT D gap lev) 1 0 h X D1 ∨ cE (zc 67 3 [.ref 3, .int (Int32.ofInt gap), .int (Int32.ofInt lev)] (zV (zU h X) D)) (mAsT D gap lev) 2 4 h X D1 := by
    rcases hA with ⟨e0, e⟩ | ⟨e0, e⟩ | ⟨e0, e⟩
    · obtain ⟨g1, g2⟩ := mAsT_0 e0
      have e182 := m182 (m := mkB D gap lev) (h := zV (zU h X) D1) (by omega)
      rw [mk_pop p.1.1 g1 g2] at e182
      rw [if_pos e0]
      refine Or.inl ⟨e0, ?_⟩
      rw [zc]
      clear p p1 q1 ce1 g1 g2 bv mv e0
      generalize mkB D gap lev = mk at *
      generalize popB 12 (bestM D gap lev) = pb at *
      simp (disch := first | omega | (simp (disch := omega) only [zwr_s, zwr_a, zwr_i, zn_put, zn_new, zn_fil, zn_chg, zV_n]; omega)) only [zentry, zs0, zs1, zs2, zs3, zg_lo, zg_st, zg_st2, zg_ald, zg_ast, zs_ia, zs_i0, zcs, zg_ii, zi_max, zi_min, zi_abi, zi_abf, zi_fb, zi_bf, lget, lst, lst2, lc2, Option.map_some, zso, if_true, if_false, zc1, and_true, true_and, and_self, List.length_nil, List.length_cons, Nat.zero_le, reduceIte, reduceCtorEq, false_and, and_false, Bool.false_eq_true, zca_some, zr0, zr100, Option.bind_some, zb_none, zb_some, zrc, or_true, true_or, eq_self, ne_eq, not_true_eq_false, not_false_eq_true, zrt_i, zrt_zb, zrt_b, zrt_c, zrt_l, zrt_f, zrt_r, zrt_n, zrt_v, zft_0, zft_1, zft_zb, zft_3, zft_4, zft_5, zft_7r, zft_7n, iI_t, zb_i, zb_0, zb_1, Nat.reduceAdd, Nat.reduceLeDiff, Nat.reduceEqDiff, Nat.reduceSub, Int.reduceNeg, iI_add, iI_sub, iI_mul, iI_neg, iI_n, zbz, zchar_id, zin, zwr_s, zwr_a, zwr_i, if_pos, if_neg, Int.toNat_natCast, Int.natCast_zero, Int.reduceToNat, z67, zc3, e, e182, zt1, zt3]
    · refine Or.inr (Or.inl ⟨e0, ?_⟩)
      rw [zc]
      clear p p1 q1 ce1 bv mv e0 pb
      simp (disch := first | omega | (simp (disch := omega) only [zwr_s, zwr_a, zwr_i, zn_put, zn_new, zn_fil, zn_chg, zV_n]; omega)) only [zentry, zs0, zs1, zs2, zs3, zg_lo, zg_st, zg_st2, zg_ald, zg_ast, zs_ia, zs_i0, zcs, zg_ii, zi_max, zi_min, zi_abi, zi_abf, zi_fb, zi_bf, lget, lst, lst2, lc2, Option.map_some, zso, if_true, if_false, zc1, and_true, true_and, and_self, List.length_nil, List.length_cons, Nat.zero_le, reduceIte, reduceCtorEq, false_and, and_false, Bool.false_eq_true, zca_some, zr0, zr100, Option.bind_some, zb_none, zb_some, zrc, or_true, true_or, eq_self, ne_eq, not_true_eq_false, not_false_eq_true, zrt_i, zrt_zb, zrt_b, zrt_c, zrt_l, zrt_f, zrt_r, zrt_n, zrt_v, zft_0, zft_1, zft_zb, zft_3, zft_4, zft_5, zft_7r, zft_7n, iI_t, zb_i, zb_0, zb_1, Nat.reduceAdd, Nat.reduceLeDiff, Nat.reduceEqDiff, Nat.reduceSub, Int.reduceNeg, iI_add, iI_sub, iI_mul, iI_neg, iI_n, zbz, zchar_id, zin, zwr_s, zwr_a, zwr_i, if_pos, if_neg, Int.toNat_natCast, Int.natCast_zero, Int.reduceToNat, z67, zc3, e, zb_x, zt3]
    · refine Or.inr (Or.inr ⟨e0, ?_⟩)
      rw [zc]
      clear p p1 q1 ce1 bv mv e0 pb
      simp (disch := first | omega | (simp (disch := omega) only [zwr_s, zwr_a, zwr_i, zn_put, zn_new, zn_fil, zn_chg, zV_n]; omega)) only [zentry, zs0, zs1, zs2, zs3, zg_lo, zg_st, zg_st2, zg_ald, zg_ast, zs_ia, zs_i0, zcs, zg_ii, zi_max, zi_min, zi_abi, zi_abf, zi_fb, zi_bf, lget, lst, lst2, lc2, Option.map_some, zso, if_true, if_false, zc1, and_true, true_and, and_self, List.length_nil, List.length_cons, Nat.zero_le, reduceIte, reduceCtorEq, false_and, and_false, Bool.false_eq_true, zca_some, zr0, zr100, Option.bind_some, zb_none, zb_some, zrc, or_true, true_or, eq_self, ne_eq, not_true_eq_false, not_false_eq_true, zrt_i, zrt_zb, zrt_b, zrt_c, zrt_l, zrt_f, zrt_r, zrt_n, zrt_v, zft_0, zft_1, zft_zb, zft_3, zft_4, zft_5, zft_7r, zft_7n, iI_t, zb_i, zb_0, zb_1, Nat.reduceAdd, Nat.reduceLeDiff, Nat.reduceEqDiff, Nat.reduceSub, Int.reduceNeg, iI_add, iI_sub, iI_mul, iI_neg, iI_n, zbz, zchar_id, zin, zwr_s, zwr_a, zwr_i, if_pos, if_neg, Int.toNat_natCast, Int.natCast_zero, Int.reduceToNat, z67, zc3, e, zb_x, zt3]
  exact ⟨D1, ⟨p1, fun a i w => q1 a i (by omega) (by omega)⟩, hw⟩
theorem popB_z : ∀ (n m : Nat), m < 2 ^ n → popB n m = 0 → m = 0
  | 0, m, h, _ => by
    have : m < 1 := h
    omega
  | n + 1, m, h, h0 => by
    rw [popB] at h0
    rw [Nat.pow_succ] at h
    have := popB_z n (m / 2) (by omega) (by omega)
    omega
set_option maxRecDepth 20000 in
theorem k68 {gap lev : Int} {c : Nat} {h : zH} {X D : zD} (p : Inv c h X D) (hg : iR gap) (hl : iR lev) : (cV (zc 68 4 [.ref 3, .int (Int32.ofInt gap), .int (Int32.ofInt lev)] (zV (zU h X) D)) (mAsT D gap lev) (if mAsT D gap lev = 0 then (popB 12 (bestM D gap lev) : Int) else 0) h X D ∨ cE (zc 68 4 [.ref 3, .int (Int32.ofInt gap), .int (Int32.ofInt lev)] (zV (zU h X) D)) (mAsT D gap lev) 1 0 h X D ∨ cE (zc 68 4 [.ref 3, .int (Int32.ofInt gap), .int (Int32.ofInt lev)] (zV (zU h X) D)) (mAsT D gap lev) 2 4 h X D) := by
  have pb := popB_le 12 (bestM D gap lev)
  have mv := mAsT_v (D := D) (gap := gap) (lev := lev)
  have bv : iR (if mAsT D gap lev = 0 then (popB 12 (bestM D gap lev) : Int) else 0) := by split <;> omega
  have hO := p.1.1
  have hw : cV (zc 68 4 [.ref 3, .int (Int32.ofInt gap), .int (Int32.ofInt lev)] (zV (zU h X) D)) (mAsT D gap lev) (if mAsT D gap lev = 0 then (popB 12 (bestM D gap lev) : Int) else 0) h X D ∨ cE (zc 68 4 [.ref 3, .int (Int32.ofInt gap), .int (Int32.ofInt lev)] (zV (zU h X) D)) (mAsT D gap lev) 1 0 h X D ∨ cE (zc 68 4 [.ref 3, .int (Int32.ofInt gap), .int (Int32.ofInt lev)] (zV (zU h X) D)) (mAsT D gap lev) 2 4 h X D := by
    by_cases g : okGap gap lev
    · have e85 := c85_t (h := zV (zU h X) D) g
      obtain ⟨fB, fP, -⟩ := p.2.2.2.1.1
      have e23 := c23 (h := zU h X) fB g.1
      rw [tryF_few fB g.1, psF_l, fP] at e23
      unfold mAsT
      rw [if_pos g]
      rcases best_pop hO.1 g.1 g.2 hO.2.2.1 hO.2.1.2.2.2 with ⟨b1, b2⟩ | ⟨b1, b2, b3⟩
      · rw [if_pos b1, if_neg (show ¬ (2 : Int) = 0 by omega)]
        rw [if_pos b2] at e23
        refine Or.inr (Or.inr ⟨rfl, ?_⟩)
        rw [zc]
        clear p hO fB fP b1 b2 bv mv pb
        simp (disch := first | omega | (simp (disch := omega) only [zwr_s, zwr_a, zwr_i, zn_put, zn_new, zn_fil, zn_chg, zV_n]; omega)) only [zentry, zs0, zs1, zs2, zs3, zg_lo, zg_st, zg_st2, zg_ald, zg_ast, zs_ia, zs_i0, zcs, zg_ii, zi_max, zi_min, zi_abi, zi_abf, zi_fb, zi_bf, lget, lst, lst2, lc2, Option.map_some, zso, if_true, if_false, zc1, and_true, true_and, and_self, List.length_nil, List.length_cons, Nat.zero_le, reduceIte, reduceCtorEq, false_and, and_false, Bool.false_eq_true, zca_some, zr0, zr100, Option.bind_some, zb_none, zb_some, zrc, or_true, true_or, eq_self, ne_eq, not_true_eq_false, not_false_eq_true, zrt_i, zrt_zb, zrt_b, zrt_c, zrt_l, zrt_f, zrt_r, zrt_n, zrt_v, zft_0, zft_1, zft_zb, zft_3, zft_4, zft_5, zft_7r, zft_7n, iI_t, zb_i, zb_0, zb_1, Nat.reduceAdd, Nat.reduceLeDiff, Nat.reduceEqDiff, Nat.reduceSub, Int.reduceNeg, iI_add, iI_sub, iI_mul, iI_neg, iI_n, zbz, zchar_id, zin, zwr_s, zwr_a, zwr_i, if_pos, if_neg, Int.toNat_natCast, Int.natCast_zero, Int.reduceToNat, z68, zc3, zc14, e85, e23, zt2, zgX]
      · rw [if_neg b1, if_pos rfl]
        rw [if_neg (by omega), ← b3] at e23
        have b4 : popB 12 (bestM D gap lev) ≠ 0 := fun w => b1 (popB_z 12 _ (bestM_12 hO.1 (bestM_B hO.1 g.1 g.2 hO.2.2.1)) w)
        refine Or.inl ⟨rfl, ?_⟩
        rw [zc]
        clear p hO fB fP b1 b2 b3 bv mv
        generalize popB 12 (bestM D gap lev) = pb at *
        simp (disch := first | omega | (simp (disch := omega) only [zwr_s, zwr_a, zwr_i, zn_put, zn_new, zn_fil, zn_chg, zV_n]; omega)) only [zentry, zs0, zs1, zs2, zs3, zg_lo, zg_st, zg_st2, zg_ald, zg_ast, zs_ia, zs_i0, zcs, zg_ii, zi_max, zi_min, zi_abi, zi_abf, zi_fb, zi_bf, lget, lst, lst2, lc2, Option.map_some, zso, if_true, if_false, zc1, and_true, true_and, and_self, List.length_nil, List.length_cons, Nat.zero_le, reduceIte, reduceCtorEq, false_and, and_false, Bool.false_eq_true, zca_some, zr0, zr100, Option.bind_some, zb_none, zb_some, zrc, or_true, true_or, eq_self, ne_eq, not_true_eq_false, not_false_eq_true, zrt_i, zrt_zb, zrt_b, zrt_c, zrt_l, zrt_f, zrt_r, zrt_n, zrt_v, zft_0, zft_1, zft_zb, zft_3, zft_4, zft_5, zft_7r, zft_7n, iI_t, zb_i, zb_0, zb_1, Nat.reduceAdd, Nat.reduceLeDiff, Nat.reduceEqDiff, Nat.reduceSub, Int.reduceNeg, iI_add, iI_sub, iI_mul, iI_neg, iI_n, zbz, zchar_id, zin, zwr_s, zwr_a, zwr_i, if_pos, if_neg, Int.toNat_natCast, Int.natCast_zero, Int.reduceToNat, z68, zc3, zc14, e85, e23, zt2]
    · have e85 := c85_f (h := h) (X := X) (D := D) ⟨hg, hl⟩ g
      unfold mAsT
      rw [if_neg g]
      refine Or.inr (Or.inl ⟨rfl, ?_⟩)
      rw [zc]
      clear p hO g bv mv pb
      simp (disch := first | omega | (simp (disch := omega) only [zwr_s, zwr_a, zwr_i, zn_put, zn_new, zn_fil, zn_chg, zV_n]; omega)) only [zentry, zs0, zs1, zs2, zs3, zg_lo, zg_st, zg_st2, zg_ald, zg_ast, zs_ia, zs_i0, zcs, zg_ii, zi_max, zi_min, zi_abi, zi_abf, zi_fb, zi_bf, lget, lst, lst2, lc2, Option.map_some, zso, if_true, if_false, zc1, and_true, true_and, and_self, List.length_nil, List.length_cons, Nat.zero_le, reduceIte, reduceCtorEq, false_and, and_false, Bool.false_eq_true, zca_some, zr0, zr100, Option.bind_some, zb_none, zb_some, zrc, or_true, true_or, eq_self, ne_eq, not_true_eq_false, not_false_eq_true, zrt_i, zrt_zb, zrt_b, zrt_c, zrt_l, zrt_f, zrt_r, zrt_n, zrt_v, zft_0, zft_1, zft_zb, zft_3, zft_4, zft_5, zft_7r, zft_7n, iI_t, zb_i, zb_0, zb_1, Nat.reduceAdd, Nat.reduceLeDiff, Nat.reduceEqDiff, Nat.reduceSub, Int.reduceNeg, iI_add, iI_sub, iI_mul, iI_neg, iI_n, zbz, zchar_id, zin, zwr_s, zwr_a, zwr_i, if_pos, if_neg, Int.toNat_natCast, Int.natCast_zero, Int.reduceToNat, z68, zc3, e85, zb_x, zt2]
  exact hw
set_option maxRecDepth 20000 in
theorem k70 {gap lev : Int} {c : Nat} {h : zH} {X D : zD} (p : Inv c h X D) (hg : iR gap) (hl : iR lev) : ∃ D1, InvG c h D X D1 ∧ fiB D1 ∧ (cF' (zc 70 3 [.ref 3, .int (Int32.ofInt gap), .int (Int32.ofInt lev)] (zV (zU h X) D)) (mAsT D gap lev) (if mAsT D gap lev = 0 then fdv D1 (mkB D gap lev) gap lev else FP.fconst0) h X D1 ∨ cE (zc 70 3 [.ref 3, .int (Int32.ofInt gap), .int (Int32.ofInt lev)] (zV (zU h X) D)) (mAsT D gap lev) 1 0 h X D1 ∨ cE (zc 70 3 [.ref 3, .int (Int32.ofInt gap), .int (Int32.ofInt lev)] (zV (zU h X) D)) (mAsT D gap lev) 2 4 h X D1) := by
  obtain ⟨D1, p1, q1, hA⟩ := c89 p hg hl
  have ce1 := q1.ce
  have mb := (mkB_b (gap := gap) (lev := lev) p.1.1.2.1.2.2.2).1
  have mv := mAsT_v (D := D) (gap := gap) (lev := lev)
  have fB := p1.2.2.2.1.1.1
  have hv : FP.Core.fIsNaN (if mAsT D gap lev = 0 then fdv D1 (mkB D gap lev) gap lev else FP.fconst0) = false := by
    by_cases g : mAsT D gap lev = 0
    · rw [if_pos g]
      exact fdv_nn fB (mAsT_0 g).1.1
    · rw [if_neg g]
      exact fl_nn0
  have hw : cF' (zc 70 3 [.ref 3, .int (Int32.ofInt gap), .int (Int32.ofInt lev)] (zV (zU h X) D)) (mAsT D gap lev) (if mAsT D gap lev = 0 then fdv D1 (mkB D gap lev) gap lev else FP.fconst0) h X D1 ∨ cE (zc 70 3 [.ref 3, .int (Int32.ofInt gap), .int (Int32.ofInt lev)] (zV (zU h X) D)) (mAsT D gap lev) 1 0 h X D1 ∨ cE (zc 70 3 [.ref 3, .int (Int32.ofInt gap), .int (Int32.ofInt lev)] (zV (zU h X) D)) (mAsT D gap lev) 2 4 h X D1 := by
    rcases hA with ⟨e0, e⟩ | ⟨e0, e⟩ | ⟨e0, e⟩
    · obtain ⟨g1, g2⟩ := mAsT_0 e0
      have e14 := c14 (h := zU h X) fB mb g1.1 g1.2
      rw [if_pos e0]
      refine Or.inl ⟨e0, ?_⟩
      rw [zc]
      clear p p1 q1 ce1 g1 g2 mv e0 hv fB
      generalize fdv D1 (mkB D gap lev) gap lev = fd at *
      generalize mkB D gap lev = mk at *
      simp (disch := first | omega | (simp (disch := omega) only [zwr_s, zwr_a, zwr_i, zn_put, zn_new, zn_fil, zn_chg, zV_n]; omega)) only [zentry, zs0, zs1, zs2, zs3, zg_lo, zg_st, zg_st2, zg_ald, zg_ast, zs_ia, zs_i0, zcs, zg_ii, zi_max, zi_min, zi_abi, zi_abf, zi_fb, zi_bf, lget, lst, lst2, lc2, Option.map_some, zso, if_true, if_false, zc1, and_true, true_and, and_self, List.length_nil, List.length_cons, Nat.zero_le, reduceIte, reduceCtorEq, false_and, and_false, Bool.false_eq_true, zca_some, zr0, zr100, Option.bind_some, zb_none, zb_some, zrc, or_true, true_or, eq_self, ne_eq, not_true_eq_false, not_false_eq_true, zrt_i, zrt_zb, zrt_b, zrt_c, zrt_l, zrt_f, zrt_r, zrt_n, zrt_v, zft_0, zft_1, zft_zb, zft_3, zft_4, zft_5, zft_7r, zft_7n, iI_t, zb_i, zb_0, zb_1, Nat.reduceAdd, Nat.reduceLeDiff, Nat.reduceEqDiff, Nat.reduceSub, Int.reduceNeg, iI_add, iI_sub, iI_mul, iI_neg, iI_n, zbz, zchar_id, zin, zwr_s, zwr_a, zwr_i, if_pos, if_neg, Int.toNat_natCast, Int.natCast_zero, Int.reduceToNat, z70, zc3, zc14, e, e14, zt3, zt4]
    · refine Or.inr (Or.inl ⟨e0, ?_⟩)
      rw [zc]
      clear p p1 q1 ce1 mv e0 hv fB
      simp (disch := first | omega | (simp (disch := omega) only [zwr_s, zwr_a, zwr_i, zn_put, zn_new, zn_fil, zn_chg, zV_n]; omega)) only [zentry, zs0, zs1, zs2, zs3, zg_lo, zg_st, zg_st2, zg_ald, zg_ast, zs_ia, zs_i0, zcs, zg_ii, zi_max, zi_min, zi_abi, zi_abf, zi_fb, zi_bf, lget, lst, lst2, lc2, Option.map_some, zso, if_true, if_false, zc1, and_true, true_and, and_self, List.length_nil, List.length_cons, Nat.zero_le, reduceIte, reduceCtorEq, false_and, and_false, Bool.false_eq_true, zca_some, zr0, zr100, Option.bind_some, zb_none, zb_some, zrc, or_true, true_or, eq_self, ne_eq, not_true_eq_false, not_false_eq_true, zrt_i, zrt_zb, zrt_b, zrt_c, zrt_l, zrt_f, zrt_r, zrt_n, zrt_v, zft_0, zft_1, zft_zb, zft_3, zft_4, zft_5, zft_7r, zft_7n, iI_t, zb_i, zb_0, zb_1, Nat.reduceAdd, Nat.reduceLeDiff, Nat.reduceEqDiff, Nat.reduceSub, Int.reduceNeg, iI_add, iI_sub, iI_mul, iI_neg, iI_n, zbz, zchar_id, zin, zwr_s, zwr_a, zwr_i, if_pos, if_neg, Int.toNat_natCast, Int.natCast_zero, Int.reduceToNat, z70, zc3, zc14, e, zb_x, zt3]
    · refine Or.inr (Or.inr ⟨e0, ?_⟩)
      rw [zc]
      clear p p1 q1 ce1 mv e0 hv fB
      simp (disch := first | omega | (simp (disch := omega) only [zwr_s, zwr_a, zwr_i, zn_put, zn_new, zn_fil, zn_chg, zV_n]; omega)) only [zentry, zs0, zs1, zs2, zs3, zg_lo, zg_st, zg_st2, zg_ald, zg_ast, zs_ia, zs_i0, zcs, zg_ii, zi_max, zi_min, zi_abi, zi_abf, zi_fb, zi_bf, lget, lst, lst2, lc2, Option.map_some, zso, if_true, if_false, zc1, and_true, true_and, and_self, List.length_nil, List.length_cons, Nat.zero_le, reduceIte, reduceCtorEq, false_and, and_false, Bool.false_eq_true, zca_some, zr0, zr100, Option.bind_some, zb_none, zb_some, zrc, or_true, true_or, eq_self, ne_eq, not_true_eq_false, not_false_eq_true, zrt_i, zrt_zb, zrt_b, zrt_c, zrt_l, zrt_f, zrt_r, zrt_n, zrt_v, zft_0, zft_1, zft_zb, zft_3, zft_4, zft_5, zft_7r, zft_7n, iI_t, zb_i, zb_0, zb_1, Nat.reduceAdd, Nat.reduceLeDiff, Nat.reduceEqDiff, Nat.reduceSub, Int.reduceNeg, iI_add, iI_sub, iI_mul, iI_neg, iI_n, zbz, zchar_id, zin, zwr_s, zwr_a, zwr_i, if_pos, if_neg, Int.toNat_natCast, Int.natCast_zero, Int.reduceToNat, z70, zc3, zc14, e, zb_x, zt3]
  exact ⟨D1, ⟨p1, fun a i w => q1 a i (by omega) (by omega)⟩, fB, hw⟩

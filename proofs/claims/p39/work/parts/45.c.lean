/-! the reference's search: what it finds -/
noncomputable def bestM (D : zD) (gap lev : Int) : Nat := Classical.epsilon (fun m => isB (clsD D) (fun m => FP.Core.fkey (mdv D m gap lev)) gap m)
theorem bestM_of {D : zD} {gap lev : Int} {m : Nat} (h : isB (clsD D) (fun m => FP.Core.fkey (mdv D m gap lev)) gap m) : bestM D gap lev = m :=
  isB_u (Classical.epsilon_spec (p := fun m => isB (clsD D) (fun m => FP.Core.fkey (mdv D m gap lev)) gap m) ⟨m, h⟩) h
theorem mss_0 {D : zD} : ∀ n, mss D 0 n = 0
  | 0 => rfl
  | n + 1 => by
    rw [mss, mss_0 n]
    simp
theorem mInv_0 {D : zD} (hD : mCl D) {gap lev : Int} (hg : 1 ≤ gap ∧ gap ≤ 3600) {c : Nat} {l : Int} (hI : mInv D gap lev 0 c l) :
    isB (clsD D) (fun m => FP.Core.fkey (mdv D m gap lev)) gap c := by
  have h0 : ¬ mch (clsD D) gap 0 := fun q => by
    have := (mch_lt hD q).2.2.2
    rw [mss_0] at this
    omega
  obtain ⟨-, -, ⟨h1, -, h3⟩ | ⟨h1, -, -, h3⟩⟩ := hI
  · refine Or.inl ⟨h1, fun x hx => ?_⟩
    by_cases g : 0 < x
    · exact h3 x g hx
    · rw [show x = 0 by omega] at hx
      exact h0 hx
  · refine Or.inr ⟨h1, fun x hx => ?_⟩
    by_cases g : 0 < x
    · exact h3 x g hx
    · rw [show x = 0 by omega] at hx
      exact absurd hx h0
noncomputable def mFl (D : zD) (gap lev : Int) : zD := mE D (bestM D gap lev) (if bestM D gap lev = 0 then D 32 27 else ((mdv D (bestM D gap lev) gap lev).toNat : Nat))
set_option maxRecDepth 20000 in
theorem m125 {gap lev : Int} {h : zH} {D : zD} (hD : mCl D) (hg : 1 ≤ gap ∧ gap ≤ 3600) (hl : -60 ≤ lev ∧ lev ≤ 0) (hn : FP.Core.fIsNaN (mLst D) = false) :
    zc 125 7 [.ref 32, .int (Int32.ofInt gap), .int (Int32.ofInt lev)] (zV h D) = some (.inl (some (.int (Int32.ofInt (zb ((bestM D gap lev : Int) ≠ 0))))), zV h (mFl D gap lev)) := by
  have hE0 : zwr D 32 26 0 = mE D 0 (D 32 27) := by
    funext a i
    unfold mE zwr
    by_cases h1 : a = 32 ∧ i = 27
    · simp [h1]
    · simp [h1]
  have hI0 : mInv D gap lev (mal D (D 32 7).toNat) 0 (D 32 27) := by
    refine ⟨by omega, hn, Or.inl ⟨rfl, rfl, fun x h1 h2 => ?_⟩⟩
    have := (mch_lt hD h2).2.2.1
    have h3 : x ≤ mal D (D 32 7).toNat := by rw [← this]; exact Nat.and_le_right
    omega
  obtain ⟨c', l', hI, e⟩ := m125_o (h := h) hD hg hl (mal D (D 32 7).toNat) (Nat.and_self _) 0 (D 32 27) none none hI0
  have hb := bestM_of (mInv_0 hD hg hI)
  have hl' : l' = if bestM D gap lev = 0 then D 32 27 else ((mdv D (bestM D gap lev) gap lev).toNat : Nat) := by
    rw [hb]
    obtain ⟨-, -, ⟨h1, h2, -⟩ | ⟨-, h1, h2, -⟩⟩ := hI
    · rw [if_pos h1]
      exact h2
    · rw [if_neg h1]
      exact h2
  unfold mFl
  rw [← hl', hb, ← e]
  have hnc := hD.1
  have hloop := zloop (k := 125) (pc := 10) (fun i => [some (.ref 32), some (.int (Int32.ofInt gap)), some (.int (Int32.ofInt lev)), some (.int (Int32.ofInt (mal D i : Int))), some (.int (Int32.ofInt (i : Int))), none, none]) (fun _ => zV h (mE D (0 : Nat) (D 32 27))) (D 32 7).toNat (fun i hi => by
    have hi' : (i : Int) < D 32 7 := by omega
    have hbs := bt_shl (show i < 12 by omega)
    have hal := mal_12 hD (i := i) (by omega)
    obtain ⟨-, -, l3, l4, l5⟩ := hD.2.2 i hi'
    have l6 := hD.2.1
    have hor := bt_or (mal D i) (2 ^ i)
    have hor0 := bt_or0 (mal D i)
    have hfl : zflag D i = (decide (D 38 i = 1) && (decide (D 36 i ≤ D 32 16) && decide (D 32 16 ≤ D 37 i))) := rfl
    have e122 : zc 122 2 [.ref 32, .int (Int32.ofInt (i : Int))] (zV h (mE D (0 : Nat) (D 32 27))) = some (.inl (some (.int (Int32.ofInt (zb (D 36 i ≤ D 32 16 ∧ D 32 16 ≤ D 37 i))))), zV h (mE D (0 : Nat) (D 32 27))) := by
      have := m122 (c := (i : Int)) (h := h) (D := mE D (0 : Nat) (D 32 27)) (by omega) (by rw [mE_o (by omega)]; omega) (by rw [mE_o (by omega), Int.toNat_natCast]; omega) (by rw [mE_o (by omega), Int.toNat_natCast]; omega)
      rw [mE_o (by omega), mE_o (by omega), mE_o (by omega), Int.toNat_natCast] at this
      exact this
    have m38 : mE D (0 : Nat) (D 32 27) 38 i = D 38 i := mE_o (by omega)
    have m7 : mE D (0 : Nat) (D 32 27) 32 7 = D 32 7 := mE_o (by omega)
    conv => lhs; rw [z125_10]
    rw [mal]
    generalize mal D i = al at *
    clear e hI hI0 hE0 hn hD
    by_cases g1 : D 38 i = 1
    · by_cases g2 : D 36 i ≤ D 32 16 ∧ D 32 16 ≤ D 37 i
      · rw [show zflag D i = true by rw [hfl]; simp [g1, g2.1, g2.2], if_pos rfl]
        rw [zb_t g2] at e122
        simp (disch := first | omega | (simp (disch := omega) only [zwr_s, zwr_a, zwr_i]; omega)) only [zentry, zs0, zs1, zs2, zs3, zg_lo, zg_st, zg_st2, zg_ald, zg_ast, zs_ia, zs_i0, zcs, zg_ii, zi_max, zi_min, zi_abi, zi_abf, zi_fb, zi_bf, lget, lst, lst2, lc2, Option.map_some, zso, if_true, if_false, zc1, and_true, true_and, and_self, List.length_nil, List.length_cons, Nat.zero_le, reduceIte, reduceCtorEq, false_and, and_false, Bool.false_eq_true, zca_some, zr0, zr100, Option.bind_some, zb_none, zb_some, zrc, or_true, true_or, eq_self, ne_eq, not_true_eq_false, not_false_eq_true, zrt_i, zrt_zb, zrt_b, zrt_c, zrt_l, zrt_f, zrt_r, zrt_n, zrt_v, zft_0, zft_1, zft_zb, zft_3, zft_4, zft_5, zft_7r, zft_7n, iI_t, zb_i, zb_0, zb_1, Nat.reduceAdd, Nat.reduceLeDiff, Nat.reduceEqDiff, Nat.reduceSub, Int.reduceNeg, iI_add, iI_sub, iI_mul, iI_neg, iI_n, z125, hbs, hor, zt2, e122, m38, m7, zin, zc32, zc38, Int.toNat_natCast, if_pos, if_neg]
      · rw [show zflag D i = false by rw [hfl]; simp; intro q1 q2; omega, if_neg (by simp), Nat.or_zero]
        rw [zb_f g2] at e122
        simp (disch := first | omega | (simp (disch := omega) only [zwr_s, zwr_a, zwr_i]; omega)) only [zentry, zs0, zs1, zs2, zs3, zg_lo, zg_st, zg_st2, zg_ald, zg_ast, zs_ia, zs_i0, zcs, zg_ii, zi_max, zi_min, zi_abi, zi_abf, zi_fb, zi_bf, lget, lst, lst2, lc2, Option.map_some, zso, if_true, if_false, zc1, and_true, true_and, and_self, List.length_nil, List.length_cons, Nat.zero_le, reduceIte, reduceCtorEq, false_and, and_false, Bool.false_eq_true, zca_some, zr0, zr100, Option.bind_some, zb_none, zb_some, zrc, or_true, true_or, eq_self, ne_eq, not_true_eq_false, not_false_eq_true, zrt_i, zrt_zb, zrt_b, zrt_c, zrt_l, zrt_f, zrt_r, zrt_n, zrt_v, zft_0, zft_1, zft_zb, zft_3, zft_4, zft_5, zft_7r, zft_7n, iI_t, zb_i, zb_0, zb_1, Nat.reduceAdd, Nat.reduceLeDiff, Nat.reduceEqDiff, Nat.reduceSub, Int.reduceNeg, iI_add, iI_sub, iI_mul, iI_neg, iI_n, z125, hor0, zt2, e122, m38, m7, zin, zc32, zc38, Int.toNat_natCast, if_pos, if_neg]
    · rw [show zflag D i = false by rw [hfl]; simp; intro q1; omega, if_neg (by simp), Nat.or_zero]
      simp (disch := first | omega | (simp (disch := omega) only [zwr_s, zwr_a, zwr_i]; omega)) only [zentry, zs0, zs1, zs2, zs3, zg_lo, zg_st, zg_st2, zg_ald, zg_ast, zs_ia, zs_i0, zcs, zg_ii, zi_max, zi_min, zi_abi, zi_abf, zi_fb, zi_bf, lget, lst, lst2, lc2, Option.map_some, zso, if_true, if_false, zc1, and_true, true_and, and_self, List.length_nil, List.length_cons, Nat.zero_le, reduceIte, reduceCtorEq, false_and, and_false, Bool.false_eq_true, zca_some, zr0, zr100, Option.bind_some, zb_none, zb_some, zrc, or_true, true_or, eq_self, ne_eq, not_true_eq_false, not_false_eq_true, zrt_i, zrt_zb, zrt_b, zrt_c, zrt_l, zrt_f, zrt_r, zrt_n, zrt_v, zft_0, zft_1, zft_zb, zft_3, zft_4, zft_5, zft_7r, zft_7n, iI_t, zb_i, zb_0, zb_1, Nat.reduceAdd, Nat.reduceLeDiff, Nat.reduceEqDiff, Nat.reduceSub, Int.reduceNeg, iI_add, iI_sub, iI_mul, iI_neg, iI_n, z125, hor0, m38, m7, zin, zc32, zc38, Int.toNat_natCast, if_pos, if_neg]) (D 32 7).toNat (Nat.le_refl _)
  have hnn : (((D 32 7).toNat : Nat) : Int) = D 32 7 := by omega
  have hst : zx 125 10 [some (.ref 32), some (.int (Int32.ofInt gap)), some (.int (Int32.ofInt lev)), some (.int (Int32.ofInt (mal D (D 32 7).toNat : Int))), some (.int (Int32.ofInt (D 32 7))), none, none] [] (zV h (mE D (0 : Nat) (D 32 27))) = zx 125 58 [some (.ref 32), some (.int (Int32.ofInt gap)), some (.int (Int32.ofInt lev)), some (.int (Int32.ofInt (mal D (D 32 7).toNat : Int))), some (.int (Int32.ofInt (mal D (D 32 7).toNat : Int))), none, none] [] (zV h (mE D (0 : Nat) (D 32 27))) := by
    have m7 : mE D (0 : Nat) (D 32 27) 32 7 = D 32 7 := mE_o (by omega)
    conv => lhs; rw [z125_10]
    clear e hI hI0 hE0 hn hD
    generalize mal D (D 32 7).toNat = al at *
    simp (disch := first | omega | (simp (disch := omega) only [zwr_s, zwr_a, zwr_i]; omega)) only [zentry, zs0, zs1, zs2, zs3, zg_lo, zg_st, zg_st2, zg_ald, zg_ast, zs_ia, zs_i0, zcs, zg_ii, zi_max, zi_min, zi_abi, zi_abf, zi_fb, zi_bf, lget, lst, lst2, lc2, Option.map_some, zso, if_true, if_false, zc1, and_true, true_and, and_self, List.length_nil, List.length_cons, Nat.zero_le, reduceIte, reduceCtorEq, false_and, and_false, Bool.false_eq_true, zca_some, zr0, zr100, Option.bind_some, zb_none, zb_some, zrc, or_true, true_or, eq_self, ne_eq, not_true_eq_false, not_false_eq_true, zrt_i, zrt_zb, zrt_b, zrt_c, zrt_l, zrt_f, zrt_r, zrt_n, zrt_v, zft_0, zft_1, zft_zb, zft_3, zft_4, zft_5, zft_7r, zft_7n, iI_t, zb_i, zb_0, zb_1, Nat.reduceAdd, Nat.reduceLeDiff, Nat.reduceEqDiff, Nat.reduceSub, Int.reduceNeg, iI_add, iI_sub, iI_mul, iI_neg, iI_n, z125, m7, zc32, if_pos, if_neg]
  simp only [mal, hnn] at hloop
  rw [hst] at hloop
  refine Eq.trans ?_ hloop
  rw [zc]
  clear e hI hI0 hloop hn hD hst
  simp (disch := first | omega | (simp (disch := omega) only [zwr_s, zwr_a, zwr_i]; omega)) only [zentry, zs0, zs1, zs2, zs3, zg_lo, zg_st, zg_st2, zg_ald, zg_ast, zs_ia, zs_i0, zcs, zg_ii, zi_max, zi_min, zi_abi, zi_abf, zi_fb, zi_bf, lget, lst, lst2, lc2, Option.map_some, zso, if_true, if_false, zc1, and_true, true_and, and_self, List.length_nil, List.length_cons, Nat.zero_le, reduceIte, reduceCtorEq, false_and, and_false, Bool.false_eq_true, zca_some, zr0, zr100, Option.bind_some, zb_none, zb_some, zrc, or_true, true_or, eq_self, ne_eq, not_true_eq_false, not_false_eq_true, zrt_i, zrt_zb, zrt_b, zrt_c, zrt_l, zrt_f, zrt_r, zrt_n, zrt_v, zft_0, zft_1, zft_zb, zft_3, zft_4, zft_5, zft_7r, zft_7n, iI_t, zb_i, zb_0, zb_1, Nat.reduceAdd, Nat.reduceLeDiff, Nat.reduceEqDiff, Nat.reduceSub, Int.reduceNeg, iI_add, iI_sub, iI_mul, iI_neg, iI_n, z125, zc32, hE0, if_pos, if_neg, Int.natCast_zero]

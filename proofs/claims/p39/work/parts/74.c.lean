/-! the bits of the mean level: class and reference side by side -/
theorem fi_mag {Z : Int} {S : UInt32} (hS : FP.Core.FInt Z S) (hZ : Z < 0 ∧ -262144 ≤ Z) : 127 * 2 ^ 23 ≤ S.toNat % 2 ^ 31 ∧ S.toNat % 2 ^ 31 < 146 * 2 ^ 23 ∧ 2 ^ 31 ≤ S.toNat := by
  have hi := fl_i2f (z := Z) (by omega)
  have et : (Int32.ofInt Z).toInt = Z := iI_t (by omega)
  have zs := FP.Core.FInt_zval hS
  have zi := FP.Core.FInt_zval hi
  have ns := FP.Core.FInt_ne_nan hS
  have ni := FP.Core.FInt_ne_nan hi
  have c1 := FP.Core.fcmp_zval ns ni
  have c2 := FP.Core.fcmp_key ns ni
  rw [c1, zs, zi, (FP.Core.compare_eq_iff _ _).mpr rfl] at c2
  have ek := (FP.Core.compare_eq_iff _ _).mp (Option.some.inj c2).symm
  have b1 := (FP.Core.i2f_big (v := Int32.ofInt Z) (by rw [et]; omega)).1
  have b2 := FP.Core.fromInt_mag32 (FP.Core.toNat_i2f (Int32.ofInt Z)) (j := 18) (K := 145) (by rw [et]; omega) (by decide) (by decide)
  have b1 : 127 * 2 ^ 23 ≤ (FP.i2f (Int32.ofInt Z)).toNat % 2 ^ 31 := b1
  have b2 : (FP.i2f (Int32.ofInt Z)).toNat % 2 ^ 31 ≤ 145 * 2 ^ 23 := b2
  have sneg : 2 ^ 31 ≤ S.toNat := by
    refine Nat.le_of_not_lt fun g => ?_
    have := FP.Core.zval_nonneg32 ns g
    rw [zs] at this
    have p := FP.Core.one32_pos
    have : Z * (FP.Core.one32 : Int) < 0 := Int.mul_neg_of_neg_of_pos hZ.1 (by omega)
    omega
  have ineg : 2 ^ 31 ≤ (FP.i2f (Int32.ofInt Z)).toNat := by
    refine Nat.le_of_not_lt fun g => ?_
    have := FP.Core.zval_nonneg32 ni g
    rw [zi] at this
    have p := FP.Core.one32_pos
    have : Z * (FP.Core.one32 : Int) < 0 := Int.mul_neg_of_neg_of_pos hZ.1 (by omega)
    omega
  have l1 := S.toNat_lt
  have l2 := (FP.i2f (Int32.ofInt Z)).toNat_lt
  unfold FP.Core.fkey at ek
  rw [if_pos sneg, if_pos ineg] at ek
  omega
theorem rm_bits {Z n : Int} {S : UInt32} (hS : FP.Core.FInt Z S) (hZ : Z < 0 ∧ -262144 ≤ Z) (hn : 1 ≤ n ∧ n ≤ 3600) : ∃ e t : Nat, (1 ≤ e ∧ e ≤ 254) ∧ t < 8388608 ∧ (FP.fdiv S (FP.i2f (Int32.ofInt n))).toNat = 2147483648 + (e * 8388608 + t) := by
  obtain ⟨s1, s2, s3⟩ := fi_mag hS hZ
  have et : (Int32.ofInt n).toInt = n := iI_t (by omega)
  have hi := fl_i2f (z := n) (by omega)
  have ni := FP.Core.FInt_ne_nan hi
  have ns := FP.Core.FInt_ne_nan hS
  have b1 : 127 * 2 ^ 23 ≤ (FP.i2f (Int32.ofInt n)).toNat % 2 ^ 31 := (FP.Core.i2f_big (v := Int32.ofInt n) (by rw [et]; omega)).1
  have b2 : (FP.i2f (Int32.ofInt n)).toNat % 2 ^ 31 ≤ 139 * 2 ^ 23 := FP.Core.fromInt_mag32 (FP.Core.toNat_i2f (Int32.ofInt n)) (j := 12) (K := 139) (by rw [et]; omega) (by decide) (by decide)
  have up := FP.Core.fdiv_mag (a := S) (b := FP.i2f (Int32.ofInt n)) (K := 146) (L := 127) s2 b1 (by omega) (by decide) (by decide)
  have h1 : (FP.fdiv S (FP.i2f (Int32.ofInt n))).toNat = FP.Core.div FP.Core.b32 S.toNat (FP.i2f (Int32.ofInt n)).toNat := FP.Core.toNat_of32 (FP.Core.quotient_fits FP.Core.good_b32 _ _)
  have lo := div_mag_ge (x := S.toNat) (y := (FP.i2f (Int32.ofInt n)).toNat) (Ka := 127) (L := 140) (K := 114) (by rw [FP.Core.mag_toNat32, FP.Core.tails_b32]; exact s1) (by rw [FP.Core.mag_toNat32, FP.Core.infBits_b32]; omega) (by rw [FP.Core.mag_toNat32, FP.Core.tails_b32]; omega) (by rw [FP.Core.mag_toNat32]; omega) (by decide) (by decide) (by decide) (by decide) (by decide)
  rw [← h1, FP.Core.mag_toNat32, FP.Core.tails_b32] at lo
  have up : (FP.fdiv S (FP.i2f (Int32.ofInt n))).toNat % 2 ^ 31 < (146 + (149 - 23 - 1) - 127 + 3) * 2 ^ 23 := up
  -- its sign
  have nv : FP.Core.val32 (FP.fdiv S (FP.i2f (Int32.ofInt n))) ≠ .nan := (FP.Core.ne_nan32 _).mpr (by omega)
  have sg : 2 ^ 31 ≤ (FP.fdiv S (FP.i2f (Int32.ofInt n))).toNat := by
    have hb := FP.Core.sgn_bits32 nv
    have hbs := FP.Core.sgn_bits32 ns
    have hbi := FP.Core.sgn_bits32 ni
    obtain ⟨ss, sc, sq, hs⟩ := (FP.Core.fin_bits32 S).mpr (by omega)
    obtain ⟨is, ic, iq, hi2⟩ := (FP.Core.fin_bits32 (FP.i2f (Int32.ofInt n))).mpr (by omega)
    have ipos : ¬ 2 ^ 31 ≤ (FP.i2f (Int32.ofInt n)).toNat := fun g => by
      have := FP.Core.zval_nonpos32 ni g
      rw [FP.Core.FInt_zval hi] at this
      have p := FP.Core.one32_pos
      have : 0 < n * (FP.Core.one32 : Int) := Int.mul_pos (by omega) (by omega)
      omega
    rw [hs, decide_eq_true s3] at hbs
    rw [hi2, decide_eq_false ipos] at hbi
    have hbs : ss = true := hbs
    have hbi : is = false := hbi
    have ic0 : ic ≠ 0 := fun w => by
      have := (FP.Core.zero_bits232 (FP.i2f (Int32.ofInt n))).mp ⟨is, iq, by rw [hi2, w]⟩
      omega
    have hv : FP.Core.val32 (FP.fdiv S (FP.i2f (Int32.ofInt n))) = FP.Core.roundRatio FP.Core.b32 true sc ic (sq - iq) := by
      rw [show FP.Core.val32 (FP.fdiv S (FP.i2f (Int32.ofInt n))) = FP.Core.quotient FP.Core.b32 (FP.Core.val32 S) (FP.Core.val32 (FP.i2f (Int32.ofInt n))) from FP.Core.val32_fdiv _ _, hs, hi2, hbs, hbi]
      simp only [FP.Core.quotient, if_neg ic0]
      rfl
    rw [hv, FP.Core.sgn_roundRatio] at hb
    exact of_decide_eq_true hb.symm
  have l1 := (FP.fdiv S (FP.i2f (Int32.ofInt n))).toNat_lt
  refine ⟨(FP.fdiv S (FP.i2f (Int32.ofInt n))).toNat % 2 ^ 31 / 8388608, (FP.fdiv S (FP.i2f (Int32.ofInt n))).toNat % 8388608, by omega, by omega, by omega⟩
/-- a sum of nothing is a zero without a sign -/
theorem mnV_0 {D : zD} (hC : mCl D) {sp : zSp} (h : spC 3600 sp) (hv : spV D sp) : ∀ k, k ≤ sp.length → mnZ D sp k = 0 → mnV D sp k = FP.fconst0
  | 0, _, _ => rfl
  | k + 1, hk, hz => by
    have b := (mnV_p hC h hv k (by omega)).2.1
    have sb := spC_b h _ (spK_mem (sp := sp) (k := k) (by omega))
    have v := hv _ (spK_mem (sp := sp) (k := k) (by omega))
    have ih := mnV_0 hC h hv k (by omega)
    unfold mnZ at hz
    unfold mnV
    by_cases g : (spK sp k).1 = -1
    · rw [if_pos g] at hz ⊢
      exact ih hz
    · rw [if_neg g] at hz ⊢
      have l9 := (hC.2.2 (spK sp k).1.toNat (by omega)).2.1
      have m := mul_c (y := (spK sp k).2.2.2 - (spK sp k).2.2.1) l9 (by omega)
      have z0 : D 34 (spK sp k).1.toNat * ((spK sp k).2.2.2 - (spK sp k).2.2.1) = 0 := by omega
      rw [ih (by omega), z0]
      decide +kernel
set_option maxRecDepth 20000 in
theorem k66 {c : Nat} {h : zH} {X D : zD} (p : Inv c h X D) : ∃ X1 D1, InvG c h D X1 D1 ∧ ∃ v : Int, iR v ∧ (rMn D1).toInt32 = Int32.ofInt v ∧ (cV (zc 66 1 [.ref 3] (zV (zU h X) D)) (qMn D1) (if qMn D1 = 0 then v else 0) h X1 D1 ∨ cE (zc 66 1 [.ref 3] (zV (zU h X) D)) (qMn D1) 1 4 h X1 D1) := by
  obtain ⟨X1, D1, e91, p1, la, -, -, gl, -⟩ := lay p
  have bt := qMn_v (D := D1)
  have hO := p1.1.1
  have hc101 : qMn D1 = 0 → zc 101 5 [.float (rMn D1)] (zV (zU h X1) D1) = some (.inl (some (.int (rMn D1).toInt32)), zV (zU h X1) D1) := fun q => by
    obtain ⟨l1, l2, l3, -⟩ := lyF_ok hO
    obtain ⟨v1, v2, v3⟩ := mnV_p hO.1 l1 l3 _ (Nat.le_refl _)
    have vt := lnS_t l1
    have hn := mnN_nz l1 _ (Nat.le_refl _)
    have hn1 : 1 ≤ mnN (lyF D1).2.1 (lyF D1).2.1.length := by
      unfold qMn at q
      by_cases g : mnN (lyF D1).2.1 (lyF D1).2.1.length = 0
      · rw [if_pos g] at q
        omega
      · omega
    by_cases g : mnZ D1 (lyF D1).2.1 (lyF D1).2.1.length = 0
    · have e0 : rMn D1 = FP.fconst0 := by
        unfold rMn
        rw [mnV_0 hO.1 l1 l3 _ (Nat.le_refl _) g]
        have hi := fl_i2f (z := mnN (lyF D1).2.1 (lyF D1).2.1.length) (by omega)
        generalize mnN (lyF D1).2.1 (lyF D1).2.1.length = n at *
        have nz := fl_nz hi (by omega)
        have ni := FP.Core.FInt_ne_nan hi
        have et : (Int32.ofInt n).toInt = n := iI_t (by omega)
        obtain ⟨is, ic, iq, hi2⟩ := FP.Core.i2f_fin (Int32.ofInt n)
        have hi2 : FP.Core.val32 (FP.i2f (Int32.ofInt n)) = .fin is ic iq := hi2
        have ic0 : ic ≠ 0 := fun w => nz ⟨is, iq, by rw [hi2, w]⟩
        have ipos : ¬ 2 ^ 31 ≤ (FP.i2f (Int32.ofInt n)).toNat := fun g => by
          have := FP.Core.zval_nonpos32 ni g
          rw [FP.Core.FInt_zval hi] at this
          have p := FP.Core.one32_pos
          have : 0 < n * (FP.Core.one32 : Int) := Int.mul_pos (by omega) (by omega)
          omega
        have hbi := FP.Core.sgn_bits32 ni
        rw [hi2, decide_eq_false ipos] at hbi
        have hbi : is = false := hbi
        refine (FP.Core.val32_inj (a := FP.Core.fconst0) (by rw [FP.Core.val32_fconst0]; intro w; cases w) ?_).symm
        rw [FP.Core.val32_fconst0, show FP.Core.val32 (FP.fdiv FP.fconst0 (FP.i2f (Int32.ofInt n))) = FP.Core.quotient FP.Core.b32 (FP.Core.val32 FP.Core.fconst0) (FP.Core.val32 (FP.i2f (Int32.ofInt n))) from FP.Core.val32_fdiv _ _, FP.Core.val32_fconst0, hi2, hbi]
        simp only [FP.Core.quotient, if_neg ic0]
        rfl
      rw [e0]
      exact c101_z
    · obtain ⟨e, t, b1, b2, b3⟩ := rm_bits v1 (by omega) (n := mnN (lyF D1).2.1 (lyF D1).2.1.length) (by omega)
      exact c101 b1 b2 b3
  have vI : ∃ v : Int, iR v ∧ (rMn D1).toInt32 = Int32.ofInt v := ⟨(rMn D1).toInt32.toInt, by
    have h1 := (rMn D1).toInt32.toInt_lt
    have h2 := (rMn D1).toInt32.le_toInt
    omega, (Int32.ofInt_toInt _).symm⟩
  obtain ⟨v, hv1, hv2⟩ := vI
  have hA : cV (zc 66 1 [.ref 3] (zV (zU h X) D)) (qMn D1) (if qMn D1 = 0 then v else 0) h X1 D1 ∨ cE (zc 66 1 [.ref 3] (zV (zU h X) D)) (qMn D1) 1 4 h X1 D1 := by
    rcases c100 p1 la with ⟨e0, e⟩ | ⟨e0, e⟩
    · have e101 := hc101 e0
      rw [if_pos e0]
      rw [hv2] at e101
      refine Or.inl ⟨e0, ?_⟩
      rw [zc]
      clear p p1 la hO hc101 hv2
      generalize rMn D1 = x at *
      simp (disch := first | omega | (simp (disch := omega) only [zwr_s, zwr_a, zwr_i, zn_put, zn_new, zn_fil, zn_chg, zV_n]; omega)) only [zentry, zs0, zs1, zs2, zs3, zg_lo, zg_st, zg_st2, zg_ald, zg_ast, zs_ia, zs_i0, zcs, zg_ii, zi_max, zi_min, zi_abi, zi_abf, zi_fb, zi_bf, lget, lst, lst2, lc2, Option.map_some, zso, if_true, if_false, zc1, and_true, true_and, and_self, List.length_nil, List.length_cons, Nat.zero_le, reduceIte, reduceCtorEq, false_and, and_false, Bool.false_eq_true, zca_some, zr0, zr100, Option.bind_some, zb_none, zb_some, zrc, or_true, true_or, eq_self, ne_eq, not_true_eq_false, not_false_eq_true, zrt_i, zrt_zb, zrt_b, zrt_c, zrt_l, zrt_f, zrt_r, zrt_n, zrt_v, zft_0, zft_1, zft_zb, zft_3, zft_4, zft_5, zft_7r, zft_7n, iI_t, zb_i, zb_0, zb_1, Nat.reduceAdd, Nat.reduceLeDiff, Nat.reduceEqDiff, Nat.reduceSub, Int.reduceNeg, iI_add, iI_sub, iI_mul, iI_neg, iI_n, zbz, zchar_id, zin, zwr_s, zwr_a, zwr_i, if_pos, if_neg, Int.toNat_natCast, Int.natCast_zero, Int.reduceToNat, z66, zc3, e91, e, e101, zt1]
    · refine Or.inr ⟨e0, ?_⟩
      rw [zc]
      clear p p1 la hO hc101 hv2
      simp (disch := first | omega | (simp (disch := omega) only [zwr_s, zwr_a, zwr_i, zn_put, zn_new, zn_fil, zn_chg, zV_n]; omega)) only [zentry, zs0, zs1, zs2, zs3, zg_lo, zg_st, zg_st2, zg_ald, zg_ast, zs_ia, zs_i0, zcs, zg_ii, zi_max, zi_min, zi_abi, zi_abf, zi_fb, zi_bf, lget, lst, lst2, lc2, Option.map_some, zso, if_true, if_false, zc1, and_true, true_and, and_self, List.length_nil, List.length_cons, Nat.zero_le, reduceIte, reduceCtorEq, false_and, and_false, Bool.false_eq_true, zca_some, zr0, zr100, Option.bind_some, zb_none, zb_some, zrc, or_true, true_or, eq_self, ne_eq, not_true_eq_false, not_false_eq_true, zrt_i, zrt_zb, zrt_b, zrt_c, zrt_l, zrt_f, zrt_r, zrt_n, zrt_v, zft_0, zft_1, zft_zb, zft_3, zft_4, zft_5, zft_7r, zft_7n, iI_t, zb_i, zb_0, zb_1, Nat.reduceAdd, Nat.reduceLeDiff, Nat.reduceEqDiff, Nat.reduceSub, Int.reduceNeg, iI_add, iI_sub, iI_mul, iI_neg, iI_n, zbz, zchar_id, zin, zwr_s, zwr_a, zwr_i, if_pos, if_neg, Int.toNat_natCast, Int.natCast_zero, Int.reduceToNat, z66, zc3, e91, e, zb_x, zt1]
  exact ⟨X1, D1, ⟨p1, gl⟩, v, hv1, hv2, hA⟩

/-! .. a gap -/
theorem selC_len : ∀ (cs : zCL) (m : Nat), (selC cs m).length = (pcs cs).length
  | [], _ => rfl
  | q :: r, m => by
    rcases Bool.eq_false_or_eq_true q.1 with hq | hq
    · rw [selC_t hq, pcs_t hq, List.length_cons, List.length_cons, selC_len r]
    · rw [selC_f hq, pcs_f hq, selC_len r]
theorem mkB_b {D : zD} {gap lev : Int} (h8 : (pcs (clsD D)).length ≤ 8) : mkB D gap lev < 256 ∧ ∀ k, k ≤ 7 → (mkB D gap lev).testBit (7 - (0 + k)) = (selC (clsD D) (bestM D gap lev)).getD k false := by
  have hl := selC_len (clsD D) (bestM D gap lev)
  exact ⟨mk_lt _ 0 (by omega), fun k hk => mk_tb _ 0 k (by omega) (by omega)⟩
set_option maxRecDepth 20000 in
theorem c95 {f t lev : Int} {h : zH} {D : zD} {sp : zSp} (hC : mCl D) (h8 : (pcs (clsD D)).length ≤ 8) (hnl : FP.Core.fIsNaN (mLst D) = false) (hF : fiO D) (hN : fiNu D) (n3 : D 14 3 = ((nuC D (D 32 16) 0 (D 32 7).toNat).length : Nat)) (n15 : ∀ k, k < (nuC D (D 32 16) 0 (D 32 7).toNat).length → D 15 k = ((nuC D (D 32 16) 0 (D 32 7).toNat).getD k 0 : Nat))
    (hg : 1 ≤ t - f ∧ t - f ≤ 3600) (hl : -60 ≤ lev ∧ lev ≤ 0) (hf : 0 ≤ f ∧ f ≤ 100000) (hr : tRp 6 D sp) (hs : D 6 3 = sp.length) (hsl : sp.length ≤ 108) :
    ∃ D', zc 95 8 [.ref 3, .int (Int32.ofInt f), .int (Int32.ofInt t), .int (Int32.ofInt lev)] (zV h D) = some (.inl none, zV h D') ∧ tRp 6 D' (if bestM D (t - f) lev = 0 then (-1, -1, f, t) :: sp else lyPs D (bestM D (t - f) lev) (D 32 7).toNat 0 f sp) ∧
      D' 6 3 = (if bestM D (t - f) lev = 0 then (-1, -1, f, t) :: sp else lyPs D (bestM D (t - f) lev) (D 32 7).toNat 0 f sp).length ∧ (∃ D1, fiQ D D1 ∧ fiO D1 ∧ ∀ a i, a < 6 ∨ 9 < a → D' a i = D1 a i) := by
  obtain ⟨D1, e15, q1, q2, q3⟩ := c15 (h := h) hC h8 hnl hF hg hl
  have hB1 := q2.1
  have hn := hB1.1
  have r1 : tRp 6 D1 sp := tRp_c (fun k _ => ⟨q1 _ _ (by omega) (by omega), q1 _ _ (by omega) (by omega), q1 _ _ (by omega) (by omega)⟩) hr
  have s1 : D1 6 3 = sp.length := (q1 6 3 (by omega) (by omega)).trans hs
  have b3 : D1 14 3 = D 14 3 := q1 14 3 (by omega) (by omega)
  obtain ⟨mb, mt⟩ := mkB_b (gap := t - f) (lev := lev) h8
  by_cases g : bestM D (t - f) lev = 0
  · rw [if_pos g]
    have m0 := q3.mpr g
    rw [m0] at e15
    have e30 := c30_6 (c := -1) (s := f) (e := t) (h := h) (D := D1) (by omega)
    obtain ⟨a1, a2⟩ := tAdd_rp (c := -1) (s := f) (e := t) (ev := -1) s1 r1
    refine ⟨tAdd 6 D1 (-1) f t, ?_, a1, by rw [a2, List.length_cons]; omega, D1, q1, q2, fun a i ha => tAdd_o (by omega)⟩
    rw [zc]
    clear hC h8 hnl hF hN n3 n15 hr r1 q1 q2 q3 a1 a2 hB1 mt mb
    generalize tAdd 6 D1 (-1) f t = D2 at *
    simp (disch := first | omega | (simp (disch := omega) only [zwr_s, zwr_a, zwr_i, zn_put, zn_new, zn_fil, zn_chg, zV_n]; omega)) only [zentry, zs0, zs1, zs2, zs3, zg_lo, zg_st, zg_st2, zg_ald, zg_ast, zs_ia, zs_i0, zcs, zg_ii, zi_max, zi_min, zi_abi, zi_abf, zi_fb, zi_bf, lget, lst, lst2, lc2, Option.map_some, zso, if_true, if_false, zc1, and_true, true_and, and_self, List.length_nil, List.length_cons, Nat.zero_le, reduceIte, reduceCtorEq, false_and, and_false, Bool.false_eq_true, zca_some, zr0, zr100, Option.bind_some, zb_none, zb_some, zrc, or_true, true_or, eq_self, ne_eq, not_true_eq_false, not_false_eq_true, zrt_i, zrt_zb, zrt_b, zrt_c, zrt_l, zrt_f, zrt_r, zrt_n, zrt_v, zft_0, zft_1, zft_zb, zft_3, zft_4, zft_5, zft_7r, zft_7n, iI_t, zb_i, zb_0, zb_1, Nat.reduceAdd, Nat.reduceLeDiff, Nat.reduceEqDiff, Nat.reduceSub, Int.reduceNeg, iI_add, iI_sub, iI_mul, iI_neg, iI_n, zbz, zchar_id, zin, zwr_s, zwr_a, zwr_i, if_pos, if_neg, Int.toNat_natCast, Int.natCast_zero, Int.reduceToNat, z95, e15, e30, zt3, zt4, zc3, zc6, zc14, Int.natCast_zero]
  · rw [if_neg g]
    have m0 : mkB D (t - f) lev ≠ 0 := fun x => g (q3.mp x)
    have hsub : subC (clsD D) (bestM D (t - f) lev) = true := by
      rcases bestM_B hC hg hl hnl with ⟨x, -⟩ | ⟨x, -⟩
      · exact absurd x g
      · exact x.1
    have hzp := zp_tb (D := D) (d := D 32 16) rfl (m := bestM D (t - f) lev) (D 32 7).toNat 0 (by rw [Nat.pow_zero, Nat.div_one]; exact hsub)
    rw [Nat.pow_zero, Nat.div_one] at hzp
    have hcl : pcs (clsD D) = (nuC D (D 32 16) 0 (D 32 7).toNat).map (fun i => (D 33 i, D 34 i)) := pcs_nu rfl _ _
    have hpl : (pcs (clsD D)).length = (nuC D (D 32 16) 0 (D 32 7).toNat).length := by rw [hcl, List.length_map]
    have ePs := tPs_L (F := D1) (S := D) (mk := mkB D (t - f) lev) (D 14 3).toNat 0 (nuC D (D 32 16) 0 (D 32 7).toNat) (selC (clsD D) (bestM D (t - f) lev)) f D1 (by omega) (by rw [selC_len, hpl]; omega) (fun k hk => by
      have a1 := n15 k (by omega)
      have a2 := (hN k (by omega)).1
      rw [Nat.zero_add, q1 15 k (by omega) (by omega), q1 16 k (by omega) (by omega), a2, a1, Int.toNat_natCast]
      exact ⟨rfl, rfl⟩) (fun k hk => mt k (by omega))
    have hzp : zpS (nuC D (D 32 16) 0 (D 32 7).toNat) (selC (clsD D) (bestM D (t - f) lev)) = tbL (bestM D (t - f) lev) 0 (D 32 7).toNat := hzp
    rw [hzp] at ePs
    obtain ⟨a1, a2⟩ := tL_rp (S := D) (tbL (bestM D (t - f) lev) 0 (D 32 7).toNat) f D1 sp r1 s1
    rw [lyPs_L]
    refine ⟨_, ?_, a1, a2, D1, q1, q2, fun a i ha => tL_o ha _ _ _⟩
    have eL := c95_l (fi := Int32.ofInt f) (ti := Int32.ofInt t) (li := Int32.ofInt lev) (h := h) hB1 mb (D 14 3).toNat 0 f D1 none (by omega) (fun _ _ _ => rfl) (by omega) (by omega) (fun _ _ _ => rfl)
    rw [ePs] at eL
    rw [← eL, zc]
    clear hC h8 hnl hF hN n3 n15 hr r1 q1 q2 q3 a1 a2 hB1 mt eL ePs hzp hcl hpl hsub
    generalize mkB D (t - f) lev = mk at *
    simp (disch := first | omega | (simp (disch := omega) only [zwr_s, zwr_a, zwr_i, zn_put, zn_new, zn_fil, zn_chg, zV_n]; omega)) only [zentry, zs0, zs1, zs2, zs3, zg_lo, zg_st, zg_st2, zg_ald, zg_ast, zs_ia, zs_i0, zcs, zg_ii, zi_max, zi_min, zi_abi, zi_abf, zi_fb, zi_bf, lget, lst, lst2, lc2, Option.map_some, zso, if_true, if_false, zc1, and_true, true_and, and_self, List.length_nil, List.length_cons, Nat.zero_le, reduceIte, reduceCtorEq, false_and, and_false, Bool.false_eq_true, zca_some, zr0, zr100, Option.bind_some, zb_none, zb_some, zrc, or_true, true_or, eq_self, ne_eq, not_true_eq_false, not_false_eq_true, zrt_i, zrt_zb, zrt_b, zrt_c, zrt_l, zrt_f, zrt_r, zrt_n, zrt_v, zft_0, zft_1, zft_zb, zft_3, zft_4, zft_5, zft_7r, zft_7n, iI_t, zb_i, zb_0, zb_1, Nat.reduceAdd, Nat.reduceLeDiff, Nat.reduceEqDiff, Nat.reduceSub, Int.reduceNeg, iI_add, iI_sub, iI_mul, iI_neg, iI_n, zbz, zchar_id, zin, zwr_s, zwr_a, zwr_i, if_pos, if_neg, Int.toNat_natCast, Int.natCast_zero, Int.reduceToNat, z95, e15, zt3, zt4, zc3, zc6, zc14, Int.natCast_zero]

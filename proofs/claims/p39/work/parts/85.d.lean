/-! the law's isSound(o, w) is true -/
section WRP
variable {L : Nat} {xs : Nat → Int32} {c : Nat} {G : zD}
theorem mn_9 : (Op.cmpValue (FP.fcmp (UInt32.ofNat 1091567616) (UInt32.ofNat 1091567616)) .l).toInt = 0 := by decide +kernel
set_option maxRecDepth 20000 in
set_option maxRecDepth 20000 in
theorem w241 {w : Int} {n : Nat} {H : zH} (hw : 0 ≤ w ∧ w ≤ 1000000000) (p : St L xs c n G H) : ∃ H1, zc 241 11 [.ref 3, .int (Int32.ofInt w)] H = some (.inl (some (.int (Int32.ofInt 1))), H1) ∧ St L xs c (n + 1100) G H1 := by
  obtain ⟨H1, e1, p1⟩ := so_0 hw p
  have b15 := p1.G7.2.1
  have hO := p.ok.1
  have sb := slS_b (lyF_ok hO).1 _ (Nat.le_refl _)
  obtain ⟨bf, se, y7, y8, y9, y10, H2, e2, hs, p2⟩ := so_3l (w := w) (sl := slS (lyF G).2.1 (lyF G).2.1.length) (G 32 15).toNat 0 0 _ 0 0 none none none none H1 (by omega) (Nat.zero_le _) rfl (Int.le_refl _) (Int.le_refl _) (fun e' _ => by
    have := plR_r (n := e') (sp := (lyF G).2.1)
    by_cases g : plR e' (lyF G).2.1 = -1
    · exact Or.inl g
    · exact Or.inr (by omega)) p1
  obtain ⟨-, H3, e3, p3⟩ := p2.x51
  obtain ⟨H4, e4, p4⟩ := w234 p3
  obtain ⟨H5, e5, p5⟩ := w234 p4
  obtain ⟨H6, e6, p6⟩ := w234 p5
  have k2 := p2.k3
  have k3 := p3.k3
  have k4 := p4.k3
  have k5 := p5.k3
  rw [e1]
  refine ⟨if qMn G = 0 then H6 else H4, ?_, by
    split
    · exact p6.le (by omega)
    · exact p4.le (by omega)⟩
  refine Eq.trans e2 ?_
  by_cases q : qMn G = 0
  · rw [if_pos q] at e4 e5 e6
    rw [if_pos q]
    obtain ⟨mn, m1, m2⟩ := rMn_b hO q
    have n9 : FP.Core.fIsNaN (UInt32.ofNat 1091567616) = false := by decide +kernel
    have n0 : FP.Core.fIsNaN FP.fconst0 = false := by decide +kernel
    have n6 : FP.Core.fIsNaN (UInt32.ofNat 3262119936) = false := by decide +kernel
    have f9 : FP.Core.fkey (UInt32.ofNat 1091567616) = 1091567616 := by decide +kernel
    have f0 : FP.Core.fkey FP.fconst0 = 0 := by decide +kernel
    have f6 : FP.Core.fkey (UInt32.ofNat 3262119936) = -1114636288 := by decide +kernel
    have h1 := fl_eq mn n9 .l
    have h2 := fl_gt mn n0 .g
    have h3 := fl_lt mn n6 .l
    have h1 : ¬ (Op.cmpValue (FP.fcmp (rMn G) (UInt32.ofNat 1091567616)) .l).toInt = 0 := by rw [h1]; omega
    have h2 : ¬ 0 < (Op.cmpValue (FP.fcmp (rMn G) FP.fconst0) .g).toInt := by rw [h2]; omega
    have h3 : ¬ (Op.cmpValue (FP.fcmp (rMn G) (UInt32.ofNat 3262119936)) .l).toInt < 0 := by rw [h3]; omega
    clear e1 e2 p p1 p2 p3 p4 p5 p6 hO mn m1 m2
    generalize slS (lyF G).2.1 (lyF G).2.1.length = sl at *
    generalize hm : rMn G = m at *
    generalize hv1 : Op.cmpValue (FP.fcmp m (UInt32.ofNat 1091567616)) .l = v1 at *
    generalize hv2 : Op.cmpValue (FP.fcmp m FP.fconst0) .g = v2 at *
    generalize hv3 : Op.cmpValue (FP.fcmp m (UInt32.ofNat 3262119936)) .l = v3 at *
    generalize G 32 15 = N at *
    rw [z241_145]
    simp (disch := first | omega | (simp (disch := omega) only [zwr_s, zwr_a, zwr_i, zn_put, zn_new, zn_fil, zn_chg, zV_n]; omega)) only [zentry, zs0, zs1, zs2, zs3, zg_lo, zg_st, zg_st2, zg_ald, zg_ast, zs_ia, zs_i0, zg_ii, zi_max, zi_min, zi_abi, zi_abf, zi_fb, zi_bf, lget, lst, lst2, lc2, Option.map_some, zso, if_true, if_false, zc1, and_true, true_and, and_self, List.length_nil, List.length_cons, Nat.zero_le, reduceIte, reduceCtorEq, false_and, and_false, Bool.false_eq_true, zca_some, zr0, zr100, Option.bind_some, zb_none, zb_some, zrc, or_true, true_or, eq_self, ne_eq, not_true_eq_false, not_false_eq_true, zrt_i, zrt_zb, zrt_b, zrt_c, zrt_l, zrt_f, zrt_r, zrt_n, zrt_v, zft_0, zft_1, zft_zb, zft_3, zft_4, zft_5, zft_7r, zft_7n, iI_t, zb_i, zb_0, zb_1, Nat.reduceAdd, Nat.reduceLeDiff, Nat.reduceEqDiff, Nat.reduceSub, Int.reduceNeg, iI_add, iI_sub, iI_mul, iI_neg, zbz, zchar_id, zin, zwr_s, zwr_a, zwr_i, if_pos, if_neg, Int.toNat_natCast, Int.natCast_zero, Int.reduceToNat, z241_b0, z241_b1, z241_b2, z241_b3, zt1, k2, k3, k4, k5, e3, e4, e5, e6, hv1, hv2, hv3, h1, h2, h3]
  · rw [if_neg q] at e4
    rw [if_neg q]
    have h1 := mn_9
    clear e1 e2 p p1 p2 p3 p4 p5 p6 hO
    generalize slS (lyF G).2.1 (lyF G).2.1.length = sl at *
    generalize hv1 : Op.cmpValue (FP.fcmp (UInt32.ofNat 1091567616) (UInt32.ofNat 1091567616)) .l = v1 at *
    generalize G 32 15 = N at *
    rw [z241_145]
    simp (disch := first | omega | (simp (disch := omega) only [zwr_s, zwr_a, zwr_i, zn_put, zn_new, zn_fil, zn_chg, zV_n]; omega)) only [zentry, zs0, zs1, zs2, zs3, zg_lo, zg_st, zg_st2, zg_ald, zg_ast, zs_ia, zs_i0, zg_ii, zi_max, zi_min, zi_abi, zi_abf, zi_fb, zi_bf, lget, lst, lst2, lc2, Option.map_some, zso, if_true, if_false, zc1, and_true, true_and, and_self, List.length_nil, List.length_cons, Nat.zero_le, reduceIte, reduceCtorEq, false_and, and_false, Bool.false_eq_true, zca_some, zr0, zr100, Option.bind_some, zb_none, zb_some, zrc, or_true, true_or, eq_self, ne_eq, not_true_eq_false, not_false_eq_true, zrt_i, zrt_zb, zrt_b, zrt_c, zrt_l, zrt_f, zrt_r, zrt_n, zrt_v, zft_0, zft_1, zft_zb, zft_3, zft_4, zft_5, zft_7r, zft_7n, iI_t, zb_i, zb_0, zb_1, Nat.reduceAdd, Nat.reduceLeDiff, Nat.reduceEqDiff, Nat.reduceSub, Int.reduceNeg, iI_add, iI_sub, iI_mul, iI_neg, zbz, zchar_id, zin, zwr_s, zwr_a, zwr_i, if_pos, if_neg, Int.toNat_natCast, Int.natCast_zero, Int.reduceToNat, z241_b0, z241_b1, z241_b2, z241_b3, zt1, k2, k3, k4, k5, e3, e4, hv1, h1]
end WRP

/-! the law's sum(o) is the same as long as the reference's cells are -/
theorem gs.sy {G D : zD} (g : gs G D) : gs D G := fun a i w => (g a i w).symm
section WRP
variable {L : Nat} {xs : Nat → Int32}
theorem St.ok {c n : Nat} {G : zD} {H : zH} (p : St L xs c n G H) : mOk G ∧ mHg G ∧ ((G 32 31 = 0 ∧ G 32 30 = 0) ∨ (G 32 31 = 1 ∧ 1 ≤ G 32 30)) ∧ ∀ i, G 38 i = 0 ∨ G 38 i = 1 := by
  obtain ⟨I, h, X, D, a, b, R, q, g, g9, gd, la, lb⟩ := p
  have hO := q.1.1
  have hn : FP.Core.fIsNaN (mLst G) = false := by
    have := hO.2.2.1
    unfold mLst at this ⊢
    rw [← g 32 27 (by omega)]
    exact this
  refine ⟨g.sy.ce.ok hn hO, g.sy.ce.hg hO.2.1.1.2 q.1.2.1, ?_, fun i => ?_⟩
  · rw [← g 32 31 (by omega), ← g 32 30 (by omega)]
    rcases q.2.2.1.2.2 with ⟨q1, q2, -⟩ | ⟨q1, lg, q2, -⟩
    · exact Or.inl ⟨q1, q2⟩
    · refine Or.inr ⟨q1, ?_⟩
      rw [q2.2.2.1]
      rcases lg with _ | ⟨x, r⟩
      · have : (3600 : Int) = 0 := q2.1
        omega
      · simp only [List.length_cons]
        omega
  · rw [← g 38 i (by omega)]
    exact (q.1.2.2.2.2 i).2
abbrev smL (s : Int64) (e : Int) : zL := [some (.ref 3), some (.long s), none, some (.int (Int32.ofInt e))]
theorem w240_l {G : zD} {pc N K : Nat} (hb : ∀ (e : Nat) (s : Int64), e < N → ∃ s' : Int64, ∀ (c n : Nat) (H : zH), St L xs c n G H → ∃ H1, zx 240 pc (smL s (e : Int)) [] H = zx 240 pc (smL s' ((e : Int) + 1)) [] H1 ∧ St L xs c (n + K) G H1) : ∀ (m e : Nat) (s : Int64), e + m = N → ∃ s' : Int64, ∀ (c n : Nat) (H : zH), St L xs c n G H → ∃ H1, zx 240 pc (smL s (e : Int)) [] H = zx 240 pc (smL s' (N : Int)) [] H1 ∧ St L xs c (n + K * m) G H1
  | 0, e, s, he => ⟨s, fun c n H p => ⟨H, by rw [← he]; rfl, p⟩⟩
  | m + 1, e, s, he => by
    obtain ⟨s1, h1⟩ := hb e s (by omega)
    obtain ⟨s2, h2⟩ := w240_l hb m (e + 1) s1 (by omega)
    refine ⟨s2, fun c n H p => ?_⟩
    obtain ⟨H1, e1, p1⟩ := h1 c n H p
    obtain ⟨H2, e2, p2⟩ := h2 c (n + K) H1 p1
    exact ⟨H2, e1.trans e2, p2.le (by rw [Nat.mul_add]; omega)⟩
set_option maxRecDepth 20000 in
set_option maxRecDepth 20000 in
theorem w240_a {G : zD} {e : Nat} {s : Int64} (he : (e : Int) < G 32 15) (h15 : G 32 15 ≤ 12) : ∃ s' : Int64, ∀ (c n : Nat) (H : zH), St L xs c n G H → ∃ H1, zx 240 54 (smL s (e : Int)) [] H = zx 240 54 (smL s' ((e : Int) + 1)) [] H1 ∧ St L xs c (n + 6) G H1 := by
  refine ⟨?_, fun c n H p => ?_⟩
  rotate_left
  · obtain ⟨-, H1, e1, p1⟩ := p.x51
    obtain ⟨H2, e2, p2⟩ := w228 (x := (e : Int)) p1 ⟨by omega, by omega⟩
    obtain ⟨H3, e3, p3⟩ := w225c (x := (e : Int)) p2 ⟨by omega, by omega⟩
    obtain ⟨H4, e4, p4⟩ := w229a (x := (e : Int)) p3 ⟨by omega, by omega⟩
    obtain ⟨H5, e5, p5⟩ := w229b (x := (e : Int)) p4 ⟨by omega, by omega⟩
    obtain ⟨H6, e6, p6⟩ := w229c (x := (e : Int)) (i := 0) p5 ⟨by omega, by omega⟩ (by omega)
    refine ⟨H6, ?_, p6⟩
    have k3 := p.k3
    clear p p1 p2 p3 p4 p5 p6
    rw [z240_54]
    simp (disch := first | omega | (simp (disch := omega) only [zwr_s, zwr_a, zwr_i, zn_put, zn_new, zn_fil, zn_chg, zV_n]; omega)) only [zentry, zs0, zs1, zs2, zs3, zg_lo, zg_st, zg_st2, zg_ald, zg_ast, zs_ia, zs_i0, zg_ii, zi_max, zi_min, zi_abi, zi_abf, zi_fb, zi_bf, lget, lst, lst2, lc2, Option.map_some, zso, if_true, if_false, zc1, and_true, true_and, and_self, List.length_nil, List.length_cons, Nat.zero_le, reduceIte, reduceCtorEq, false_and, and_false, Bool.false_eq_true, zca_some, zr0, zr100, Option.bind_some, zb_none, zb_some, zrc, or_true, true_or, eq_self, ne_eq, not_true_eq_false, not_false_eq_true, zrt_i, zrt_zb, zrt_b, zrt_c, zrt_l, zrt_f, zrt_r, zrt_n, zrt_v, zft_0, zft_1, zft_zb, zft_3, zft_4, zft_5, zft_7r, zft_7n, iI_t, zb_i, zb_0, zb_1, Nat.reduceAdd, Nat.reduceLeDiff, Nat.reduceEqDiff, Nat.reduceSub, Int.reduceNeg, iI_add, iI_sub, iI_mul, iI_neg, zbz, zchar_id, zin, zwr_s, zwr_a, zwr_i, if_pos, if_neg, Int.toNat_natCast, Int.natCast_zero, Int.reduceToNat, z240_b0, z240_b1, z240_b2, zt1, zt2, zt3, zt4, k3, e1, e2, e3, e4, e5, e6, zg_ldc2, zg_lmul]
    rfl
set_option maxRecDepth 20000 in
set_option maxRecDepth 20000 in
theorem w240_b {G : zD} {e : Nat} {s : Int64} (he : e < (lyF G).2.1.length) (h15 : (lyF G).2.1.length ≤ 116) : ∃ s' : Int64, ∀ (c n : Nat) (H : zH), St L xs c n G H → ∃ H1, zx 240 133 (smL s (e : Int)) [] H = zx 240 133 (smL s' ((e : Int) + 1)) [] H1 ∧ St L xs c (n + 3) G H1 := by
  refine ⟨?_, fun c n H p => ?_⟩
  rotate_left
  · obtain ⟨-, H1, e1, p1⟩ := p.x56
    obtain ⟨H2, e2, p2⟩ := w230_0 (x := (e : Int)) p1 ⟨by omega, by omega⟩
    obtain ⟨H3, e3, p3⟩ := w230_1 (x := (e : Int)) p2 ⟨by omega, by omega⟩
    refine ⟨H3, ?_, p3⟩
    have k3 := p.k3
    clear p p1 p2 p3
    rw [z240_133]
    simp (disch := first | omega | (simp (disch := omega) only [zwr_s, zwr_a, zwr_i, zn_put, zn_new, zn_fil, zn_chg, zV_n]; omega)) only [zentry, zs0, zs1, zs2, zs3, zg_lo, zg_st, zg_st2, zg_ald, zg_ast, zs_ia, zs_i0, zg_ii, zi_max, zi_min, zi_abi, zi_abf, zi_fb, zi_bf, lget, lst, lst2, lc2, Option.map_some, zso, if_true, if_false, zc1, and_true, true_and, and_self, List.length_nil, List.length_cons, Nat.zero_le, reduceIte, reduceCtorEq, false_and, and_false, Bool.false_eq_true, zca_some, zr0, zr100, Option.bind_some, zb_none, zb_some, zrc, or_true, true_or, eq_self, ne_eq, not_true_eq_false, not_false_eq_true, zrt_i, zrt_zb, zrt_b, zrt_c, zrt_l, zrt_f, zrt_r, zrt_n, zrt_v, zft_0, zft_1, zft_zb, zft_3, zft_4, zft_5, zft_7r, zft_7n, iI_t, zb_i, zb_0, zb_1, Nat.reduceAdd, Nat.reduceLeDiff, Nat.reduceEqDiff, Nat.reduceSub, Int.reduceNeg, iI_add, iI_sub, iI_mul, iI_neg, zbz, zchar_id, zin, zwr_s, zwr_a, zwr_i, if_pos, if_neg, Int.toNat_natCast, Int.natCast_zero, Int.reduceToNat, z240_b0, z240_b1, z240_b2, zt1, zt2, zt3, zt4, k3, e1, e2, e3, zg_ldc2, zg_lmul]
    rfl
set_option maxRecDepth 20000 in
set_option maxRecDepth 20000 in
theorem w240_c {G : zD} {e : Nat} {s : Int64} (he : (e : Int) < G 32 7) (h7 : G 32 7 ≤ 12) : ∃ s' : Int64, ∀ (c n : Nat) (H : zH), St L xs c n G H → ∃ H1, zx 240 175 (smL s (e : Int)) [] H = zx 240 175 (smL s' ((e : Int) + 1)) [] H1 ∧ St L xs c (n + 15) G H1 := by
  refine ⟨?_, fun c n H p => ?_⟩
  rotate_left
  · obtain ⟨H1, e1, p1⟩ := w239 p
    obtain ⟨H2, e2, p2⟩ := w223a (x := (e : Int)) p1 ⟨by omega, by omega⟩
    obtain ⟨H3, e3, p3⟩ := w238 (x := (e : Int)) p2 ⟨by omega, by omega⟩
    refine ⟨H3, ?_, p3⟩
    have k3 := p.k3
    clear p p1 p2 p3
    rw [z240_175]
    simp (disch := first | omega | (simp (disch := omega) only [zwr_s, zwr_a, zwr_i, zn_put, zn_new, zn_fil, zn_chg, zV_n]; omega)) only [zentry, zs0, zs1, zs2, zs3, zg_lo, zg_st, zg_st2, zg_ald, zg_ast, zs_ia, zs_i0, zg_ii, zi_max, zi_min, zi_abi, zi_abf, zi_fb, zi_bf, lget, lst, lst2, lc2, Option.map_some, zso, if_true, if_false, zc1, and_true, true_and, and_self, List.length_nil, List.length_cons, Nat.zero_le, reduceIte, reduceCtorEq, false_and, and_false, Bool.false_eq_true, zca_some, zr0, zr100, Option.bind_some, zb_none, zb_some, zrc, or_true, true_or, eq_self, ne_eq, not_true_eq_false, not_false_eq_true, zrt_i, zrt_zb, zrt_b, zrt_c, zrt_l, zrt_f, zrt_r, zrt_n, zrt_v, zft_0, zft_1, zft_zb, zft_3, zft_4, zft_5, zft_7r, zft_7n, iI_t, zb_i, zb_0, zb_1, Nat.reduceAdd, Nat.reduceLeDiff, Nat.reduceEqDiff, Nat.reduceSub, Int.reduceNeg, iI_add, iI_sub, iI_mul, iI_neg, zbz, zchar_id, zin, zwr_s, zwr_a, zwr_i, if_pos, if_neg, Int.toNat_natCast, Int.natCast_zero, Int.reduceToNat, z240_b0, z240_b1, z240_b2, zt1, zt2, zt3, zt4, k3, e1, e2, e3, zg_ldc2, zg_lmul]
    rfl
set_option maxRecDepth 20000 in
set_option maxRecDepth 20000 in
theorem w240_s {G : zD} : ∃ s' : Int64, ∀ (c n : Nat) (H : zH), St L xs c n G H → ∃ H1, zc 240 4 [.ref 3] H = zx 240 54 (smL s' 0) [] H1 ∧ St L xs c (n + 6) G H1 := by
  refine ⟨?_, fun c n H p => ?_⟩
  rotate_left
  · obtain ⟨-, H1, e1, p1⟩ := p.x51
    obtain ⟨-, H2, e2, p2⟩ := p1.x56
    obtain ⟨-, H3, e3, p3⟩ := p2.x72
    obtain ⟨-, H4, e4, p4⟩ := p3.x62
    obtain ⟨-, H5, e5, p5⟩ := p4.x73
    obtain ⟨H6, e6, p6⟩ := w235 p5
    refine ⟨H6, ?_, p6⟩
    have k0 := p.k3
    have k1 := p1.k3
    have k2 := p2.k3
    have k3 := p3.k3
    have k4 := p4.k3
    clear p p1 p2 p3 p4 p5 p6
    rw [zc]
    simp (disch := first | omega | (simp (disch := omega) only [zwr_s, zwr_a, zwr_i, zn_put, zn_new, zn_fil, zn_chg, zV_n]; omega)) only [zentry, zs0, zs1, zs2, zs3, zg_lo, zg_st, zg_st2, zg_ald, zg_ast, zs_ia, zs_i0, zg_ii, zi_max, zi_min, zi_abi, zi_abf, zi_fb, zi_bf, lget, lst, lst2, lc2, Option.map_some, zso, if_true, if_false, zc1, and_true, true_and, and_self, List.length_nil, List.length_cons, Nat.zero_le, reduceIte, reduceCtorEq, false_and, and_false, Bool.false_eq_true, zca_some, zr0, zr100, Option.bind_some, zb_none, zb_some, zrc, or_true, true_or, eq_self, ne_eq, not_true_eq_false, not_false_eq_true, zrt_i, zrt_zb, zrt_b, zrt_c, zrt_l, zrt_f, zrt_r, zrt_n, zrt_v, zft_0, zft_1, zft_zb, zft_3, zft_4, zft_5, zft_7r, zft_7n, iI_t, zb_i, zb_0, zb_1, Nat.reduceAdd, Nat.reduceLeDiff, Nat.reduceEqDiff, Nat.reduceSub, Int.reduceNeg, iI_add, iI_sub, iI_mul, iI_neg, zbz, zchar_id, zin, zwr_s, zwr_a, zwr_i, if_pos, if_neg, Int.toNat_natCast, Int.natCast_zero, Int.reduceToNat, z240_b0, z240_b1, z240_b2, zt1, zt2, zt3, zt4, k0, k1, k2, k3, k4, e1, e2, e3, e4, e5, e6, zg_ldc2, zg_lmul]
    rfl
set_option maxRecDepth 20000 in
theorem w240 {G : zD} {c0 n0 : Nat} {H0 : zH} (p0 : St L xs c0 n0 G H0) : ∃ s : Int64, ∀ (c n : Nat) (H : zH), St L xs c n G H → ∃ H1, zc 240 4 [.ref 3] H = some (.inl (some (.long s)), H1) ∧ St L xs c (n + 700) G H1 := by
  have b := p0.G7
  have l6 := (lyF_ok p0.ok.1).2.1
  obtain ⟨s0, h0⟩ := w240_s (L := L) (xs := xs) (G := G)
  obtain ⟨s1, h1⟩ := w240_l (L := L) (xs := xs) (G := G) (pc := 54) (N := (G 32 15).toNat) (K := 6) (fun e s he => w240_a (by omega) b.2.1.2) (G 32 15).toNat 0 s0 (by omega)
  obtain ⟨s2, h2⟩ := w240_l (L := L) (xs := xs) (G := G) (pc := 133) (N := (lyF G).2.1.length) (K := 3) (fun e s he => w240_b he l6) (lyF G).2.1.length 0 s1 (by omega)
  obtain ⟨s3, h3⟩ := w240_l (L := L) (xs := xs) (G := G) (pc := 175) (N := (G 32 7).toNat) (K := 15) (fun e s he => w240_c (by omega) b.1.2) (G 32 7).toNat 0 s2 (by omega)
  refine ⟨s3, fun c n H p => ?_⟩
  obtain ⟨H1, e1, p1⟩ := h0 c n H p
  obtain ⟨H2, e2, p2⟩ := h1 c _ H1 p1
  obtain ⟨-, H3, e3, p3⟩ := p2.x51
  obtain ⟨H4, e4, p4⟩ := h2 c _ H3 p3
  obtain ⟨-, H5, e5, p5⟩ := p4.x56
  obtain ⟨H6, e6, p6⟩ := h3 c _ H5 p5
  obtain ⟨H7, e7, p7⟩ := w239 p6
  refine ⟨H7, ?_, p7.le (by omega)⟩
  have k2 := p2.k3
  have k4 := p4.k3
  have b1 : ((G 32 15).toNat : Int) = G 32 15 := by omega
  have b2 : ((G 32 7).toNat : Int) = G 32 7 := by omega
  rw [b1] at e2
  rw [b2] at e6
  clear p p1 p2 p3 p4 p5 p6 p7 h0 h1 h2 h3 p0 b1 b2
  have s1' : zx 240 54 (smL s1 (G 32 15)) [] H2 = zx 240 133 (smL s1 0) [] H3 := by
    rw [z240_54]
    simp (disch := first | omega | (simp (disch := omega) only [zwr_s, zwr_a, zwr_i, zn_put, zn_new, zn_fil, zn_chg, zV_n]; omega)) only [zentry, zs0, zs1, zs2, zs3, zg_lo, zg_st, zg_st2, zg_ald, zg_ast, zs_ia, zs_i0, zg_ii, zi_max, zi_min, zi_abi, zi_abf, zi_fb, zi_bf, lget, lst, lst2, lc2, Option.map_some, zso, if_true, if_false, zc1, and_true, true_and, and_self, List.length_nil, List.length_cons, Nat.zero_le, reduceIte, reduceCtorEq, false_and, and_false, Bool.false_eq_true, zca_some, zr0, zr100, Option.bind_some, zb_none, zb_some, zrc, or_true, true_or, eq_self, ne_eq, not_true_eq_false, not_false_eq_true, zrt_i, zrt_zb, zrt_b, zrt_c, zrt_l, zrt_f, zrt_r, zrt_n, zrt_v, zft_0, zft_1, zft_zb, zft_3, zft_4, zft_5, zft_7r, zft_7n, iI_t, zb_i, zb_0, zb_1, Nat.reduceAdd, Nat.reduceLeDiff, Nat.reduceEqDiff, Nat.reduceSub, Int.reduceNeg, iI_add, iI_sub, iI_mul, iI_neg, zbz, zchar_id, zin, zwr_s, zwr_a, zwr_i, if_pos, if_neg, Int.toNat_natCast, Int.natCast_zero, Int.reduceToNat, z240_b0, z240_b1, z240_b2, zt1, k2, e3]
  have s2' : zx 240 133 (smL s2 ((lyF G).2.1.length : Int)) [] H4 = zx 240 175 (smL s2 0) [] H5 := by
    rw [z240_133]
    simp (disch := first | omega | (simp (disch := omega) only [zwr_s, zwr_a, zwr_i, zn_put, zn_new, zn_fil, zn_chg, zV_n]; omega)) only [zentry, zs0, zs1, zs2, zs3, zg_lo, zg_st, zg_st2, zg_ald, zg_ast, zs_ia, zs_i0, zg_ii, zi_max, zi_min, zi_abi, zi_abf, zi_fb, zi_bf, lget, lst, lst2, lc2, Option.map_some, zso, if_true, if_false, zc1, and_true, true_and, and_self, List.length_nil, List.length_cons, Nat.zero_le, reduceIte, reduceCtorEq, false_and, and_false, Bool.false_eq_true, zca_some, zr0, zr100, Option.bind_some, zb_none, zb_some, zrc, or_true, true_or, eq_self, ne_eq, not_true_eq_false, not_false_eq_true, zrt_i, zrt_zb, zrt_b, zrt_c, zrt_l, zrt_f, zrt_r, zrt_n, zrt_v, zft_0, zft_1, zft_zb, zft_3, zft_4, zft_5, zft_7r, zft_7n, iI_t, zb_i, zb_0, zb_1, Nat.reduceAdd, Nat.reduceLeDiff, Nat.reduceEqDiff, Nat.reduceSub, Int.reduceNeg, iI_add, iI_sub, iI_mul, iI_neg, zbz, zchar_id, zin, zwr_s, zwr_a, zwr_i, if_pos, if_neg, Int.toNat_natCast, Int.natCast_zero, Int.reduceToNat, z240_b0, z240_b1, z240_b2, zt1, k4, e5]
  have s3' : zx 240 175 (smL s3 (G 32 7)) [] H6 = some (.inl (some (.long s3)), H7) := by
    rw [z240_175]
    simp (disch := first | omega | (simp (disch := omega) only [zwr_s, zwr_a, zwr_i, zn_put, zn_new, zn_fil, zn_chg, zV_n]; omega)) only [zentry, zs0, zs1, zs2, zs3, zg_lo, zg_st, zg_st2, zg_ald, zg_ast, zs_ia, zs_i0, zg_ii, zi_max, zi_min, zi_abi, zi_abf, zi_fb, zi_bf, lget, lst, lst2, lc2, Option.map_some, zso, if_true, if_false, zc1, and_true, true_and, and_self, List.length_nil, List.length_cons, Nat.zero_le, reduceIte, reduceCtorEq, false_and, and_false, Bool.false_eq_true, zca_some, zr0, zr100, Option.bind_some, zb_none, zb_some, zrc, or_true, true_or, eq_self, ne_eq, not_true_eq_false, not_false_eq_true, zrt_i, zrt_zb, zrt_b, zrt_c, zrt_l, zrt_f, zrt_r, zrt_n, zrt_v, zft_0, zft_1, zft_zb, zft_3, zft_4, zft_5, zft_7r, zft_7n, iI_t, zb_i, zb_0, zb_1, Nat.reduceAdd, Nat.reduceLeDiff, Nat.reduceEqDiff, Nat.reduceSub, Int.reduceNeg, iI_add, iI_sub, iI_mul, iI_neg, zbz, zchar_id, zin, zwr_s, zwr_a, zwr_i, if_pos, if_neg, Int.toNat_natCast, Int.natCast_zero, Int.reduceToNat, z240_b0, z240_b1, z240_b2, zt1, e7]
  rw [e1]
  exact e2.trans (s1'.trans (e4.trans (s2'.trans (e6.trans s3'))))
end WRP

/-! .. the best of them -/
set_option maxRecDepth 20000 in
theorem c15_l {gap lev : Int} {n : Nat} {h : zH} {D : zD} {S : List (List Bool)} (hB : fiB D) (hg : 1 ≤ gap ∧ gap ≤ 3600) (hl : -60 ≤ lev ∧ lev ≤ 0) (h10 : D 14 10 = n) (hn : S.length = n) (h70 : n ≤ 70) (h28 : ∀ k (hk : k < S.length), D 28 k = (maskK 0 S[k] : Nat)) (hS : ∀ b ∈ S, b.length = (D 14 3).toNat ∧ true ∈ b) :
    ∀ (suf pre mid : List (List Bool)) (b : List Bool) (x6 : Option Value), S = pre ++ b :: (mid ++ suf) → (∀ x ∈ pre, keyP (psF D 0 (D 14 3).toNat) gap lev b < keyP (psF D 0 (D 14 3).toNat) gap lev x) → (∀ x ∈ mid, keyP (psF D 0 (D 14 3).toNat) gap lev b ≤ keyP (psF D 0 (D 14 3).toNat) gap lev x) →
    ∃ b' pre' suf', S = pre' ++ b' :: suf' ∧ (∀ x ∈ pre', keyP (psF D 0 (D 14 3).toNat) gap lev b' < keyP (psF D 0 (D 14 3).toNat) gap lev x) ∧ (∀ x ∈ suf', keyP (psF D 0 (D 14 3).toNat) gap lev b' ≤ keyP (psF D 0 (D 14 3).toNat) gap lev x) ∧
      zx 15 53 [some (.ref 14), some (.int (Int32.ofInt gap)), some (.int (Int32.ofInt lev)), some (.int (Int32.ofInt (maskK 0 b : Nat))), some (.float (fdv D (maskK 0 b) gap lev)), some (.int (Int32.ofInt ((pre.length + 1 + mid.length : Nat) : Int))), x6] [] (zV h D) = some (.inl (some (.int (Int32.ofInt (maskK 0 b' : Nat)))), zV h D)
  | [], pre, mid, b, x6, e, h1, h2 => by
    rw [List.append_nil] at e
    refine ⟨b, pre, mid, e, h1, h2, ?_⟩
    have hlen : pre.length + 1 + mid.length = n := by
      rw [← hn, e, List.length_append, List.length_cons]
      omega
    rw [hlen, z15_53]
    generalize fdv D (maskK 0 b) gap lev = F
    generalize maskK 0 b = M
    clear hB hS h28 h1 h2
    simp (disch := first | omega | (simp (disch := omega) only [zwr_s, zwr_a, zwr_i, zn_put, zn_new, zn_fil, zn_chg, zV_n]; omega)) only [zentry, zs0, zs1, zs2, zs3, zg_lo, zg_st, zg_st2, zg_ald, zg_ast, zs_ia, zs_i0, zcs, zg_ii, zi_max, zi_min, zi_abi, zi_abf, zi_fb, zi_bf, lget, lst, lst2, lc2, Option.map_some, zso, if_true, if_false, zc1, and_true, true_and, and_self, List.length_nil, List.length_cons, Nat.zero_le, reduceIte, reduceCtorEq, false_and, and_false, Bool.false_eq_true, zca_some, zr0, zr100, Option.bind_some, zb_none, zb_some, zrc, or_true, true_or, eq_self, ne_eq, not_true_eq_false, not_false_eq_true, zrt_i, zrt_zb, zrt_b, zrt_c, zrt_l, zrt_f, zrt_r, zrt_n, zrt_v, zft_0, zft_1, zft_zb, zft_3, zft_4, zft_5, zft_7r, zft_7n, iI_t, zb_i, zb_0, zb_1, Nat.reduceAdd, Nat.reduceLeDiff, Nat.reduceEqDiff, Nat.reduceSub, Int.reduceNeg, iI_add, iI_sub, iI_mul, iI_neg, iI_n, zbz, zchar_id, zin, zwr_s, zwr_a, zwr_i, if_pos, if_neg, Int.toNat_natCast, Int.natCast_zero, Int.reduceToNat, z15, zc14]
  | x :: suf, pre, mid, b, x6, e, h1, h2 => by
    have e' : S = (pre ++ b :: mid) ++ x :: suf := by
      rw [e]
      simp
    have hlen : pre.length + 1 + mid.length < n := by
      rw [← hn, e, List.length_append, List.length_cons, List.length_append, List.length_cons]
      omega
    have hln : (pre ++ b :: mid).length = pre.length + 1 + mid.length := by
      rw [List.length_append, List.length_cons]
      omega
    have hxb := hS x (by rw [e']; simp)
    have hbb := hS b (by rw [e]; simp)
    have q28 := h28 (pre.length + 1 + mid.length) (by omega)
    have hgx : S[pre.length + 1 + mid.length]'(by omega) = x := by
      have : S[pre.length + 1 + mid.length]? = some x := by
        rw [e', List.getElem?_append_right (by omega), hln, Nat.sub_self]
        rfl
      rw [List.getElem?_eq_getElem (by omega)] at this
      exact Option.some.inj this
    rw [hgx] at q28
    have hn3 := hB.1
    have mx := mk_lt x 0 (by omega)
    have e14 := c14 (m := maskK 0 x) (h := h) hB mx hg hl
    have mnz := mk_nz hbb.2 (by omega)
    have hlt := fl_lt (fdv_nn hB (m := maskK 0 x) (lev := lev) hg) (fdv_nn hB (m := maskK 0 b) (lev := lev) hg) .g
    rw [keyP_f hB hg hxb.1, keyP_f hB hg hbb.1] at hlt
    by_cases g : keyP (psF D 0 (D 14 3).toNat) gap lev x < keyP (psF D 0 (D 14 3).toNat) gap lev b
    · obtain ⟨b', pre', suf', f1, f2, f3, f4⟩ := c15_l hB hg hl h10 hn h70 h28 hS suf (pre ++ b :: mid) [] x (some (.float (fdv D (maskK 0 x) gap lev))) e' (fun y hy => by
        rcases List.mem_append.mp hy with hy | hy
        · exact Int.lt_trans g (h1 y hy)
        · rcases List.mem_cons.mp hy with rfl | hy
          · exact g
          · exact Int.lt_of_lt_of_le g (h2 y hy)) (fun y hy => by cases hy)
      refine ⟨b', pre', suf', f1, f2, f3, ?_⟩
      rw [← f4, hln]
      have hlt : (Op.cmpValue (FP.fcmp (fdv D (maskK 0 x) gap lev) (fdv D (maskK 0 b) gap lev)) .g).toInt < 0 := by rw [hlt]; exact g
      have ek : ((pre.length + 1 + mid.length : Nat) : Int) + 1 = ((pre.length + 1 + mid.length + 1 + ([] : List (List Bool)).length : Nat) : Int) := by
        show _ = ((pre.length + 1 + mid.length + 1 + 0 : Nat) : Int)
        omega
      conv => lhs; rw [z15_53]
      have mb := mk_lt b 0 (by omega)
      clear f1 f2 f3 f4 e e' h1 h2 hgx hS h28 hB hxb hbb g hln
      rw [← ek]
      clear ek
      generalize pre.length + 1 + mid.length = k at *
      generalize fdv D (maskK 0 x) gap lev = F at *
      generalize fdv D (maskK 0 b) gap lev = F2 at *
      generalize maskK 0 x = M at *
      generalize maskK 0 b = M2 at *
      have mb : M2 < 256 := mb
      simp (disch := first | omega | (simp (disch := omega) only [zwr_s, zwr_a, zwr_i, zn_put, zn_new, zn_fil, zn_chg, zV_n]; omega)) only [zentry, zs0, zs1, zs2, zs3, zg_lo, zg_st, zg_st2, zg_ald, zg_ast, zs_ia, zs_i0, zcs, zg_ii, zi_max, zi_min, zi_abi, zi_abf, zi_fb, zi_bf, lget, lst, lst2, lc2, Option.map_some, zso, if_true, if_false, zc1, and_true, true_and, and_self, List.length_nil, List.length_cons, Nat.zero_le, reduceIte, reduceCtorEq, false_and, and_false, Bool.false_eq_true, zca_some, zr0, zr100, Option.bind_some, zb_none, zb_some, zrc, or_true, true_or, eq_self, ne_eq, not_true_eq_false, not_false_eq_true, zrt_i, zrt_zb, zrt_b, zrt_c, zrt_l, zrt_f, zrt_r, zrt_n, zrt_v, zft_0, zft_1, zft_zb, zft_3, zft_4, zft_5, zft_7r, zft_7n, iI_t, zb_i, zb_0, zb_1, Nat.reduceAdd, Nat.reduceLeDiff, Nat.reduceEqDiff, Nat.reduceSub, Int.reduceNeg, iI_add, iI_sub, iI_mul, iI_neg, iI_n, zbz, zchar_id, zin, zwr_s, zwr_a, zwr_i, if_pos, if_neg, Int.toNat_natCast, Int.natCast_zero, Int.reduceToNat, z15, e14, q28, hlt, zt4, zc14, zc28]
    · obtain ⟨b', pre', suf', f1, f2, f3, f4⟩ := c15_l hB hg hl h10 hn h70 h28 hS suf pre (mid ++ [x]) b (some (.float (fdv D (maskK 0 x) gap lev))) (by rw [e]; simp) h1 (fun y hy => by
        rcases List.mem_append.mp hy with hy | hy
        · exact h2 y hy
        · cases List.mem_singleton.mp hy
          omega)
      refine ⟨b', pre', suf', f1, f2, f3, ?_⟩
      have hlt : ¬ (Op.cmpValue (FP.fcmp (fdv D (maskK 0 x) gap lev) (fdv D (maskK 0 b) gap lev)) .g).toInt < 0 := by rw [hlt]; exact g
      have ek : ((pre.length + 1 + (mid ++ [x]).length : Nat) : Int) = ((pre.length + 1 + mid.length : Nat) : Int) + 1 := by
        rw [List.length_append]
        show ((pre.length + 1 + (mid.length + 1) : Nat) : Int) = _
        omega
      rw [← f4, ek]
      conv => lhs; rw [z15_53]
      have mb := mk_lt b 0 (by omega)
      clear f1 f2 f3 f4 e e' h1 h2 hgx hS h28 hB hxb hbb g hln ek
      generalize pre.length + 1 + mid.length = k at *
      generalize fdv D (maskK 0 x) gap lev = F at *
      generalize fdv D (maskK 0 b) gap lev = F2 at *
      generalize maskK 0 x = M at *
      generalize maskK 0 b = M2 at *
      have mb : M2 < 256 := mb
      simp (disch := first | omega | (simp (disch := omega) only [zwr_s, zwr_a, zwr_i, zn_put, zn_new, zn_fil, zn_chg, zV_n]; omega)) only [zentry, zs0, zs1, zs2, zs3, zg_lo, zg_st, zg_st2, zg_ald, zg_ast, zs_ia, zs_i0, zcs, zg_ii, zi_max, zi_min, zi_abi, zi_abf, zi_fb, zi_bf, lget, lst, lst2, lc2, Option.map_some, zso, if_true, if_false, zc1, and_true, true_and, and_self, List.length_nil, List.length_cons, Nat.zero_le, reduceIte, reduceCtorEq, false_and, and_false, Bool.false_eq_true, zca_some, zr0, zr100, Option.bind_some, zb_none, zb_some, zrc, or_true, true_or, eq_self, ne_eq, not_true_eq_false, not_false_eq_true, zrt_i, zrt_zb, zrt_b, zrt_c, zrt_l, zrt_f, zrt_r, zrt_n, zrt_v, zft_0, zft_1, zft_zb, zft_3, zft_4, zft_5, zft_7r, zft_7n, iI_t, zb_i, zb_0, zb_1, Nat.reduceAdd, Nat.reduceLeDiff, Nat.reduceEqDiff, Nat.reduceSub, Int.reduceNeg, iI_add, iI_sub, iI_mul, iI_neg, iI_n, zbz, zchar_id, zin, zwr_s, zwr_a, zwr_i, if_pos, if_neg, Int.toNat_natCast, Int.natCast_zero, Int.reduceToNat, z15, e14, q28, hlt, zt4, zc14, zc28]

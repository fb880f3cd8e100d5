/-! lists: single methods -/
theorem zc10n : ((10 : Nat) : Int) = 10 := rfl
theorem n10 : Int32.ofNat 10 = Int32.ofInt 10 := rfl
theorem n0 : Int32.ofNat 0 = Int32.ofInt 0 := rfl
theorem zc15n : ((15 : Nat) : Int) = 15 := rfl
set_option maxRecDepth 20000 in
theorem c175 {h : zH} {X D : zD} {a : Nat} (ha : a = 4 ∨ a = 5 ∨ 70 ≤ a) (hk : zk h a = 7) : zc 175 1 [.ref a] (zV (zU h X) D) = some (.inl (some (.int (Int32.ofInt (X a 2)))), zV (zU h X) D) := by
  rw [zc]
  simp (disch := first | omega | (simp (disch := omega) only [zwr_s, zwr_a, zwr_i, zn_put, zn_new, zn_fil, zn_chg, zV_n]; omega)) only [zentry, zs0, zs1, zs2, zs3, zg_lo, zg_st, zg_st2, zg_ald, zg_ast, zs_ia, zs_i0, zcs, zg_ii, zi_max, zi_min, zi_abi, zi_abf, zi_fb, zi_bf, lget, lst, lst2, lc2, Option.map_some, zso, if_true, if_false, zc1, and_true, true_and, and_self, List.length_nil, List.length_cons, Nat.zero_le, reduceIte, reduceCtorEq, false_and, and_false, Bool.false_eq_true, zca_some, zr0, zr100, Option.bind_some, zb_none, zb_some, zrc, or_true, true_or, eq_self, ne_eq, not_true_eq_false, not_false_eq_true, zrt_i, zrt_zb, zrt_b, zrt_c, zrt_l, zrt_f, zrt_r, zrt_n, zrt_v, zft_0, zft_1, zft_zb, zft_3, zft_4, zft_5, zft_7r, zft_7n, iI_t, zb_i, zb_0, zb_1, Nat.reduceAdd, Nat.reduceLeDiff, Nat.reduceEqDiff, Nat.reduceSub, Int.reduceNeg, iI_add, iI_sub, iI_mul, iI_neg, iI_n, zbz, zchar_id, zin, zwr_s, zwr_a, zwr_i, if_pos, if_neg, Int.toNat_natCast, Int.natCast_zero, Int.reduceToNat, z175, zuL ha hk]
set_option maxRecDepth 20000 in
theorem c177 {i n : Int} {h : zH} (hi : 0 ≤ i ∧ i < n) (hn : n ≤ 1000) : zc 177 3 [.int (Int32.ofInt i), .int (Int32.ofInt n), .null] h = some (.inl (some (.int (Int32.ofInt i))), h) := by
  rw [zc]
  simp (disch := first | omega | (simp (disch := omega) only [zwr_s, zwr_a, zwr_i, zn_put, zn_new, zn_fil, zn_chg, zV_n]; omega)) only [zentry, zs0, zs1, zs2, zs3, zg_lo, zg_st, zg_st2, zg_ald, zg_ast, zs_ia, zs_i0, zcs, zg_ii, zi_max, zi_min, zi_abi, zi_abf, zi_fb, zi_bf, lget, lst, lst2, lc2, Option.map_some, zso, if_true, if_false, zc1, and_true, true_and, and_self, List.length_nil, List.length_cons, Nat.zero_le, reduceIte, reduceCtorEq, false_and, and_false, Bool.false_eq_true, zca_some, zr0, zr100, Option.bind_some, zb_none, zb_some, zrc, or_true, true_or, eq_self, ne_eq, not_true_eq_false, not_false_eq_true, zrt_i, zrt_zb, zrt_b, zrt_c, zrt_l, zrt_f, zrt_r, zrt_n, zrt_v, zft_0, zft_1, zft_zb, zft_3, zft_4, zft_5, zft_7r, zft_7n, iI_t, zb_i, zb_0, zb_1, Nat.reduceAdd, Nat.reduceLeDiff, Nat.reduceEqDiff, Nat.reduceSub, Int.reduceNeg, iI_add, iI_sub, iI_mul, iI_neg, iI_n, zbz, zchar_id, zin, zwr_s, zwr_a, zwr_i, if_pos, if_neg, Int.toNat_natCast, Int.natCast_zero, Int.reduceToNat, z177]
set_option maxRecDepth 20000 in
theorem c176 {i n : Int} {h : zH} (hi : 0 ≤ i ∧ i < n) (hn : n ≤ 1000) : zc 176 2 [.int (Int32.ofInt i), .int (Int32.ofInt n)] h = some (.inl (some (.int (Int32.ofInt i))), h) := by
  have e := c177 (h := h) hi hn
  rw [zc]
  simp (disch := first | omega | (simp (disch := omega) only [zwr_s, zwr_a, zwr_i, zn_put, zn_new, zn_fil, zn_chg, zV_n]; omega)) only [zentry, zs0, zs1, zs2, zs3, zg_lo, zg_st, zg_st2, zg_ald, zg_ast, zs_ia, zs_i0, zcs, zg_ii, zi_max, zi_min, zi_abi, zi_abf, zi_fb, zi_bf, lget, lst, lst2, lc2, Option.map_some, zso, if_true, if_false, zc1, and_true, true_and, and_self, List.length_nil, List.length_cons, Nat.zero_le, reduceIte, reduceCtorEq, false_and, and_false, Bool.false_eq_true, zca_some, zr0, zr100, Option.bind_some, zb_none, zb_some, zrc, or_true, true_or, eq_self, ne_eq, not_true_eq_false, not_false_eq_true, zrt_i, zrt_zb, zrt_b, zrt_c, zrt_l, zrt_f, zrt_r, zrt_n, zrt_v, zft_0, zft_1, zft_zb, zft_3, zft_4, zft_5, zft_7r, zft_7n, iI_t, zb_i, zb_0, zb_1, Nat.reduceAdd, Nat.reduceLeDiff, Nat.reduceEqDiff, Nat.reduceSub, Int.reduceNeg, iI_add, iI_sub, iI_mul, iI_neg, iI_n, zbz, zchar_id, zin, zwr_s, zwr_a, zwr_i, if_pos, if_neg, Int.toNat_natCast, Int.natCast_zero, Int.reduceToNat, z176, e, zt3]
set_option maxRecDepth 20000 in
theorem c172 {h : zH} {X D : zD} {a d : Nat} {i : Int} (ha : a = 4 ∨ a = 5 ∨ 70 ≤ a) (hk : zk h a = 7) (hd : X a 1 = d) (h70 : 70 ≤ d) (hkd : zk h d = 26) (hi : 0 ≤ i ∧ i < zl h d) (hl : zl h d ≤ 100) (he : 0 ≤ X d i.toNat) : zc 172 2 [.ref a, .int (Int32.ofInt i)] (zV (zU h X) D) = some (.inl (some (.ref (X d i.toNat).toNat)), zV (zU h X) D) := by
  rw [zc]
  simp (disch := first | omega | (simp (disch := omega) only [zwr_s, zwr_a, zwr_i, zn_put, zn_new, zn_fil, zn_chg, zV_n]; omega)) only [zentry, zs0, zs1, zs2, zs3, zg_lo, zg_st, zg_st2, zg_ald, zg_ast, zs_ia, zs_i0, zcs, zg_ii, zi_max, zi_min, zi_abi, zi_abf, zi_fb, zi_bf, lget, lst, lst2, lc2, Option.map_some, zso, if_true, if_false, zc1, and_true, true_and, and_self, List.length_nil, List.length_cons, Nat.zero_le, reduceIte, reduceCtorEq, false_and, and_false, Bool.false_eq_true, zca_some, zr0, zr100, Option.bind_some, zb_none, zb_some, zrc, or_true, true_or, eq_self, ne_eq, not_true_eq_false, not_false_eq_true, zrt_i, zrt_zb, zrt_b, zrt_c, zrt_l, zrt_f, zrt_r, zrt_n, zrt_v, zft_0, zft_1, zft_zb, zft_3, zft_4, zft_5, zft_7r, zft_7n, iI_t, zb_i, zb_0, zb_1, Nat.reduceAdd, Nat.reduceLeDiff, Nat.reduceEqDiff, Nat.reduceSub, Int.reduceNeg, iI_add, iI_sub, iI_mul, iI_neg, iI_n, zbz, zchar_id, zin, zwr_s, zwr_a, zwr_i, if_pos, if_neg, Int.toNat_natCast, Int.natCast_zero, Int.reduceToNat, z172, zuL ha hk, zuA h70 hkd, hd]
set_option maxRecDepth 20000 in
theorem c171_d {h : zH} {X D : zD} {a d : Nat} {i : Int} (ha : a = 4 ∨ a = 5 ∨ 70 ≤ a) (hk : zk h a = 7) (hd : X a 1 = d) (h70 : 70 ≤ d) (hkd : zk h d = 26) (hi : 0 ≤ i ∧ i < X a 2) (hn : X a 2 ≤ zl h d) (hl : zl h d ≤ 100) (he : 0 ≤ X d i.toNat) : zc 171 2 [.ref a, .int (Int32.ofInt i)] (zV (zU h X) D) = some (.inl (some (.ref (X d i.toNat).toNat)), zV (zU h X) D) := by
  have e1 := c176 (i := i) (n := X a 2) (h := zV (zU h X) D) hi (by omega)
  have e2 := c172 (i := i) (D := D) ha hk hd h70 hkd (by omega) hl he
  rw [zc]
  simp (disch := first | omega | (simp (disch := omega) only [zwr_s, zwr_a, zwr_i, zn_put, zn_new, zn_fil, zn_chg, zV_n]; omega)) only [zentry, zs0, zs1, zs2, zs3, zg_lo, zg_st, zg_st2, zg_ald, zg_ast, zs_ia, zs_i0, zcs, zg_ii, zi_max, zi_min, zi_abi, zi_abf, zi_fb, zi_bf, lget, lst, lst2, lc2, Option.map_some, zso, if_true, if_false, zc1, and_true, true_and, and_self, List.length_nil, List.length_cons, Nat.zero_le, reduceIte, reduceCtorEq, false_and, and_false, Bool.false_eq_true, zca_some, zr0, zr100, Option.bind_some, zb_none, zb_some, zrc, or_true, true_or, eq_self, ne_eq, not_true_eq_false, not_false_eq_true, zrt_i, zrt_zb, zrt_b, zrt_c, zrt_l, zrt_f, zrt_r, zrt_n, zrt_v, zft_0, zft_1, zft_zb, zft_3, zft_4, zft_5, zft_7r, zft_7n, iI_t, zb_i, zb_0, zb_1, Nat.reduceAdd, Nat.reduceLeDiff, Nat.reduceEqDiff, Nat.reduceSub, Int.reduceNeg, iI_add, iI_sub, iI_mul, iI_neg, iI_n, zbz, zchar_id, zin, zwr_s, zwr_a, zwr_i, if_pos, if_neg, Int.toNat_natCast, Int.natCast_zero, Int.reduceToNat, z171, zuL ha hk, e1, e2, zt2]
/-! .. growing -/
set_option maxRecDepth 20000 in
theorem c178 {h : zH} : zc 178 4 [.int (Int32.ofInt 10), .int (Int32.ofInt 1), .int (Int32.ofInt 5)] h = some (.inl (some (.int (Int32.ofInt 15))), h) := by
  have e1 : max (1 : Int) 5 = 5 := by decide
  have e2 : (10 : Int) + 5 = 15 := by decide
  rw [zc]
  have e3 : (Int32.ofNat 2147483639).toInt = 2147483639 := by decide
  simp (disch := first | omega | (simp (disch := omega) only [zwr_s, zwr_a, zwr_i, zn_put, zn_new, zn_fil, zn_chg, zV_n]; omega)) only [zentry, zs0, zs1, zs2, zs3, zg_lo, zg_st, zg_st2, zg_ald, zg_ast, zs_ia, zs_i0, zg_ii, zi_max, zi_min, zi_abi, zi_abf, zi_fb, zi_bf, lget, lst, lst2, lc2, Option.map_some, zso, if_true, if_false, zc1, and_true, true_and, and_self, List.length_nil, List.length_cons, Nat.zero_le, reduceIte, reduceCtorEq, false_and, and_false, Bool.false_eq_true, zca_some, zr0, zr100, Option.bind_some, zb_none, zb_some, zrc, or_true, true_or, eq_self, ne_eq, not_true_eq_false, not_false_eq_true, zrt_i, zrt_zb, zrt_b, zrt_c, zrt_l, zrt_f, zrt_r, zrt_n, zrt_v, zft_0, zft_1, zft_zb, zft_3, zft_4, zft_5, zft_7r, zft_7n, iI_t, zb_i, zb_0, zb_1, Nat.reduceAdd, Nat.reduceLeDiff, Nat.reduceEqDiff, Nat.reduceSub, Int.reduceNeg, iI_add, iI_sub, iI_mul, iI_neg, zbz, zchar_id, zin, zwr_s, zwr_a, zwr_i, if_pos, if_neg, Int.toNat_natCast, Int.natCast_zero, Int.reduceToNat, z178, e1, e2, e3]
set_option maxRecDepth 20000 in
theorem c180 {h : zH} {X D : zD} {d : Nat} (h70 : 70 ≤ d) (hdn : d < zn h) (hkd : zk h d = 26) (hl : zl h d = 10) (he : ∀ i : Nat, i < 10 → 70 ≤ X d i ∧ X d i < zn h ∧ zk h (X d i).toNat < 20) :
    zc 180 4 [.ref d, .int (Int32.ofInt 15), .ref 2] (zV (zU h X) D) = some (.inl (some (.ref (zn h))), zV (zU (znew h 26 15 (fun _ => .null)) (zcp (zrw X (zn h) (fun _ => -1)) d 0 (zn h) 0 10)) D) := by
  have hn : 70 ≤ zn h := by omega
  have kd : zk (znew h 26 15 (fun _ => .null)) d = 26 := by rw [zk_new, if_neg (by omega)]; exact hkd
  have ld : zl (znew h 26 15 (fun _ => .null)) d = 10 := by rw [zl_new, if_neg (by omega)]; exact hl
  have kn : zk (znew h 26 15 (fun _ => .null)) (zn h) = 26 := by rw [zk_new, if_pos rfl]
  have ln : zl (znew h 26 15 (fun _ => .null)) (zn h) = 15 := by rw [zl_new, if_pos rfl]
  have ecp := fun nx ls st => zg_cp (k := 180) (nx := nx) (ls := ls) (st := st) (D := D) (X := zrw X (zn h) (fun _ => -1)) (sp := 0) (dp := 0) (n := 10) h70 hn kd kn (by omega) (by omega) (by omega) (fun i _ hi => by
    have := he i (by omega)
    rw [zrw_a (by omega), zk_new, if_neg (by omega)]
    exact ⟨this.1, this.2.2⟩)
  have e1 : min (10 : Int) 15 = 10 := by decide
  have nw := zW_newA (h := h) (X := X) (D := D) (n := 15) hn
  rw [zc]
  clear he
  simp (disch := first | omega | (simp (disch := omega) only [zwr_s, zwr_a, zwr_i, zn_put, zn_new, zn_fil, zn_chg, zV_n]; omega)) only [zentry, zs0, zs1, zs2, zs3, zg_lo, zg_st, zg_st2, zg_ald, zg_ast, zs_ia, zs_i0, zg_ii, zi_max, zi_min, zi_abi, zi_abf, zi_fb, zi_bf, lget, lst, lst2, lc2, Option.map_some, zso, if_true, if_false, zc1, and_true, true_and, and_self, List.length_nil, List.length_cons, Nat.zero_le, reduceIte, reduceCtorEq, false_and, and_false, Bool.false_eq_true, zca_some, zr0, zr100, Option.bind_some, zb_none, zb_some, zrc, or_true, true_or, eq_self, ne_eq, not_true_eq_false, not_false_eq_true, zrt_i, zrt_zb, zrt_b, zrt_c, zrt_l, zrt_f, zrt_r, zrt_n, zrt_v, zft_0, zft_1, zft_zb, zft_3, zft_4, zft_5, zft_7r, zft_7n, iI_t, zb_i, zb_0, zb_1, Nat.reduceAdd, Nat.reduceLeDiff, Nat.reduceEqDiff, Nat.reduceSub, Int.reduceNeg, iI_add, iI_sub, iI_mul, iI_neg, zbz, zchar_id, zin, zwr_s, zwr_a, zwr_i, if_pos, if_neg, Int.toNat_natCast, Int.natCast_zero, Int.reduceToNat, z180, zuA h70 kd, ld, ecp, nw, zW_n, e1, zc10n, n10]
set_option maxRecDepth 20000 in
theorem c179 {h : zH} {X D : zD} {d : Nat} (h70 : 70 ≤ d) (hdn : d < zn h) (hkd : zk h d = 26) (hl : zl h d = 10) (he : ∀ i : Nat, i < 10 → 70 ≤ X d i ∧ X d i < zn h ∧ zk h (X d i).toNat < 20) :
    zc 179 2 [.ref d, .int (Int32.ofInt 15)] (zV (zU h X) D) = some (.inl (some (.ref (zn h))), zV (zU (znew h 26 15 (fun _ => .null)) (zcp (zrw X (zn h) (fun _ => -1)) d 0 (zn h) 0 10)) D) := by
  have e := c180 (D := D) h70 hdn hkd hl he
  have kv : zk (zV (zU h X) D) d = 26 := by rw [zW_k (by omega)]; exact hkd
  have ei : ∀ (nx : Nat) (ls : zL) (st : zS), zgo 179 (zinv [1] nx ls (.ref d :: st) (zV (zU h X) D)) = if st.length ≤ 4 then zx 179 nx ls (.ref 2 :: st) (zV (zU h X) D) else none := fun nx ls st => by
    show zgo 179 (if _ then _ else _) = _
    by_cases g : st.length ≤ 4
    · rw [if_pos ⟨g, kv⟩, if_pos g]
      rfl
    · rw [if_neg (fun q => g q.1), if_neg g]
      rfl
  rw [zc]
  clear he
  simp (disch := first | omega | (simp (disch := omega) only [zwr_s, zwr_a, zwr_i, zn_put, zn_new, zn_fil, zn_chg, zV_n]; omega)) only [zentry, zs0, zs1, zs2, zs3, zg_lo, zg_st, zg_st2, zg_ald, zg_ast, zs_ia, zs_i0, zcs, zg_ii, zi_max, zi_min, zi_abi, zi_abf, zi_fb, zi_bf, lget, lst, lst2, lc2, Option.map_some, zso, if_true, if_false, zc1, and_true, true_and, and_self, List.length_nil, List.length_cons, Nat.zero_le, reduceIte, reduceCtorEq, false_and, and_false, Bool.false_eq_true, zca_some, zr0, zr100, Option.bind_some, zb_none, zb_some, zrc, or_true, true_or, eq_self, ne_eq, not_true_eq_false, not_false_eq_true, zrt_i, zrt_zb, zrt_b, zrt_c, zrt_l, zrt_f, zrt_r, zrt_n, zrt_v, zft_0, zft_1, zft_zb, zft_3, zft_4, zft_5, zft_7r, zft_7n, iI_t, zb_i, zb_0, zb_1, Nat.reduceAdd, Nat.reduceLeDiff, Nat.reduceEqDiff, Nat.reduceSub, Int.reduceNeg, iI_add, iI_sub, iI_mul, iI_neg, iI_n, zbz, zchar_id, zin, zwr_s, zwr_a, zwr_i, if_pos, if_neg, Int.toNat_natCast, Int.natCast_zero, Int.reduceToNat, z179, e, ei, zt3]
set_option maxRecDepth 20000 in
/-- an empty list gets its first array -/
theorem c169e {h : zH} {X D : zD} {a : Nat} (ha : a = 4 ∨ a = 5 ∨ 70 ≤ a) (han : a < zn h) (hn : 70 ≤ zn h) (hk : zk h a = 7) (k1 : zk h 1 = 31) (l1 : zl h 1 = 0) (hd : X a 1 = 1) :
    zc 169 4 [.ref a, .int (Int32.ofInt 1)] (zV (zU h X) D) = some (.inl (some (.ref (zn h))), zV (zU (znew h 26 10 (fun _ => .null)) (zwr (zrw X (zn h) (fun _ => -1)) a 1 (zn h))) D) := by
  have nw := zW_newA (h := h) (X := X) (D := D) (n := 10) hn
  have k7 : zk (znew h 26 10 (fun _ => .null)) a = 7 := by rw [zk_new, if_neg (by omega)]; exact hk
  have v1 : zk (zV (zU h X) D) 1 = 31 := by rw [zV_k (by omega)]; exact k1
  have v2 : zl (zV (zU h X) D) 1 = 0 := by rw [zV_l (by omega)]; exact l1
  have e1 : max (10 : Int) 1 = 10 := by decide
  rw [zc]
  simp (disch := first | omega | (simp (disch := omega) only [zwr_s, zwr_a, zwr_i, zn_put, zn_new, zn_fil, zn_chg, zV_n]; omega)) only [zentry, zs0, zs1, zs2, zs3, zg_lo, zg_st, zg_st2, zg_ald, zg_ast, zs_ia, zs_i0, zg_ii, zi_max, zi_min, zi_abi, zi_abf, zi_fb, zi_bf, lget, lst, lst2, lc2, Option.map_some, zso, if_true, if_false, zc1, and_true, true_and, and_self, List.length_nil, List.length_cons, Nat.zero_le, reduceIte, reduceCtorEq, false_and, and_false, Bool.false_eq_true, zca_some, zr0, zr100, Option.bind_some, zb_none, zb_some, zrc, or_true, true_or, eq_self, ne_eq, not_true_eq_false, not_false_eq_true, zrt_i, zrt_zb, zrt_b, zrt_c, zrt_l, zrt_f, zrt_r, zrt_n, zrt_v, zft_0, zft_1, zft_zb, zft_3, zft_4, zft_5, zft_7r, zft_7n, iI_t, zb_i, zb_0, zb_1, Nat.reduceAdd, Nat.reduceLeDiff, Nat.reduceEqDiff, Nat.reduceSub, Int.reduceNeg, iI_add, iI_sub, iI_mul, iI_neg, zbz, zchar_id, zin, zwr_s, zwr_a, zwr_i, if_pos, if_neg, Int.toNat_natCast, Int.natCast_zero, Int.reduceToNat, z169, zuL ha hk, zuL ha k7, v1, v2, hd, nw, zW_n, e1, n0]
set_option maxRecDepth 20000 in
theorem c169f {h : zH} {X D : zD} {a d : Nat} (ha : a = 4 ∨ a = 5 ∨ 70 ≤ a) (han : a < zn h) (hk : zk h a = 7) (hd : X a 1 = d) (h70 : 70 ≤ d) (hdn : d < zn h) (hkd : zk h d = 26) (hl : zl h d = 10) (he : ∀ i : Nat, i < 10 → 70 ≤ X d i ∧ X d i < zn h ∧ zk h (X d i).toNat < 20) :
    zc 169 4 [.ref a, .int (Int32.ofInt 11)] (zV (zU h X) D) = some (.inl (some (.ref (zn h))), zV (zU (znew h 26 15 (fun _ => .null)) (zwr (zcp (zrw X (zn h) (fun _ => -1)) d 0 (zn h) 0 10) a 1 (zn h))) D) := by
  have k7 : zk (znew h 26 15 (fun _ => .null)) a = 7 := by rw [zk_new, if_neg (by omega)]; exact hk
  have e := c179 (D := D) h70 hdn hkd hl he
  have e8 := c178 (h := zV (zU h X) D)
  have e1 : (11 : Int) - 10 = 1 := by decide
  have e5 : Int32.ofInt 10 >>> (Int32.ofInt 1 &&& 31) = Int32.ofInt 5 := by decide
  rw [zc]
  clear he
  simp (disch := first | omega | (simp (disch := omega) only [zwr_s, zwr_a, zwr_i, zn_put, zn_new, zn_fil, zn_chg, zV_n]; omega)) only [zentry, zs0, zs1, zs2, zs3, zg_lo, zg_st, zg_st2, zg_ald, zg_ast, zs_ia, zs_i0, zg_ii, zi_max, zi_min, zi_abi, zi_abf, zi_fb, zi_bf, lget, lst, lst2, lc2, Option.map_some, zso, if_true, if_false, zc1, and_true, true_and, and_self, List.length_nil, List.length_cons, Nat.zero_le, reduceIte, reduceCtorEq, false_and, and_false, Bool.false_eq_true, zca_some, zr0, zr100, Option.bind_some, zb_none, zb_some, zrc, or_true, true_or, eq_self, ne_eq, not_true_eq_false, not_false_eq_true, zrt_i, zrt_zb, zrt_b, zrt_c, zrt_l, zrt_f, zrt_r, zrt_n, zrt_v, zft_0, zft_1, zft_zb, zft_3, zft_4, zft_5, zft_7r, zft_7n, iI_t, zb_i, zb_0, zb_1, Nat.reduceAdd, Nat.reduceLeDiff, Nat.reduceEqDiff, Nat.reduceSub, Int.reduceNeg, iI_add, iI_sub, iI_mul, iI_neg, zbz, zchar_id, zin, zwr_s, zwr_a, zwr_i, if_pos, if_neg, Int.toNat_natCast, Int.natCast_zero, Int.reduceToNat, z169, zuL ha hk, zuL ha k7, zuA h70 hkd, hl, hd, e, e8, e1, e5, zt2, zt3, zc10n, n10]

/-! .. a list and its elements -/
/-- the list at a has n elements of kind K; place 100 of its array names it -/
def lsO (h : zH) (X : zD) (a : Nat) (n : Int) (K : Nat) : Prop := (zk h a = 7 ∧ X a 2 = n ∧ 0 ≤ n) ∧ ((n = 0 ∧ X a 1 = 1) ∨ ((70 ≤ X a 1 ∧ X a 1 < zn h) ∧ zk h (X a 1).toNat = 26 ∧ n ≤ zl h (X a 1).toNat ∧ (zl h (X a 1).toNat = 10 ∨ zl h (X a 1).toNat = 15) ∧ X (X a 1).toNat 100 = a)) ∧ ∀ i : Nat, (i : Int) < n → 70 ≤ X (X a 1).toNat i ∧ X (X a 1).toNat i < zn h ∧ zk h (X (X a 1).toNat i).toNat = K
/-- an element -/
def lsE (X : zD) (a i : Nat) : Nat := (X (X a 1).toNat i).toNat
theorem c171 {h : zH} {X D : zD} {a K : Nat} {n i : Int} (ha : a = 4 ∨ a = 5 ∨ 70 ≤ a) (hl : lsO h X a n K) (hi : 0 ≤ i ∧ i < n) : zc 171 2 [.ref a, .int (Int32.ofInt i)] (zV (zU h X) D) = some (.inl (some (.ref (lsE X a i.toNat))), zV (zU h X) D) := by
  obtain ⟨⟨h1, h2, h3⟩, h4, h5⟩ := hl
  rcases h4 with h4 | ⟨q1, q2, q3, q4, q5⟩
  · omega
  · have := h5 i.toNat (by omega)
    exact c171_d ha h1 (d := (X a 1).toNat) (by omega) (by omega) q2 (by omega) (by omega) (by omega) (by omega)
/-- shapes stay; at most so many cells and slots more -/
def shX (h h' : zH) (c s : Nat) : Prop := zn h ≤ zn h' ∧ (zuc h ≤ zuc h' ∧ zuc h' ≤ zuc h + c) ∧ (zus h ≤ zus h' ∧ zus h' ≤ zus h + s) ∧ ∀ a, a < zn h → zk h' a = zk h a ∧ zl h' a = zl h a ∧ zm h' a = zm h a
theorem shX.rf {h : zH} : shX h h 0 0 := ⟨Nat.le_refl _, ⟨Nat.le_refl _, Nat.le_refl _⟩, ⟨Nat.le_refl _, Nat.le_refl _⟩, fun _ _ => ⟨rfl, rfl, rfl⟩⟩
theorem shX.tr {h h1 h2 : zH} {c1 s1 c2 s2 : Nat} (a : shX h h1 c1 s1) (b : shX h1 h2 c2 s2) : shX h h2 (c1 + c2) (s1 + s2) := by
  obtain ⟨a1, a2, a3, a4⟩ := a
  obtain ⟨b1, b2, b3, b4⟩ := b
  refine ⟨by omega, by omega, by omega, fun x hx => ?_⟩
  obtain ⟨p1, p2, p3⟩ := a4 x hx
  obtain ⟨q1, q2, q3⟩ := b4 x (by omega)
  exact ⟨q1.trans p1, q2.trans p2, q3.trans p3⟩
theorem shX.w {h h' : zH} {c s c' s' : Nat} (a : shX h h' c s) (hc : c ≤ c') (hs : s ≤ s') : shX h h' c' s' := by
  obtain ⟨a1, a2, a3, a4⟩ := a
  exact ⟨a1, by omega, by omega, a4⟩
theorem shX.new {h : zH} {k n : Nat} {f : Nat → Value} : shX h (znew h k n f) 1 n := ⟨Nat.le_succ _, ⟨Nat.le_add_right _ _, Nat.le_refl _⟩, ⟨Nat.le_add_right _ _, Nat.le_refl _⟩, fun a ha => ⟨by rw [zk_new, if_neg (by omega)], by rw [zl_new, if_neg (by omega)], by funext i; rw [zm_new, if_neg (by omega)]⟩⟩
theorem shX.chg {h : zH} {c n : Nat} : shX h (zchg h c n) c n := ⟨Nat.le_refl _, ⟨Nat.le_add_right _ _, Nat.le_refl _⟩, ⟨Nat.le_add_right _ _, Nat.le_refl _⟩, fun _ _ => ⟨rfl, rfl, rfl⟩⟩
set_option maxRecDepth 20000 in
/-- a list's room grows, if there is none -/
theorem c170 {h : zH} {X D : zD} {a K : Nat} {n : Int} (ha : a = 4 ∨ a = 5 ∨ 70 ≤ a) (han : a < zn h) (hn : 70 ≤ zn h) (hl : lsO h X a n K) (hK : K < 20) (k1 : zk h 1 = 31) (l1 : zl h 1 = 0) (hf : (n = 0 ∧ X a 1 = 1) ∨ (n = 10 ∧ zl h (X a 1).toNat = 10)) :
    ∃ h' X', zc 170 1 [.ref a] (zV (zU h X) D) = some (.inl (some (.ref (X' a 1).toNat)), zV (zU h' X') D) ∧ shX h h' 1 15 ∧ lsO h' X' a n K ∧ n < zl h' (X' a 1).toNat ∧ (70 ≤ X' a 1 ∧ zn h ≤ X' a 1) ∧ (∀ i : Nat, (i : Int) < n → X' (X' a 1).toNat i = X (X a 1).toNat i) ∧ (∀ b i, b < zn h → b ≠ a ∨ i ≠ 1 → X' b i = X b i) := by
  obtain ⟨⟨h1, h2, h3⟩, h4, h5⟩ := hl
  have sx := @shX.new h 26
  rcases hf with ⟨rfl, hf⟩ | ⟨rfl, hf⟩
  · refine ⟨znew h 26 10 (fun _ => .null), zwr (zwr (zrw X (zn h) (fun _ => -1)) a 1 (zn h)) (zn h) 100 a, ?_, (shX.new).w (by omega) (by omega), ?_, ?_, ?_, ?_, ?_⟩
    · have e := c169e (D := D) ha han hn h1 k1 l1 hf
      have e2 : (0 : Int) + 1 = 1 := by decide
      rw [zU_g (by omega), zwr_a (show a ≠ zn h by omega), zwr_s, Int.toNat_natCast, zc]
      simp (disch := first | omega | (simp (disch := omega) only [zwr_s, zwr_a, zwr_i, zn_put, zn_new, zn_fil, zn_chg, zV_n]; omega)) only [zentry, zs0, zs1, zs2, zs3, zg_lo, zg_st, zg_st2, zg_ald, zg_ast, zs_ia, zs_i0, zcs, zg_ii, zi_max, zi_min, zi_abi, zi_abf, zi_fb, zi_bf, lget, lst, lst2, lc2, Option.map_some, zso, if_true, if_false, zc1, and_true, true_and, and_self, List.length_nil, List.length_cons, Nat.zero_le, reduceIte, reduceCtorEq, false_and, and_false, Bool.false_eq_true, zca_some, zr0, zr100, Option.bind_some, zb_none, zb_some, zrc, or_true, true_or, eq_self, ne_eq, not_true_eq_false, not_false_eq_true, zrt_i, zrt_zb, zrt_b, zrt_c, zrt_l, zrt_f, zrt_r, zrt_n, zrt_v, zft_0, zft_1, zft_zb, zft_3, zft_4, zft_5, zft_7r, zft_7n, iI_t, zb_i, zb_0, zb_1, Nat.reduceAdd, Nat.reduceLeDiff, Nat.reduceEqDiff, Nat.reduceSub, Int.reduceNeg, iI_add, iI_sub, iI_mul, iI_neg, iI_n, zbz, zchar_id, zin, zwr_s, zwr_a, zwr_i, if_pos, if_neg, Int.toNat_natCast, Int.natCast_zero, Int.reduceToNat, z170, zuL ha h1, h2, e, e2, zt2]
    · have e1 : zwr (zwr (zrw X (zn h) (fun _ => -1)) a 1 (zn h)) (zn h) 100 a a 1 = zn h := by rw [zwr_a (show a ≠ zn h by omega), zwr_s]
      unfold lsO
      rw [e1, Int.toNat_natCast]
      refine ⟨⟨?_, ?_, by omega⟩, Or.inr ⟨⟨by omega, ?_⟩, ?_, ?_, ?_, ?_⟩, fun i hi => by omega⟩
      · rw [zk_new, if_neg (by omega)]; exact h1
      · rw [zwr_a (by omega), zwr_i (by omega), zrw_a (by omega)]; exact h2
      · rw [zn_new]; omega
      · rw [zk_new, if_pos rfl]
      · omega
      · left; rw [zl_new, if_pos rfl]
      · rw [zwr_s]
    · rw [zwr_a (show a ≠ zn h by omega), zwr_s, Int.toNat_natCast, zl_new, if_pos rfl]
      omega
    · rw [zwr_a (show a ≠ zn h by omega), zwr_s]
      omega
    · intro i hi
      omega
    · intro b i hb hc
      rw [zwr_a (by omega), zwr_e, if_neg (by omega), zrw_a (by omega)]
  · rcases h4 with h4 | ⟨q1, q2, q3, q4, q5⟩
    · omega
    have ed : X a 1 = ((X a 1).toNat : Int) := by omega
    have h5' : ∀ i : Nat, i < 10 → 70 ≤ X (X a 1).toNat i ∧ X (X a 1).toNat i < zn h ∧ zk h (X (X a 1).toNat i).toNat < 20 := fun i hi => by
      have := h5 i (by omega)
      exact ⟨this.1, this.2.1, by omega⟩
    refine ⟨znew h 26 15 (fun _ => .null), zwr (zwr (zcp (zrw X (zn h) (fun _ => -1)) (X a 1).toNat 0 (zn h) 0 10) a 1 (zn h)) (zn h) 100 a, ?_, (shX.new).w (by omega) (by omega), ?_, ?_, ?_, ?_, ?_⟩
    · have e := c169f (D := D) ha han h1 ed (by omega) (by omega) q2 hf h5'
      have e2 : (10 : Int) + 1 = 11 := by decide
      rw [zU_g (by omega), zwr_a (show a ≠ zn h by omega), zwr_s, Int.toNat_natCast, zc]
      clear h5 h5'
      simp (disch := first | omega | (simp (disch := omega) only [zwr_s, zwr_a, zwr_i, zn_put, zn_new, zn_fil, zn_chg, zV_n]; omega)) only [zentry, zs0, zs1, zs2, zs3, zg_lo, zg_st, zg_st2, zg_ald, zg_ast, zs_ia, zs_i0, zg_ii, zi_max, zi_min, zi_abi, zi_abf, zi_fb, zi_bf, lget, lst, lst2, lc2, Option.map_some, zso, if_true, if_false, zc1, and_true, true_and, and_self, List.length_nil, List.length_cons, Nat.zero_le, reduceIte, reduceCtorEq, false_and, and_false, Bool.false_eq_true, zca_some, zr0, zr100, Option.bind_some, zb_none, zb_some, zrc, or_true, true_or, eq_self, ne_eq, not_true_eq_false, not_false_eq_true, zrt_i, zrt_zb, zrt_b, zrt_c, zrt_l, zrt_f, zrt_r, zrt_n, zrt_v, zft_0, zft_1, zft_zb, zft_3, zft_4, zft_5, zft_7r, zft_7n, iI_t, zb_i, zb_0, zb_1, Nat.reduceAdd, Nat.reduceLeDiff, Nat.reduceEqDiff, Nat.reduceSub, Int.reduceNeg, iI_add, iI_sub, iI_mul, iI_neg, zbz, zchar_id, zin, zwr_s, zwr_a, zwr_i, if_pos, if_neg, Int.toNat_natCast, Int.natCast_zero, Int.reduceToNat, z170, zuL ha h1, h2, e, e2, zt2]
    · have e1 : zwr (zwr (zcp (zrw X (zn h) (fun _ => -1)) (X a 1).toNat 0 (zn h) 0 10) a 1 (zn h)) (zn h) 100 a a 1 = zn h := by rw [zwr_a (show a ≠ zn h by omega), zwr_s]
      unfold lsO
      rw [e1, Int.toNat_natCast]
      refine ⟨⟨?_, ?_, by omega⟩, Or.inr ⟨⟨by omega, ?_⟩, ?_, ?_, ?_, ?_⟩, fun i hi => ?_⟩
      · rw [zk_new, if_neg (by omega)]; exact h1
      · rw [zwr_a (by omega), zwr_i (by omega)]
        unfold zcp
        rw [if_neg (by omega), zrw_a (by omega)]; exact h2
      · rw [zn_new]; omega
      · rw [zk_new, if_pos rfl]
      · rw [zl_new, if_pos rfl]; omega
      · right; rw [zl_new, if_pos rfl]
      · rw [zwr_s]
      · have := h5 i hi
        rw [zwr_i (by omega), zwr_a (by omega)]
        unfold zcp
        rw [if_pos (by omega), zrw_a (by omega), show 0 + (i - 0) = i by omega, zn_new, zk_new, if_neg (by omega)]
        exact ⟨this.1, by omega, this.2.2⟩
    · rw [zwr_a (show a ≠ zn h by omega), zwr_s, Int.toNat_natCast, zl_new, if_pos rfl]
      omega
    · rw [zwr_a (show a ≠ zn h by omega), zwr_s]
      omega
    · intro i hi
      rw [zwr_a (show a ≠ zn h by omega), zwr_s, Int.toNat_natCast, zwr_i (by omega), zwr_a (by omega)]
      unfold zcp
      rw [if_pos (by omega), zrw_a (by omega), show 0 + (i - 0) = i by omega]
    · intro b i hb hc
      rw [zwr_a (by omega), zwr_e, if_neg (by omega)]
      unfold zcp
      rw [if_neg (by omega), zrw_a (by omega)]

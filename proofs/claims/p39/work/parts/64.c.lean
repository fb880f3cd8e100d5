/-! .. their table -/
def fiA (D : zD) (n : Nat) (i : Nat) : zD := fun a s => if 19 + i ≤ a ∧ a < 28 ∧ s < 3601 then fewR (lnF D (a - 19) (n - (a - 19))) s else D a s
theorem fiA_9 {D : zD} {n : Nat} : fiA D n 9 = D := by
  funext a s
  unfold fiA
  rw [if_neg (by omega)]
theorem fiA_o {D : zD} {n i a s : Nat} (h : a < 19 ∨ 28 ≤ a) : fiA D n i a s = D a s := by
  unfold fiA
  rw [if_neg (by omega)]
theorem fiA_s {D : zD} {n i : Nat} (hi : i < 9) : fiR (fiA D n (i + 1)) i (lnF D i (n - i)) 3601 = fiA D n i := by
  funext a s
  unfold fiR fiA
  by_cases g : a = 19 + i ∧ s < 3601
  · rw [if_pos g, if_pos (by omega), show a - 19 = i by omega]
  · rw [if_neg g]
    by_cases g2 : 19 + (i + 1) ≤ a ∧ a < 28 ∧ s < 3601
    · rw [if_pos g2, if_pos (by omega)]
    · rw [if_neg g2, if_neg (by omega)]
set_option maxRecDepth 20000 in
theorem c16 {h : zH} {D : zD} (hD : fiB D) : zc 16 2 [.ref 14] (zV h D) = some (.inl none, zV h (zwr (fiA D (D 14 3).toNat 0) 14 5 1)) := by
  have hn := hD.1
  have key : ∀ i : Nat, i ≤ 9 → zx 16 3 [some (.ref 14), some (.int (Int32.ofInt ((i : Int) - 1)))] [] (zV h (fiA D (D 14 3).toNat i)) = some (.inl none, zV h (zwr (fiA D (D 14 3).toNat 0) 14 5 1)) := by
    intro i
    induction i with
    | zero =>
      intro _
      generalize fiA D (D 14 3).toNat 0 = D1
      have e0 : ((0 : Nat) : Int) - 1 = -1 := rfl
      rw [e0, z16_3]
      clear hD hn
      simp (disch := first | omega | (simp (disch := omega) only [zwr_s, zwr_a, zwr_i, zn_put, zn_new, zn_fil, zn_chg, zV_n]; omega)) only [zentry, zs0, zs1, zs2, zs3, zg_lo, zg_st, zg_st2, zg_ald, zg_ast, zs_ia, zs_i0, zg_ii, zi_max, zi_min, zi_abi, zi_abf, zi_fb, zi_bf, lget, lst, lst2, lc2, Option.map_some, zso, if_true, if_false, zc1, and_true, true_and, and_self, List.length_nil, List.length_cons, Nat.zero_le, reduceIte, reduceCtorEq, false_and, and_false, Bool.false_eq_true, zca_some, zr0, zr100, Option.bind_some, zb_none, zb_some, zrc, or_true, true_or, eq_self, ne_eq, not_true_eq_false, not_false_eq_true, zrt_i, zrt_zb, zrt_b, zrt_c, zrt_l, zrt_f, zrt_r, zrt_n, zrt_v, zft_0, zft_1, zft_zb, zft_3, zft_4, zft_5, zft_7r, zft_7n, iI_t, zb_i, zb_0, zb_1, Nat.reduceAdd, Nat.reduceLeDiff, Nat.reduceEqDiff, Nat.reduceSub, Int.reduceNeg, iI_add, iI_sub, iI_mul, iI_neg, zbz, zchar_id, zin, zwr_s, zwr_a, zwr_i, if_pos, if_neg, Int.toNat_natCast, Int.natCast_zero, Int.reduceToNat, z16, zc14]
    | succ i ih =>
      intro hi
      have ih := ih (by omega)
      rw [← ih]
      have s := fiA_s (D := D) (n := (D 14 3).toNat) (i := i) (by omega)
      have f3 : fiA D (D 14 3).toNat (i + 1) 14 3 = D 14 3 := fiA_o (by omega)
      have ei : ((i + 1 : Nat) : Int) - 1 = (i : Int) := by omega
      have r18 : ∀ (D : zD), zm (zV h D) 18 i = .ref (19 + i) := fun D => zc18r (by omega)
      have en : ((i : Int)).toNat = i := by omega
      by_cases g : D 14 3 ≤ i
      · have e0 : (D 14 3).toNat - i = 0 := by omega
        rw [e0, lnF] at s
        rw [← s, ← fiN_z]
        have e181 := c181 (r := i) (h := h) (D := fiA D (D 14 3).toNat (i + 1)) (by omega)
        rw [ei]
        conv => lhs; rw [z16_3]
        have eq1 : Int32.ofInt ((i : Int) + -1) = Int32.ofInt ((i : Int) - 1) := rfl
        clear s ih hD
        generalize fiN (fiA D (D 14 3).toNat (i + 1)) i 3601 = D2 at *
        generalize fiA D (D 14 3).toNat (i + 1) = D1 at *
        simp (disch := first | omega | (simp (disch := omega) only [zwr_s, zwr_a, zwr_i, zn_put, zn_new, zn_fil, zn_chg, zV_n]; omega)) only [zentry, zs0, zs1, zs2, zs3, zg_lo, zg_st, zg_st2, zg_ald, zg_ast, zs_ia, zs_i0, zg_ii, zi_max, zi_min, zi_abi, zi_abf, zi_fb, zi_bf, lget, lst, lst2, lc2, Option.map_some, zso, if_true, if_false, zc1, and_true, true_and, and_self, List.length_nil, List.length_cons, Nat.zero_le, reduceIte, reduceCtorEq, false_and, and_false, Bool.false_eq_true, zca_some, zr0, zr100, Option.bind_some, zb_none, zb_some, zrc, or_true, true_or, eq_self, ne_eq, not_true_eq_false, not_false_eq_true, zrt_i, zrt_zb, zrt_b, zrt_c, zrt_l, zrt_f, zrt_r, zrt_n, zrt_v, zft_0, zft_1, zft_zb, zft_3, zft_4, zft_5, zft_7r, zft_7n, iI_t, zb_i, zb_0, zb_1, Nat.reduceAdd, Nat.reduceLeDiff, Nat.reduceEqDiff, Nat.reduceSub, Int.reduceNeg, iI_add, iI_sub, iI_mul, iI_neg, zbz, zchar_id, zin, zwr_s, zwr_a, zwr_i, if_pos, if_neg, Int.toNat_natCast, Int.natCast_zero, Int.reduceToNat, z16, e181, eq1, f3, en, r18, zc14, zc18, zcF_k (show i < 9 by omega), zcF_l (show i < 9 by omega), zcF_p (show i < 9 by omega), zby, zt2]
      · have e1 : (D 14 3).toNat - i = ((D 14 3).toNat - (i + 1)) + 1 := by omega
        rw [e1, lnF] at s
        have hb := hD.2 i (by omega)
        have e12 := c12 (h := h) (D := fiA D (D 14 3).toNat (i + 1)) (i := i) (by rw [f3]; omega) (by rw [f3]; omega)
        rw [fiA_o (by omega)] at e12
        have e17 := c17 (r := i) (l := D 16 i) (Ls := lnF D (i + 1) ((D 14 3).toNat - (i + 1))) (h := h) (D := fiA D (D 14 3).toNat (i + 1)) (by omega) hb.2.1 (fun s hs => by
          unfold fiA
          rw [if_pos (by omega), show 19 + (i + 1) - 19 = i + 1 by omega])
        rw [s] at e17
        have eq1 : Int32.ofInt ((i : Int) + -1) = Int32.ofInt ((i : Int) - 1) := rfl
        rw [ei]
        conv => lhs; rw [z16_3]
        clear s ih hD
        generalize fiA D (D 14 3).toNat i = D2 at *
        generalize fiA D (D 14 3).toNat (i + 1) = D1 at *
        simp (disch := first | omega | (simp (disch := omega) only [zwr_s, zwr_a, zwr_i, zn_put, zn_new, zn_fil, zn_chg, zV_n]; omega)) only [zentry, zs0, zs1, zs2, zs3, zg_lo, zg_st, zg_st2, zg_ald, zg_ast, zs_ia, zs_i0, zg_ii, zi_max, zi_min, zi_abi, zi_abf, zi_fb, zi_bf, lget, lst, lst2, lc2, Option.map_some, zso, if_true, if_false, zc1, and_true, true_and, and_self, List.length_nil, List.length_cons, Nat.zero_le, reduceIte, reduceCtorEq, false_and, and_false, Bool.false_eq_true, zca_some, zr0, zr100, Option.bind_some, zb_none, zb_some, zrc, or_true, true_or, eq_self, ne_eq, not_true_eq_false, not_false_eq_true, zrt_i, zrt_zb, zrt_b, zrt_c, zrt_l, zrt_f, zrt_r, zrt_n, zrt_v, zft_0, zft_1, zft_zb, zft_3, zft_4, zft_5, zft_7r, zft_7n, iI_t, zb_i, zb_0, zb_1, Nat.reduceAdd, Nat.reduceLeDiff, Nat.reduceEqDiff, Nat.reduceSub, Int.reduceNeg, iI_add, iI_sub, iI_mul, iI_neg, zbz, zchar_id, zin, zwr_s, zwr_a, zwr_i, if_pos, if_neg, Int.toNat_natCast, Int.natCast_zero, Int.reduceToNat, z16, e12, e17, eq1, f3, en, zc14, zt2, zt3]
  have K := key 9 (by omega)
  rw [fiA_9] at K
  rw [← K, zc]
  have e0 : ((9 : Nat) : Int) - 1 = 8 := rfl
  rw [e0]
  clear key K hD
  simp (disch := first | omega | (simp (disch := omega) only [zwr_s, zwr_a, zwr_i, zn_put, zn_new, zn_fil, zn_chg, zV_n]; omega)) only [zentry, zs0, zs1, zs2, zs3, zg_lo, zg_st, zg_st2, zg_ald, zg_ast, zs_ia, zs_i0, zg_ii, zi_max, zi_min, zi_abi, zi_abf, zi_fb, zi_bf, lget, lst, lst2, lc2, Option.map_some, zso, if_true, if_false, zc1, and_true, true_and, and_self, List.length_nil, List.length_cons, Nat.zero_le, reduceIte, reduceCtorEq, false_and, and_false, Bool.false_eq_true, zca_some, zr0, zr100, Option.bind_some, zb_none, zb_some, zrc, or_true, true_or, eq_self, ne_eq, not_true_eq_false, not_false_eq_true, zrt_i, zrt_zb, zrt_b, zrt_c, zrt_l, zrt_f, zrt_r, zrt_n, zrt_v, zft_0, zft_1, zft_zb, zft_3, zft_4, zft_5, zft_7r, zft_7n, iI_t, zb_i, zb_0, zb_1, Nat.reduceAdd, Nat.reduceLeDiff, Nat.reduceEqDiff, Nat.reduceSub, Int.reduceNeg, iI_add, iI_sub, iI_mul, iI_neg, zbz, zchar_id, zin, zwr_s, zwr_a, zwr_i, if_pos, if_neg, Int.toNat_natCast, Int.natCast_zero, Int.reduceToNat, z16, zc14]
/-- the table is what it should be -/
def fiT (D : zD) : Prop := ∀ r s : Nat, r ≤ 8 → s ≤ 3600 → D (19 + r) s = fewR (lnF D r ((D 14 3).toNat - r)) s
theorem fiT_of {D : zD} : fiT (zwr (fiA D (D 14 3).toNat 0) 14 5 1) := by
  intro r s hr hs
  have e1 : zwr (fiA D (D 14 3).toNat 0) 14 5 1 14 3 = D 14 3 := by rw [zwr_i (by omega), fiA_o (by omega)]
  have e2 : ∀ n i, lnF (zwr (fiA D (D 14 3).toNat 0) 14 5 1) i n = lnF D i n := fun n i => lnF_c (fun i => by rw [zwr_a (by omega), fiA_o (by omega)]) n i
  rw [e1, e2, zwr_a (by omega)]
  unfold fiA
  rw [if_pos (by omega), show 19 + r - 19 = r by omega]
/-- only the choices differ -/
def fiG (D D' : zD) : Prop := ∀ a i, a < 28 ∨ 32 ≤ a → a ≠ 14 ∨ i ≠ 10 → D' a i = D a i
theorem fiG.rf {D : zD} : fiG D D := fun _ _ _ _ => rfl
theorem fiG.tr {D D1 D2 : zD} (h : fiG D D1) (h' : fiG D1 D2) : fiG D D2 := fun a i q1 q2 => (h' a i q1 q2).trans (h a i q1 q2)
theorem fiG.t {D D' : zD} (h : fiG D D') (hT : fiT D) : fiT D' := by
  intro r s hr hs
  rw [h 14 3 (by omega) (by omega), h (19 + r) s (by omega) (by omega), lnF_c (fun i => h 16 i (by omega) (by omega))]
  exact hT r s hr hs
theorem fiG.b {D D' : zD} (h : fiG D D') (hB : fiB D) : fiB D' := by
  obtain ⟨h1, h2⟩ := hB
  refine ⟨by rw [h 14 3 (by omega) (by omega)]; exact h1, fun i hi => ?_⟩
  rw [h 14 3 (by omega) (by omega)] at hi
  rw [h 15 i (by omega) (by omega), h 16 i (by omega) (by omega), h 17 i (by omega) (by omega)]
  exact h2 i hi
set_option maxRecDepth 20000 in
theorem c21 {r : Nat} {s : Int} {h : zH} {D : zD} (hr : r ≤ 8) (hs : iR s) (hT : fiT D) : zc 21 3 [.ref 14, .int (Int32.ofInt (r : Int)), .int (Int32.ofInt s)] (zV h D) = some (.inl (some (.int (Int32.ofInt (if 0 ≤ s ∧ s ≤ 3600 then fewR (lnF D r ((D 14 3).toNat - r)) s else 9)))), zV h D) := by
  rw [zc]
  by_cases g : 0 ≤ s ∧ s ≤ 3600
  · have e := hT r s.toNat hr (by omega)
    rw [show ((s.toNat : Nat) : Int) = s by omega] at e
    rw [if_pos g, ← e]
    have r18 : ∀ (D : zD), zm (zV h D) 18 r = .ref (19 + r) := fun D => zc18r (by omega)
    clear hT e
    simp (disch := first | omega | (simp (disch := omega) only [zwr_s, zwr_a, zwr_i, zn_put, zn_new, zn_fil, zn_chg, zV_n]; omega)) only [zentry, zs0, zs1, zs2, zs3, zg_lo, zg_st, zg_st2, zg_ald, zg_ast, zs_ia, zs_i0, zg_ii, zi_max, zi_min, zi_abi, zi_abf, zi_fb, zi_bf, lget, lst, lst2, lc2, Option.map_some, zso, if_true, if_false, zc1, and_true, true_and, and_self, List.length_nil, List.length_cons, Nat.zero_le, reduceIte, reduceCtorEq, false_and, and_false, Bool.false_eq_true, zca_some, zr0, zr100, Option.bind_some, zb_none, zb_some, zrc, or_true, true_or, eq_self, ne_eq, not_true_eq_false, not_false_eq_true, zrt_i, zrt_zb, zrt_b, zrt_c, zrt_l, zrt_f, zrt_r, zrt_n, zrt_v, zft_0, zft_1, zft_zb, zft_3, zft_4, zft_5, zft_7r, zft_7n, iI_t, zb_i, zb_0, zb_1, Nat.reduceAdd, Nat.reduceLeDiff, Nat.reduceEqDiff, Nat.reduceSub, Int.reduceNeg, iI_add, iI_sub, iI_mul, iI_neg, zbz, zchar_id, zin, zwr_s, zwr_a, zwr_i, if_pos, if_neg, Int.toNat_natCast, Int.natCast_zero, Int.reduceToNat, z21, r18, zc14, zc18, zcF_k (show r < 9 by omega), zcF_l (show r < 9 by omega), zcF_m (show r < 9 by omega)]
  · rw [if_neg g]
    clear hT
    by_cases g1 : s < 0
    · simp (disch := first | omega | (simp (disch := omega) only [zwr_s, zwr_a, zwr_i, zn_put, zn_new, zn_fil, zn_chg, zV_n]; omega)) only [zentry, zs0, zs1, zs2, zs3, zg_lo, zg_st, zg_st2, zg_ald, zg_ast, zs_ia, zs_i0, zg_ii, zi_max, zi_min, zi_abi, zi_abf, zi_fb, zi_bf, lget, lst, lst2, lc2, Option.map_some, zso, if_true, if_false, zc1, and_true, true_and, and_self, List.length_nil, List.length_cons, Nat.zero_le, reduceIte, reduceCtorEq, false_and, and_false, Bool.false_eq_true, zca_some, zr0, zr100, Option.bind_some, zb_none, zb_some, zrc, or_true, true_or, eq_self, ne_eq, not_true_eq_false, not_false_eq_true, zrt_i, zrt_zb, zrt_b, zrt_c, zrt_l, zrt_f, zrt_r, zrt_n, zrt_v, zft_0, zft_1, zft_zb, zft_3, zft_4, zft_5, zft_7r, zft_7n, iI_t, zb_i, zb_0, zb_1, Nat.reduceAdd, Nat.reduceLeDiff, Nat.reduceEqDiff, Nat.reduceSub, Int.reduceNeg, iI_add, iI_sub, iI_mul, iI_neg, zbz, zchar_id, zin, zwr_s, zwr_a, zwr_i, if_pos, if_neg, Int.toNat_natCast, Int.natCast_zero, Int.reduceToNat, z21, zc14]
    · simp (disch := first | omega | (simp (disch := omega) only [zwr_s, zwr_a, zwr_i, zn_put, zn_new, zn_fil, zn_chg, zV_n]; omega)) only [zentry, zs0, zs1, zs2, zs3, zg_lo, zg_st, zg_st2, zg_ald, zg_ast, zs_ia, zs_i0, zg_ii, zi_max, zi_min, zi_abi, zi_abf, zi_fb, zi_bf, lget, lst, lst2, lc2, Option.map_some, zso, if_true, if_false, zc1, and_true, true_and, and_self, List.length_nil, List.length_cons, Nat.zero_le, reduceIte, reduceCtorEq, false_and, and_false, Bool.false_eq_true, zca_some, zr0, zr100, Option.bind_some, zb_none, zb_some, zrc, or_true, true_or, eq_self, ne_eq, not_true_eq_false, not_false_eq_true, zrt_i, zrt_zb, zrt_b, zrt_c, zrt_l, zrt_f, zrt_r, zrt_n, zrt_v, zft_0, zft_1, zft_zb, zft_3, zft_4, zft_5, zft_7r, zft_7n, iI_t, zb_i, zb_0, zb_1, Nat.reduceAdd, Nat.reduceLeDiff, Nat.reduceEqDiff, Nat.reduceSub, Int.reduceNeg, iI_add, iI_sub, iI_mul, iI_neg, zbz, zchar_id, zin, zwr_s, zwr_a, zwr_i, if_pos, if_neg, Int.toNat_natCast, Int.natCast_zero, Int.reduceToNat, z21, zc14]
def fiP (D : zD) (c r : Int) : zD := zwr (zwr (zwr D 30 (D 14 10).toNat c) 31 (D 14 10).toNat r) 14 10 (D 14 10 + 1)
set_option maxRecDepth 20000 in
theorem c19 {c r : Int} {h : zH} {D : zD} (hk : 0 ≤ D 14 10 ∧ D 14 10 < 70) : zc 19 3 [.ref 14, .int (Int32.ofInt c), .int (Int32.ofInt r)] (zV h D) = some (.inl none, zV h (fiP D c r)) := by
  rw [zc]
  unfold fiP
  simp (disch := first | omega | (simp (disch := omega) only [zwr_s, zwr_a, zwr_i, zn_put, zn_new, zn_fil, zn_chg, zV_n]; omega)) only [zentry, zs0, zs1, zs2, zs3, zg_lo, zg_st, zg_st2, zg_ald, zg_ast, zs_ia, zs_i0, zcs, zg_ii, zi_max, zi_min, zi_abi, zi_abf, zi_fb, zi_bf, lget, lst, lst2, lc2, Option.map_some, zso, if_true, if_false, zc1, and_true, true_and, and_self, List.length_nil, List.length_cons, Nat.zero_le, reduceIte, reduceCtorEq, false_and, and_false, Bool.false_eq_true, zca_some, zr0, zr100, Option.bind_some, zb_none, zb_some, zrc, or_true, true_or, eq_self, ne_eq, not_true_eq_false, not_false_eq_true, zrt_i, zrt_zb, zrt_b, zrt_c, zrt_l, zrt_f, zrt_r, zrt_n, zrt_v, zft_0, zft_1, zft_zb, zft_3, zft_4, zft_5, zft_7r, zft_7n, iI_t, zb_i, zb_0, zb_1, Nat.reduceAdd, Nat.reduceLeDiff, Nat.reduceEqDiff, Nat.reduceSub, Int.reduceNeg, iI_add, iI_sub, iI_mul, iI_neg, iI_n, zbz, zchar_id, zin, zwr_s, zwr_a, zwr_i, if_pos, if_neg, Int.toNat_natCast, Int.natCast_zero, Int.reduceToNat, z19, zc14, zc30, zc31]
def fiC (D : zD) (k : Nat) : zD := fun a i => if a = 28 ∧ i < k then D 30 i else if a = 29 ∧ i < k then D 31 i else D a i
theorem fiC_0 {D : zD} : fiC D 0 = D := by
  funext a i
  unfold fiC
  rw [if_neg (by omega), if_neg (by omega)]
theorem fiC_s {D : zD} {k : Nat} : zwr (zwr (fiC D k) 28 k (D 30 k)) 29 k (D 31 k) = fiC D (k + 1) := by
  funext a i
  rw [zwr_e, zwr_e]
  unfold fiC
  by_cases g : a = 29 ∧ i = k
  · rw [if_pos g, if_neg (by omega), if_pos (by omega), g.2]
  · rw [if_neg g]
    by_cases g2 : a = 28 ∧ i = k
    · rw [if_pos g2, if_pos (by omega), g2.2]
    · rw [if_neg g2]
      by_cases g3 : a = 28 ∧ i < k
      · rw [if_pos g3, if_pos (by omega)]
      · by_cases g4 : a = 29 ∧ i < k
        · rw [if_neg g3, if_pos g4, if_neg (by omega), if_pos (by omega)]
        · rw [if_neg g3, if_neg g4, if_neg (by omega), if_neg (by omega)]
set_option maxRecDepth 20000 in
theorem c20 {h : zH} {D : zD} (hk : 0 ≤ D 14 10 ∧ D 14 10 ≤ 70) : zc 20 2 [.ref 14] (zV h D) = some (.inl none, zV h (fiC D (D 14 10).toNat)) := by
  have o : ∀ k a i, a ≠ 28 → a ≠ 29 → fiC D k a i = D a i := fun k a i h1 h2 => by
    unfold fiC
    rw [if_neg (by omega), if_neg (by omega)]
  have hloop := zloop (k := 20) (pc := 2) (fun i => [some (.ref 14), some (.int (Int32.ofInt (i : Int)))]) (fun i => zV h (fiC D i)) (D 14 10).toNat (fun i hi => by
    have o1 := o i 14 10 (by omega) (by omega)
    have o2 := o i 30 i (by omega) (by omega)
    have o3 := o i 31 i (by omega) (by omega)
    have ei : ((i + 1 : Nat) : Int) = (i : Int) + 1 := by omega
    have en : ((i : Int)).toNat = i := by omega
    have s := fiC_s (D := D) (k := i)
    conv => lhs; rw [z20_2]
    rw [← s]
    clear s o
    generalize fiC D i = D1 at *
    simp (disch := first | omega | (simp (disch := omega) only [zwr_s, zwr_a, zwr_i, zn_put, zn_new, zn_fil, zn_chg, zV_n]; omega)) only [zentry, zs0, zs1, zs2, zs3, zg_lo, zg_st, zg_st2, zg_ald, zg_ast, zs_ia, zs_i0, zcs, zg_ii, zi_max, zi_min, zi_abi, zi_abf, zi_fb, zi_bf, lget, lst, lst2, lc2, Option.map_some, zso, if_true, if_false, zc1, and_true, true_and, and_self, List.length_nil, List.length_cons, Nat.zero_le, reduceIte, reduceCtorEq, false_and, and_false, Bool.false_eq_true, zca_some, zr0, zr100, Option.bind_some, zb_none, zb_some, zrc, or_true, true_or, eq_self, ne_eq, not_true_eq_false, not_false_eq_true, zrt_i, zrt_zb, zrt_b, zrt_c, zrt_l, zrt_f, zrt_r, zrt_n, zrt_v, zft_0, zft_1, zft_zb, zft_3, zft_4, zft_5, zft_7r, zft_7n, iI_t, zb_i, zb_0, zb_1, Nat.reduceAdd, Nat.reduceLeDiff, Nat.reduceEqDiff, Nat.reduceSub, Int.reduceNeg, iI_add, iI_sub, iI_mul, iI_neg, iI_n, zbz, zchar_id, zin, zwr_s, zwr_a, zwr_i, if_pos, if_neg, Int.toNat_natCast, Int.natCast_zero, Int.reduceToNat, z20, o1, o2, o3, ei, en, zc14, zc28, zc29, zc30, zc31]) (D 14 10).toNat (Nat.le_refl _)
  have st : zc 20 2 [.ref 14] (zV h D) = zx 20 2 [some (.ref 14), some (.int (Int32.ofInt ((0 : Nat) : Int)))] [] (zV h (fiC D 0)) := by
    rw [zc, fiC_0]
    clear hloop o
    simp (disch := first | omega | (simp (disch := omega) only [zwr_s, zwr_a, zwr_i, zn_put, zn_new, zn_fil, zn_chg, zV_n]; omega)) only [zentry, zs0, zs1, zs2, zs3, zg_lo, zg_st, zg_st2, zg_ald, zg_ast, zs_ia, zs_i0, zcs, zg_ii, zi_max, zi_min, zi_abi, zi_abf, zi_fb, zi_bf, lget, lst, lst2, lc2, Option.map_some, zso, if_true, if_false, zc1, and_true, true_and, and_self, List.length_nil, List.length_cons, Nat.zero_le, reduceIte, reduceCtorEq, false_and, and_false, Bool.false_eq_true, zca_some, zr0, zr100, Option.bind_some, zb_none, zb_some, zrc, or_true, true_or, eq_self, ne_eq, not_true_eq_false, not_false_eq_true, zrt_i, zrt_zb, zrt_b, zrt_c, zrt_l, zrt_f, zrt_r, zrt_n, zrt_v, zft_0, zft_1, zft_zb, zft_3, zft_4, zft_5, zft_7r, zft_7n, iI_t, zb_i, zb_0, zb_1, Nat.reduceAdd, Nat.reduceLeDiff, Nat.reduceEqDiff, Nat.reduceSub, Int.reduceNeg, iI_add, iI_sub, iI_mul, iI_neg, iI_n, zbz, zchar_id, zin, zwr_s, zwr_a, zwr_i, if_pos, if_neg, Int.toNat_natCast, Int.natCast_zero, Int.reduceToNat, z20, Int.natCast_zero]
  rw [st]
  refine Eq.trans hloop ?_
  have o1 := o (D 14 10).toNat 14 10 (by omega) (by omega)
  rw [z20_2]
  clear hloop o st
  generalize fiC D (D 14 10).toNat = D1 at *
  have hnn : (((D 14 10).toNat : Nat) : Int) = D 14 10 := by omega
  simp (disch := first | omega | (simp (disch := omega) only [zwr_s, zwr_a, zwr_i, zn_put, zn_new, zn_fil, zn_chg, zV_n]; omega)) only [zentry, zs0, zs1, zs2, zs3, zg_lo, zg_st, zg_st2, zg_ald, zg_ast, zs_ia, zs_i0, zcs, zg_ii, zi_max, zi_min, zi_abi, zi_abf, zi_fb, zi_bf, lget, lst, lst2, lc2, Option.map_some, zso, if_true, if_false, zc1, and_true, true_and, and_self, List.length_nil, List.length_cons, Nat.zero_le, reduceIte, reduceCtorEq, false_and, and_false, Bool.false_eq_true, zca_some, zr0, zr100, Option.bind_some, zb_none, zb_some, zrc, or_true, true_or, eq_self, ne_eq, not_true_eq_false, not_false_eq_true, zrt_i, zrt_zb, zrt_b, zrt_c, zrt_l, zrt_f, zrt_r, zrt_n, zrt_v, zft_0, zft_1, zft_zb, zft_3, zft_4, zft_5, zft_7r, zft_7n, iI_t, zb_i, zb_0, zb_1, Nat.reduceAdd, Nat.reduceLeDiff, Nat.reduceEqDiff, Nat.reduceSub, Int.reduceNeg, iI_add, iI_sub, iI_mul, iI_neg, iI_n, zbz, zchar_id, zin, zwr_s, zwr_a, zwr_i, if_pos, if_neg, Int.toNat_natCast, Int.natCast_zero, Int.reduceToNat, z20, o1, hnn, zc14]

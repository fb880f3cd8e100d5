/-! the class: all events off air, cut, the level ahead, barred or not -/
def offR (r : Nat → Int) (i : Nat) : Int := if i = 6 ∨ i = 7 ∨ i = 8 ∨ i = 9 then 0 else r i
def cutR (t : Int) (r : Nat → Int) (i : Nat) : Int := if i = 8 then min (r 8) t else r i
theorem evOff_r {X : zD} {a : Nat} : evOff X a = zrw X a (offR (X a)) := by
  funext b i
  unfold evOff zrw offR zwr
  by_cases g : b = a
  · subst g
    by_cases g6 : i = 6
    · simp [g6]
    · by_cases g7 : i = 7
      · simp [g7]
      · by_cases g8 : i = 8
        · simp [g8]
        · by_cases g9 : i = 9
          · simp [g9]
          · simp [g6, g7, g8, g9]
  · simp [g]
theorem cut_r {X : zD} {a : Nat} {t : Int} : zwr X a 8 (min (X a 8) t) = zrw X a (cutR t (X a)) := by
  funext b i
  unfold zrw cutR zwr
  by_cases g : b = a
  · subst g
    by_cases g8 : i = 8
    · simp [g8]
    · simp [g8]
  · simp [g]
set_option maxRecDepth 20000 in
theorem c92 {h : zH} {X D S : zD} (hS : evS h X S) (hn : S 32 15 ≤ 12) : zc 92 2 [.ref 3] (zV (zU h X) D) = some (.inl none, zV (zU h (itX offR X (S 32 15).toNat)) (zwr D 6 3 0)) := by
  have h0 := hS.1.1
  have e29 := c29_6 (h := zU h X) (D := D)
  have hloop := zloop (k := 92) (pc := 9) (fun i => [some (.ref 3), some (.int (Int32.ofInt (i : Int)))]) (fun i => zV (zU h (itX offR X i)) (zwr D 6 3 0)) (S 32 15).toNat (fun i hi => by
    have hy := itX_y hS (g := offR) (fun r i q => if_neg (by omega)) i (by omega)
    obtain ⟨l1, l2⟩ := lsO_v hS.1 hy.ev
    have e175 := c175 (h := h) (X := itX offR X i) (D := zwr D 6 3 0) (a := 5) (by omega) h0.1
    rw [l1.1.2.1] at e175
    have e171 := c171 (D := zwr D 6 3 0) (i := (i : Int)) (Or.inr (Or.inl rfl)) l1 (by omega)
    rw [Int.toNat_natCast, l2 i (by omega)] at e171
    obtain ⟨k1, k2, k3⟩ := hS.K (e := i) (by omega)
    have e3 := c3 (X := itX offR X i) (D := zwr D 6 3 0) k1 k3
    rw [evOff_r] at e3
    have es : zrw (itX offR X i) (lsE X 5 i) (offR (itX offR X i (lsE X 5 i))) = itX offR X (i + 1) := rfl
    rw [es] at e3
    conv => lhs; rw [z92_9]
    clear hS hy l1 l2 es
    generalize itX offR X i = X1 at *
    generalize itX offR X (i + 1) = X2 at *
    generalize lsE X 5 i = a at *
    simp (disch := first | omega | (simp (disch := omega) only [zwr_s, zwr_a, zwr_i, zn_put, zn_new, zn_fil, zn_chg, zV_n]; omega)) only [zentry, zs0, zs1, zs2, zs3, zg_lo, zg_st, zg_st2, zg_ald, zg_ast, zs_ia, zs_i0, zcs, zg_ii, zi_max, zi_min, zi_abi, zi_abf, zi_fb, zi_bf, lget, lst, lst2, lc2, Option.map_some, zso, if_true, if_false, zc1, and_true, true_and, and_self, List.length_nil, List.length_cons, Nat.zero_le, reduceIte, reduceCtorEq, false_and, and_false, Bool.false_eq_true, zca_some, zr0, zr100, Option.bind_some, zb_none, zb_some, zrc, or_true, true_or, eq_self, ne_eq, not_true_eq_false, not_false_eq_true, zrt_i, zrt_zb, zrt_b, zrt_c, zrt_l, zrt_f, zrt_r, zrt_n, zrt_v, zft_0, zft_1, zft_zb, zft_3, zft_4, zft_5, zft_7r, zft_7n, iI_t, zb_i, zb_0, zb_1, Nat.reduceAdd, Nat.reduceLeDiff, Nat.reduceEqDiff, Nat.reduceSub, Int.reduceNeg, iI_add, iI_sub, iI_mul, iI_neg, iI_n, zbz, zchar_id, zin, zwr_s, zwr_a, zwr_i, if_pos, if_neg, Int.toNat_natCast, Int.natCast_zero, Int.reduceToNat, z92, zc3, zuL (a := 5) (Or.inr (Or.inl rfl)) h0.1, zuE k1 k3, e175, e171, e3, zt1, zt2]) (S 32 15).toNat (Nat.le_refl _)
  have hy := itX_y hS (g := offR) (fun r i q => if_neg (by omega)) (S 32 15).toNat (by omega)
  obtain ⟨l1, l2⟩ := lsO_v hS.1 hy.ev
  have e175 := c175 (h := h) (X := itX offR X (S 32 15).toNat) (D := zwr D 6 3 0) (a := 5) (by omega) h0.1
  rw [l1.1.2.1] at e175
  have hN : (((S 32 15).toNat : Nat) : Int) = S 32 15 := by omega
  have fin : zx 92 9 [some (.ref 3), some (.int (Int32.ofInt (((S 32 15).toNat : Nat) : Int)))] [] (zV (zU h (itX offR X (S 32 15).toNat)) (zwr D 6 3 0)) = some (.inl none, zV (zU h (itX offR X (S 32 15).toNat)) (zwr D 6 3 0)) := by
    rw [z92_9, hN]
    clear hS hy l1 l2 hloop
    generalize itX offR X (S 32 15).toNat = X1 at *
    simp (disch := first | omega | (simp (disch := omega) only [zwr_s, zwr_a, zwr_i, zn_put, zn_new, zn_fil, zn_chg, zV_n]; omega)) only [zentry, zs0, zs1, zs2, zs3, zg_lo, zg_st, zg_st2, zg_ald, zg_ast, zs_ia, zs_i0, zcs, zg_ii, zi_max, zi_min, zi_abi, zi_abf, zi_fb, zi_bf, lget, lst, lst2, lc2, Option.map_some, zso, if_true, if_false, zc1, and_true, true_and, and_self, List.length_nil, List.length_cons, Nat.zero_le, reduceIte, reduceCtorEq, false_and, and_false, Bool.false_eq_true, zca_some, zr0, zr100, Option.bind_some, zb_none, zb_some, zrc, or_true, true_or, eq_self, ne_eq, not_true_eq_false, not_false_eq_true, zrt_i, zrt_zb, zrt_b, zrt_c, zrt_l, zrt_f, zrt_r, zrt_n, zrt_v, zft_0, zft_1, zft_zb, zft_3, zft_4, zft_5, zft_7r, zft_7n, iI_t, zb_i, zb_0, zb_1, Nat.reduceAdd, Nat.reduceLeDiff, Nat.reduceEqDiff, Nat.reduceSub, Int.reduceNeg, iI_add, iI_sub, iI_mul, iI_neg, iI_n, zbz, zchar_id, zin, zwr_s, zwr_a, zwr_i, if_pos, if_neg, Int.toNat_natCast, Int.natCast_zero, Int.reduceToNat, z92, zc3, zuL (a := 5) (Or.inr (Or.inl rfl)) h0.1, e175, zt1]
  rw [fin] at hloop
  rw [← hloop, zc]
  show _ = zx 92 9 [some (.ref 3), some (.int (Int32.ofInt 0))] [] (zV (zU h X) (zwr D 6 3 0))
  clear hS hy l1 l2 hloop fin
  simp (disch := first | omega | (simp (disch := omega) only [zwr_s, zwr_a, zwr_i, zn_put, zn_new, zn_fil, zn_chg, zV_n]; omega)) only [zentry, zs0, zs1, zs2, zs3, zg_lo, zg_st, zg_st2, zg_ald, zg_ast, zs_ia, zs_i0, zcs, zg_ii, zi_max, zi_min, zi_abi, zi_abf, zi_fb, zi_bf, lget, lst, lst2, lc2, Option.map_some, zso, if_true, if_false, zc1, and_true, true_and, and_self, List.length_nil, List.length_cons, Nat.zero_le, reduceIte, reduceCtorEq, false_and, and_false, Bool.false_eq_true, zca_some, zr0, zr100, Option.bind_some, zb_none, zb_some, zrc, or_true, true_or, eq_self, ne_eq, not_true_eq_false, not_false_eq_true, zrt_i, zrt_zb, zrt_b, zrt_c, zrt_l, zrt_f, zrt_r, zrt_n, zrt_v, zft_0, zft_1, zft_zb, zft_3, zft_4, zft_5, zft_7r, zft_7n, iI_t, zb_i, zb_0, zb_1, Nat.reduceAdd, Nat.reduceLeDiff, Nat.reduceEqDiff, Nat.reduceSub, Int.reduceNeg, iI_add, iI_sub, iI_mul, iI_neg, iI_n, zbz, zchar_id, zin, zwr_s, zwr_a, zwr_i, if_pos, if_neg, Int.toNat_natCast, Int.natCast_zero, Int.reduceToNat, z92, zc3, zc6, e29, zt1]
set_option maxRecDepth 20000 in
theorem c5b {h : zH} {X D : zD} {a : Nat} {t : Int} (ha : 70 ≤ a) (hk : zk h a = 1) (h8 : iR (X a 8)) (ht : iR t) : zc 5 2 [.ref a, .int (Int32.ofInt t)] (zV (zU h X) D) = some (.inl none, zV (zU h (zwr X a 8 (min (X a 8) t))) D) := by
  rw [zc]
  simp (disch := first | omega | (simp (disch := omega) only [zwr_s, zwr_a, zwr_i, zn_put, zn_new, zn_fil, zn_chg, zV_n]; omega)) only [zentry, zs0, zs1, zs2, zs3, zg_lo, zg_st, zg_st2, zg_ald, zg_ast, zs_ia, zs_i0, zcs, zg_ii, zi_max, zi_min, zi_abi, zi_abf, zi_fb, zi_bf, lget, lst, lst2, lc2, Option.map_some, zso, if_true, if_false, zc1, and_true, true_and, and_self, List.length_nil, List.length_cons, Nat.zero_le, reduceIte, reduceCtorEq, false_and, and_false, Bool.false_eq_true, zca_some, zr0, zr100, Option.bind_some, zb_none, zb_some, zrc, or_true, true_or, eq_self, ne_eq, not_true_eq_false, not_false_eq_true, zrt_i, zrt_zb, zrt_b, zrt_c, zrt_l, zrt_f, zrt_r, zrt_n, zrt_v, zft_0, zft_1, zft_zb, zft_3, zft_4, zft_5, zft_7r, zft_7n, iI_t, zb_i, zb_0, zb_1, Nat.reduceAdd, Nat.reduceLeDiff, Nat.reduceEqDiff, Nat.reduceSub, Int.reduceNeg, iI_add, iI_sub, iI_mul, iI_neg, iI_n, zbz, zchar_id, zin, zwr_s, zwr_a, zwr_i, if_pos, if_neg, Int.toNat_natCast, Int.natCast_zero, Int.reduceToNat, z5, zuE ha hk]
set_option maxRecDepth 20000 in
theorem c97 {t : Int} {h : zH} {X D S : zD} {sp : zSp} (hS : evS h X S) (hn : S 32 15 ≤ 12) (ht : 0 ≤ t ∧ t ≤ 100000) (h8 : ∀ e : Nat, (e : Int) < S 32 15 → iR (X (lsE X 5 e) 8)) (h1 : D 6 3 = sp.length) (hl : sp.length ≤ 116) (hr : tRp 6 D sp) (hb : spB sp) :
    zc 97 3 [.ref 3, .int (Int32.ofInt t)] (zV (zU h X) D) = some (.inl none, zV (zU h (itX (cutR t) X (S 32 15).toNat)) (tCut 6 t sp D)) := by
  have h0 := hS.1.1
  have e31 := c31_6 (h := zU h X) ht h1 hl hr hb
  have hloop := zloop (k := 97) (pc := 10) (fun i => [some (.ref 3), some (.int (Int32.ofInt t)), some (.int (Int32.ofInt (i : Int)))]) (fun i => zV (zU h (itX (cutR t) X i)) (tCut 6 t sp D)) (S 32 15).toNat (fun i hi => by
    have hy := itX_y hS (g := cutR t) (fun r i q => if_neg (by omega)) i (by omega)
    obtain ⟨l1, l2⟩ := lsO_v hS.1 hy.ev
    have e175 := c175 (h := h) (X := itX (cutR t) X i) (D := tCut 6 t sp D) (a := 5) (by omega) h0.1
    rw [l1.1.2.1] at e175
    have e171 := c171 (D := tCut 6 t sp D) (i := (i : Int)) (Or.inr (Or.inl rfl)) l1 (by omega)
    rw [Int.toNat_natCast, l2 i (by omega)] at e171
    obtain ⟨k1, k2, k3⟩ := hS.K (e := i) (by omega)
    have eo := itX_o (g := cutR t) (X := X) (b := lsE X 5 i) i (fun e he w => by
      have := hS.2.1 i e (by omega) (by omega) w
      omega)
    have e5 := c5b (X := itX (cutR t) X i) (D := tCut 6 t sp D) (t := t) k1 k3 (by rw [eo]; exact h8 i (by omega)) (by omega)
    rw [cut_r] at e5
    have es : zrw (itX (cutR t) X i) (lsE X 5 i) (cutR t (itX (cutR t) X i (lsE X 5 i))) = itX (cutR t) X (i + 1) := rfl
    rw [es] at e5
    conv => lhs; rw [z97_10]
    clear hS hy l1 l2 es eo h8 h1 hl hr hb e31
    generalize itX (cutR t) X i = X1 at *
    generalize itX (cutR t) X (i + 1) = X2 at *
    generalize lsE X 5 i = a at *
    generalize tCut 6 t sp D = D1 at *
    simp (disch := first | omega | (simp (disch := omega) only [zwr_s, zwr_a, zwr_i, zn_put, zn_new, zn_fil, zn_chg, zV_n]; omega)) only [zentry, zs0, zs1, zs2, zs3, zg_lo, zg_st, zg_st2, zg_ald, zg_ast, zs_ia, zs_i0, zcs, zg_ii, zi_max, zi_min, zi_abi, zi_abf, zi_fb, zi_bf, lget, lst, lst2, lc2, Option.map_some, zso, if_true, if_false, zc1, and_true, true_and, and_self, List.length_nil, List.length_cons, Nat.zero_le, reduceIte, reduceCtorEq, false_and, and_false, Bool.false_eq_true, zca_some, zr0, zr100, Option.bind_some, zb_none, zb_some, zrc, or_true, true_or, eq_self, ne_eq, not_true_eq_false, not_false_eq_true, zrt_i, zrt_zb, zrt_b, zrt_c, zrt_l, zrt_f, zrt_r, zrt_n, zrt_v, zft_0, zft_1, zft_zb, zft_3, zft_4, zft_5, zft_7r, zft_7n, iI_t, zb_i, zb_0, zb_1, Nat.reduceAdd, Nat.reduceLeDiff, Nat.reduceEqDiff, Nat.reduceSub, Int.reduceNeg, iI_add, iI_sub, iI_mul, iI_neg, iI_n, zbz, zchar_id, zin, zwr_s, zwr_a, zwr_i, if_pos, if_neg, Int.toNat_natCast, Int.natCast_zero, Int.reduceToNat, z97, zc3, zuL (a := 5) (Or.inr (Or.inl rfl)) h0.1, zuE k1 k3, e175, e171, e5, zt1, zt2]) (S 32 15).toNat (Nat.le_refl _)
  have hy := itX_y hS (g := cutR t) (fun r i q => if_neg (by omega)) (S 32 15).toNat (by omega)
  obtain ⟨l1, l2⟩ := lsO_v hS.1 hy.ev
  have e175 := c175 (h := h) (X := itX (cutR t) X (S 32 15).toNat) (D := tCut 6 t sp D) (a := 5) (by omega) h0.1
  rw [l1.1.2.1] at e175
  have hN : (((S 32 15).toNat : Nat) : Int) = S 32 15 := by omega
  have fin : zx 97 10 [some (.ref 3), some (.int (Int32.ofInt t)), some (.int (Int32.ofInt (((S 32 15).toNat : Nat) : Int)))] [] (zV (zU h (itX (cutR t) X (S 32 15).toNat)) (tCut 6 t sp D)) = some (.inl none, zV (zU h (itX (cutR t) X (S 32 15).toNat)) (tCut 6 t sp D)) := by
    rw [z97_10, hN]
    clear hS hy l1 l2 hloop h8 h1 hl hr hb e31
    generalize itX (cutR t) X (S 32 15).toNat = X1 at *
    generalize tCut 6 t sp D = D1 at *
    simp (disch := first | omega | (simp (disch := omega) only [zwr_s, zwr_a, zwr_i, zn_put, zn_new, zn_fil, zn_chg, zV_n]; omega)) only [zentry, zs0, zs1, zs2, zs3, zg_lo, zg_st, zg_st2, zg_ald, zg_ast, zs_ia, zs_i0, zcs, zg_ii, zi_max, zi_min, zi_abi, zi_abf, zi_fb, zi_bf, lget, lst, lst2, lc2, Option.map_some, zso, if_true, if_false, zc1, and_true, true_and, and_self, List.length_nil, List.length_cons, Nat.zero_le, reduceIte, reduceCtorEq, false_and, and_false, Bool.false_eq_true, zca_some, zr0, zr100, Option.bind_some, zb_none, zb_some, zrc, or_true, true_or, eq_self, ne_eq, not_true_eq_false, not_false_eq_true, zrt_i, zrt_zb, zrt_b, zrt_c, zrt_l, zrt_f, zrt_r, zrt_n, zrt_v, zft_0, zft_1, zft_zb, zft_3, zft_4, zft_5, zft_7r, zft_7n, iI_t, zb_i, zb_0, zb_1, Nat.reduceAdd, Nat.reduceLeDiff, Nat.reduceEqDiff, Nat.reduceSub, Int.reduceNeg, iI_add, iI_sub, iI_mul, iI_neg, iI_n, zbz, zchar_id, zin, zwr_s, zwr_a, zwr_i, if_pos, if_neg, Int.toNat_natCast, Int.natCast_zero, Int.reduceToNat, z97, zc3, zuL (a := 5) (Or.inr (Or.inl rfl)) h0.1, e175, zt1]
  rw [fin] at hloop
  rw [← hloop, zc]
  show _ = zx 97 10 [some (.ref 3), some (.int (Int32.ofInt t)), some (.int (Int32.ofInt 0))] [] (zV (zU h X) (tCut 6 t sp D))
  clear hS hy l1 l2 hloop fin h8 h1 hl hr hb
  generalize tCut 6 t sp D = D1 at *
  simp (disch := first | omega | (simp (disch := omega) only [zwr_s, zwr_a, zwr_i, zn_put, zn_new, zn_fil, zn_chg, zV_n]; omega)) only [zentry, zs0, zs1, zs2, zs3, zg_lo, zg_st, zg_st2, zg_ald, zg_ast, zs_ia, zs_i0, zcs, zg_ii, zi_max, zi_min, zi_abi, zi_abf, zi_fb, zi_bf, lget, lst, lst2, lc2, Option.map_some, zso, if_true, if_false, zc1, and_true, true_and, and_self, List.length_nil, List.length_cons, Nat.zero_le, reduceIte, reduceCtorEq, false_and, and_false, Bool.false_eq_true, zca_some, zr0, zr100, Option.bind_some, zb_none, zb_some, zrc, or_true, true_or, eq_self, ne_eq, not_true_eq_false, not_false_eq_true, zrt_i, zrt_zb, zrt_b, zrt_c, zrt_l, zrt_f, zrt_r, zrt_n, zrt_v, zft_0, zft_1, zft_zb, zft_3, zft_4, zft_5, zft_7r, zft_7n, iI_t, zb_i, zb_0, zb_1, Nat.reduceAdd, Nat.reduceLeDiff, Nat.reduceEqDiff, Nat.reduceSub, Int.reduceNeg, iI_add, iI_sub, iI_mul, iI_neg, iI_n, zbz, zchar_id, zin, zwr_s, zwr_a, zwr_i, if_pos, if_neg, Int.toNat_natCast, Int.natCast_zero, Int.reduceToNat, z97, zc3, zc6, e31, zt2]
/-- the level of the latest event on air ahead of a place -/
def leX (X : zD) : Nat → Int
  | 0 => -23
  | n + 1 => if X (lsE X 5 n) 7 < X (lsE X 5 n) 8 then X (X (lsE X 5 n) 0).toNat 3 else leX X n
set_option maxRecDepth 20000 in
theorem c96 {p : Nat} {h : zH} {X D S : zD} (hS : evS h X S) (hC : clO h X S) (hv : ∀ e : Nat, (e : Int) < S 32 15 → 0 ≤ S 40 e ∧ S 40 e < S 32 7) (hn : S 32 15 ≤ 12) (hp : (p : Int) ≤ S 32 15) (hb : ∀ e : Nat, (e : Int) < S 32 15 → iR (X (lsE X 5 e) 7) ∧ iR (X (lsE X 5 e) 8)) :
    zc 96 4 [.ref 3, .int (Int32.ofInt (p : Int))] (zV (zU h X) D) = some (.inl (some (.int (Int32.ofInt (leX X p)))), zV (zU h X) D) := by
  have h0 := hS.1.1
  have e175 := c175 (h := h) (X := X) (D := D) (a := 5) (by omega) h0.1
  rw [h0.2.1] at e175
  have key : ∀ (p : Nat) (x1 : Int32) (x3 : Option Value), (p : Int) ≤ S 32 15 → zx 96 14 [some (.ref 3), some (.int x1), some (.int (Int32.ofInt ((p : Int) - 1))), x3] [] (zV (zU h X) D) = some (.inl (some (.int (Int32.ofInt (leX X p)))), zV (zU h X) D) := by
    intro p
    induction p with
    | zero =>
      intro x1 x3 _
      have e : ((0 : Nat) : Int) - 1 = -1 := rfl
      rw [e, z96_14]
      unfold leX
      simp (disch := first | omega | (simp (disch := omega) only [zwr_s, zwr_a, zwr_i, zn_put, zn_new, zn_fil, zn_chg, zV_n]; omega)) only [zentry, zs0, zs1, zs2, zs3, zg_lo, zg_st, zg_st2, zg_ald, zg_ast, zs_ia, zs_i0, zcs, zg_ii, zi_max, zi_min, zi_abi, zi_abf, zi_fb, zi_bf, lget, lst, lst2, lc2, Option.map_some, zso, if_true, if_false, zc1, and_true, true_and, and_self, List.length_nil, List.length_cons, Nat.zero_le, reduceIte, reduceCtorEq, false_and, and_false, Bool.false_eq_true, zca_some, zr0, zr100, Option.bind_some, zb_none, zb_some, zrc, or_true, true_or, eq_self, ne_eq, not_true_eq_false, not_false_eq_true, zrt_i, zrt_zb, zrt_b, zrt_c, zrt_l, zrt_f, zrt_r, zrt_n, zrt_v, zft_0, zft_1, zft_zb, zft_3, zft_4, zft_5, zft_7r, zft_7n, iI_t, zb_i, zb_0, zb_1, Nat.reduceAdd, Nat.reduceLeDiff, Nat.reduceEqDiff, Nat.reduceSub, Int.reduceNeg, iI_add, iI_sub, iI_mul, iI_neg, iI_n, zbz, zchar_id, zin, zwr_s, zwr_a, zwr_i, if_pos, if_neg, Int.toNat_natCast, Int.natCast_zero, Int.reduceToNat, z96]
    | succ p ih =>
      intro x1 x3 hp
      obtain ⟨k1, k2, k3⟩ := hS.K (e := p) (by omega)
      have e171 := c171 (D := D) (i := (p : Int)) (Or.inr (Or.inl rfl)) hS.1 (by omega)
      rw [Int.toNat_natCast] at e171
      obtain ⟨b1, b2⟩ := hb p (by omega)
      have e6 := c6 (X := X) (D := D) k1 k3 b1 b2
      have ec := (hS.2.2 p (by omega)).1
      obtain ⟨c1, c2, c3⟩ := hC.K (e := (S 40 p).toNat) (by have := hv p (by omega); omega)
      have e : (((p + 1 : Nat) : Nat) : Int) - 1 = (p : Int) := by omega
      have i1 := ih x1 (some (.ref (lsE X 5 p))) (by omega)
      have e2 : (p : Int) + -1 = (p : Int) - 1 := by omega
      rw [e]
      conv => lhs; rw [z96_14]
      rw [leX, ec, Int.toNat_natCast]
      clear ih hb hv hS hC
      generalize leX X p = lv at *
      generalize lsE X 5 p = a at *
      generalize lsE X 4 (S 40 p).toNat = c at *
      by_cases g : X a 7 < X a 8
      · rw [if_pos g]
        rw [zb_t g] at e6
        simp (disch := first | omega | (simp (disch := omega) only [zwr_s, zwr_a, zwr_i, zn_put, zn_new, zn_fil, zn_chg, zV_n]; omega)) only [zentry, zs0, zs1, zs2, zs3, zg_lo, zg_st, zg_st2, zg_ald, zg_ast, zs_ia, zs_i0, zcs, zg_ii, zi_max, zi_min, zi_abi, zi_abf, zi_fb, zi_bf, lget, lst, lst2, lc2, Option.map_some, zso, if_true, if_false, zc1, and_true, true_and, and_self, List.length_nil, List.length_cons, Nat.zero_le, reduceIte, reduceCtorEq, false_and, and_false, Bool.false_eq_true, zca_some, zr0, zr100, Option.bind_some, zb_none, zb_some, zrc, or_true, true_or, eq_self, ne_eq, not_true_eq_false, not_false_eq_true, zrt_i, zrt_zb, zrt_b, zrt_c, zrt_l, zrt_f, zrt_r, zrt_n, zrt_v, zft_0, zft_1, zft_zb, zft_3, zft_4, zft_5, zft_7r, zft_7n, iI_t, zb_i, zb_0, zb_1, Nat.reduceAdd, Nat.reduceLeDiff, Nat.reduceEqDiff, Nat.reduceSub, Int.reduceNeg, iI_add, iI_sub, iI_mul, iI_neg, iI_n, zbz, zchar_id, zin, zwr_s, zwr_a, zwr_i, if_pos, if_neg, Int.toNat_natCast, Int.natCast_zero, Int.reduceToNat, z96, zc3, zuL (a := 5) (Or.inr (Or.inl rfl)) h0.1, zuE k1 k3, zuC c1 c3, e171, e6, ec, zt1, zt2]
      · rw [if_neg g, ← i1]
        rw [zb_f g] at e6
        simp (disch := first | omega | (simp (disch := omega) only [zwr_s, zwr_a, zwr_i, zn_put, zn_new, zn_fil, zn_chg, zV_n]; omega)) only [zentry, zs0, zs1, zs2, zs3, zg_lo, zg_st, zg_st2, zg_ald, zg_ast, zs_ia, zs_i0, zcs, zg_ii, zi_max, zi_min, zi_abi, zi_abf, zi_fb, zi_bf, lget, lst, lst2, lc2, Option.map_some, zso, if_true, if_false, zc1, and_true, true_and, and_self, List.length_nil, List.length_cons, Nat.zero_le, reduceIte, reduceCtorEq, false_and, and_false, Bool.false_eq_true, zca_some, zr0, zr100, Option.bind_some, zb_none, zb_some, zrc, or_true, true_or, eq_self, ne_eq, not_true_eq_false, not_false_eq_true, zrt_i, zrt_zb, zrt_b, zrt_c, zrt_l, zrt_f, zrt_r, zrt_n, zrt_v, zft_0, zft_1, zft_zb, zft_3, zft_4, zft_5, zft_7r, zft_7n, iI_t, zb_i, zb_0, zb_1, Nat.reduceAdd, Nat.reduceLeDiff, Nat.reduceEqDiff, Nat.reduceSub, Int.reduceNeg, iI_add, iI_sub, iI_mul, iI_neg, iI_n, zbz, zchar_id, zin, zwr_s, zwr_a, zwr_i, if_pos, if_neg, Int.toNat_natCast, Int.natCast_zero, Int.reduceToNat, z96, zc3, zuL (a := 5) (Or.inr (Or.inl rfl)) h0.1, zuE k1 k3, zuC c1 c3, e171, e6, ec, e2, zt1, zt2]
  have K := key p (Int32.ofInt (p : Int)) none hp
  have em : min (p : Int) (S 32 15) = p := by omega
  rw [← K, zc]
  clear hS hC hv hb key K
  simp (disch := first | omega | (simp (disch := omega) only [zwr_s, zwr_a, zwr_i, zn_put, zn_new, zn_fil, zn_chg, zV_n]; omega)) only [zentry, zs0, zs1, zs2, zs3, zg_lo, zg_st, zg_st2, zg_ald, zg_ast, zs_ia, zs_i0, zcs, zg_ii, zi_max, zi_min, zi_abi, zi_abf, zi_fb, zi_bf, lget, lst, lst2, lc2, Option.map_some, zso, if_true, if_false, zc1, and_true, true_and, and_self, List.length_nil, List.length_cons, Nat.zero_le, reduceIte, reduceCtorEq, false_and, and_false, Bool.false_eq_true, zca_some, zr0, zr100, Option.bind_some, zb_none, zb_some, zrc, or_true, true_or, eq_self, ne_eq, not_true_eq_false, not_false_eq_true, zrt_i, zrt_zb, zrt_b, zrt_c, zrt_l, zrt_f, zrt_r, zrt_n, zrt_v, zft_0, zft_1, zft_zb, zft_3, zft_4, zft_5, zft_7r, zft_7n, iI_t, zb_i, zb_0, zb_1, Nat.reduceAdd, Nat.reduceLeDiff, Nat.reduceEqDiff, Nat.reduceSub, Int.reduceNeg, iI_add, iI_sub, iI_mul, iI_neg, iI_n, zbz, zchar_id, zin, zwr_s, zwr_a, zwr_i, if_pos, if_neg, Int.toNat_natCast, Int.natCast_zero, Int.reduceToNat, z96, zc3, zuL (a := 5) (Or.inr (Or.inl rfl)) h0.1, e175, em, zt1]
set_option maxRecDepth 20000 in
theorem c93 {e : Nat} {ba : Nat → Int} {h : zH} {X D S : zD} (hS : evS h X S) (hC : clO h X S) (hE : mEvs S) (hM : mCl S) (hd : D 3 5 = S 32 16) (he : (e : Int) < S 32 15) (hb : ∀ n : Nat, n < e → X (lsE X 5 n) 5 = ba n ∧ (ba n = 0 ∨ ba n = 1)) :
    zc 93 6 [.ref 3, .int (Int32.ofInt (e : Int)), .ref (lsE X 4 (S 40 e).toNat)] (zV (zU h X) D) = some (.inl (some (.int (Int32.ofInt (zb (lyBar S ba e))))), zV (zU h X) D) := by
  have h0 := hS.1.1
  have h12 := hE.1.2
  have h16 := hM.2.1
  have e175 := c175 (h := h) (X := X) (D := D) (a := 5) (by omega) h0.1
  rw [h0.2.1] at e175
  have hv := (hE.2.1 e he).1
  obtain ⟨c1', c2', c3'⟩ := hC.K (e := (S 40 e).toNat) (by omega)
  have hc := hC.2 (S 40 e).toNat (by omega)
  have h35 := hE.2.2.1 (S 40 e).toNat
  obtain ⟨q0, q1, q2, q3, q4, q5, q6, q7⟩ := hc
  have hM1 := hM.2.2 (S 40 e).toNat (by omega)
  have e1 := c1 (X := X) (D := D) (d := S 32 16) c1' c3' (by omega) (by omega) (by omega)
  rw [q4, q5] at e1
  have q0 : X (lsE X 4 (S 40 e).toNat) 0 = S 40 e := by omega
  have hM7 := hM.1
  have step : ∀ (n i : Nat) (x5 : Option Value), i + n = e → zx 93 18 [some (.ref 3), some (.int (Int32.ofInt (e : Int))), some (.ref (lsE X 4 (S 40 e).toNat)), some (.int (Int32.ofInt (smB S ba e i))), some (.int (Int32.ofInt (i : Int))), x5] [] (zV (zU h X) D) = some (.inl (some (.int (Int32.ofInt (zb (S 35 (S 40 e).toNat ≤ smB S ba e e))))), zV (zU h X) D) := by
    intro n
    induction n with
    | zero =>
      intro i x5 hi
      have : i = e := by omega
      subst this
      have b := smB_b (S := S) (ba := ba) (e := i) i
      rw [z93_18]
      clear hb hC hS hE hM hM1 e1
      generalize smB S ba i i = sm at *
      generalize lsE X 4 (S 40 i).toNat = c at *
      by_cases g : S 35 (S 40 i).toNat ≤ sm
      · rw [zb_t g]
        simp (disch := first | omega | (simp (disch := omega) only [zwr_s, zwr_a, zwr_i, zn_put, zn_new, zn_fil, zn_chg, zV_n]; omega)) only [zentry, zs0, zs1, zs2, zs3, zg_lo, zg_st, zg_st2, zg_ald, zg_ast, zs_ia, zs_i0, zcs, zg_ii, zi_max, zi_min, zi_abi, zi_abf, zi_fb, zi_bf, lget, lst, lst2, lc2, Option.map_some, zso, if_true, if_false, zc1, and_true, true_and, and_self, List.length_nil, List.length_cons, Nat.zero_le, reduceIte, reduceCtorEq, false_and, and_false, Bool.false_eq_true, zca_some, zr0, zr100, Option.bind_some, zb_none, zb_some, zrc, or_true, true_or, eq_self, ne_eq, not_true_eq_false, not_false_eq_true, zrt_i, zrt_zb, zrt_b, zrt_c, zrt_l, zrt_f, zrt_r, zrt_n, zrt_v, zft_0, zft_1, zft_zb, zft_3, zft_4, zft_5, zft_7r, zft_7n, iI_t, zb_i, zb_0, zb_1, Nat.reduceAdd, Nat.reduceLeDiff, Nat.reduceEqDiff, Nat.reduceSub, Int.reduceNeg, iI_add, iI_sub, iI_mul, iI_neg, iI_n, zbz, zchar_id, zin, zwr_s, zwr_a, zwr_i, if_pos, if_neg, Int.toNat_natCast, Int.natCast_zero, Int.reduceToNat, z93, zc3, zuL (a := 5) (Or.inr (Or.inl rfl)) h0.1, zuC c1' c3', e175, q6, zt1]
      · rw [zb_f g]
        simp (disch := first | omega | (simp (disch := omega) only [zwr_s, zwr_a, zwr_i, zn_put, zn_new, zn_fil, zn_chg, zV_n]; omega)) only [zentry, zs0, zs1, zs2, zs3, zg_lo, zg_st, zg_st2, zg_ald, zg_ast, zs_ia, zs_i0, zcs, zg_ii, zi_max, zi_min, zi_abi, zi_abf, zi_fb, zi_bf, lget, lst, lst2, lc2, Option.map_some, zso, if_true, if_false, zc1, and_true, true_and, and_self, List.length_nil, List.length_cons, Nat.zero_le, reduceIte, reduceCtorEq, false_and, and_false, Bool.false_eq_true, zca_some, zr0, zr100, Option.bind_some, zb_none, zb_some, zrc, or_true, true_or, eq_self, ne_eq, not_true_eq_false, not_false_eq_true, zrt_i, zrt_zb, zrt_b, zrt_c, zrt_l, zrt_f, zrt_r, zrt_n, zrt_v, zft_0, zft_1, zft_zb, zft_3, zft_4, zft_5, zft_7r, zft_7n, iI_t, zb_i, zb_0, zb_1, Nat.reduceAdd, Nat.reduceLeDiff, Nat.reduceEqDiff, Nat.reduceSub, Int.reduceNeg, iI_add, iI_sub, iI_mul, iI_neg, iI_n, zbz, zchar_id, zin, zwr_s, zwr_a, zwr_i, if_pos, if_neg, Int.toNat_natCast, Int.natCast_zero, Int.reduceToNat, z93, zc3, zuL (a := 5) (Or.inr (Or.inl rfl)) h0.1, zuC c1' c3', e175, q6, zt1]
    | succ n ih =>
      intro i x5 hi
      obtain ⟨k1, k2, k3⟩ := hS.K (e := i) (by omega)
      have e171 := c171 (D := D) (i := (i : Int)) (Or.inr (Or.inl rfl)) hS.1 (by omega)
      rw [Int.toNat_natCast] at e171
      have ec := (hS.2.2 i (by omega)).1
      have hvi := (hE.2.1 i (by omega)).1
      obtain ⟨d1, d2, d3⟩ := hC.K (e := (S 40 i).toNat) (by omega)
      have p0 : X (lsE X 4 (S 40 i).toNat) 0 = S 40 i := by
        have := (hC.2 (S 40 i).toNat (by omega)).1
        omega
      obtain ⟨b1, b2⟩ := hb i (by omega)
      have b := smB_b (S := S) (ba := ba) (e := e) i
      have i1 := ih (i + 1) (some (.ref (lsE X 5 i))) (by omega)
      rw [← i1]
      have ei : ((i + 1 : Nat) : Int) = (i : Int) + 1 := by omega
      conv => lhs; rw [z93_18]
      conv => rhs; unfold smB
      clear ih i1 hb hC hS hE hM hM1 e1
      generalize smB S ba e i = sm at *
      generalize lsE X 5 i = a at *
      generalize lsE X 4 (S 40 i).toNat = c2 at *
      generalize lsE X 4 (S 40 e).toNat = c at *
      by_cases g : ba i = 0
      · by_cases g2 : S 40 i = S 40 e
        · rw [if_pos ⟨g, g2⟩]
          simp (disch := first | omega | (simp (disch := omega) only [zwr_s, zwr_a, zwr_i, zn_put, zn_new, zn_fil, zn_chg, zV_n]; omega)) only [zentry, zs0, zs1, zs2, zs3, zg_lo, zg_st, zg_st2, zg_ald, zg_ast, zs_ia, zs_i0, zcs, zg_ii, zi_max, zi_min, zi_abi, zi_abf, zi_fb, zi_bf, lget, lst, lst2, lc2, Option.map_some, zso, if_true, if_false, zc1, and_true, true_and, and_self, List.length_nil, List.length_cons, Nat.zero_le, reduceIte, reduceCtorEq, false_and, and_false, Bool.false_eq_true, zca_some, zr0, zr100, Option.bind_some, zb_none, zb_some, zrc, or_true, true_or, eq_self, ne_eq, not_true_eq_false, not_false_eq_true, zrt_i, zrt_zb, zrt_b, zrt_c, zrt_l, zrt_f, zrt_r, zrt_n, zrt_v, zft_0, zft_1, zft_zb, zft_3, zft_4, zft_5, zft_7r, zft_7n, iI_t, zb_i, zb_0, zb_1, Nat.reduceAdd, Nat.reduceLeDiff, Nat.reduceEqDiff, Nat.reduceSub, Int.reduceNeg, iI_add, iI_sub, iI_mul, iI_neg, iI_n, zbz, zchar_id, zin, zwr_s, zwr_a, zwr_i, if_pos, if_neg, Int.toNat_natCast, Int.natCast_zero, Int.reduceToNat, z93, zc3, zuL (a := 5) (Or.inr (Or.inl rfl)) h0.1, zuE k1 k3, zuC c1' c3', zuC d1 d3, e175, e171, ec, b1, g, g2, p0, q0, ei, zt1, zt2]
        · rw [if_neg (fun w => g2 w.2)]
          simp (disch := first | omega | (simp (disch := omega) only [zwr_s, zwr_a, zwr_i, zn_put, zn_new, zn_fil, zn_chg, zV_n]; omega)) only [zentry, zs0, zs1, zs2, zs3, zg_lo, zg_st, zg_st2, zg_ald, zg_ast, zs_ia, zs_i0, zcs, zg_ii, zi_max, zi_min, zi_abi, zi_abf, zi_fb, zi_bf, lget, lst, lst2, lc2, Option.map_some, zso, if_true, if_false, zc1, and_true, true_and, and_self, List.length_nil, List.length_cons, Nat.zero_le, reduceIte, reduceCtorEq, false_and, and_false, Bool.false_eq_true, zca_some, zr0, zr100, Option.bind_some, zb_none, zb_some, zrc, or_true, true_or, eq_self, ne_eq, not_true_eq_false, not_false_eq_true, zrt_i, zrt_zb, zrt_b, zrt_c, zrt_l, zrt_f, zrt_r, zrt_n, zrt_v, zft_0, zft_1, zft_zb, zft_3, zft_4, zft_5, zft_7r, zft_7n, iI_t, zb_i, zb_0, zb_1, Nat.reduceAdd, Nat.reduceLeDiff, Nat.reduceEqDiff, Nat.reduceSub, Int.reduceNeg, iI_add, iI_sub, iI_mul, iI_neg, iI_n, zbz, zchar_id, zin, zwr_s, zwr_a, zwr_i, if_pos, if_neg, Int.toNat_natCast, Int.natCast_zero, Int.reduceToNat, z93, zc3, zuL (a := 5) (Or.inr (Or.inl rfl)) h0.1, zuE k1 k3, zuC c1' c3', zuC d1 d3, e175, e171, ec, b1, g, p0, q0, ei, Int.add_zero, zt1, zt2]
      · rw [if_neg (fun w => g w.1)]
        have g1 : ba i = 1 := by omega
        simp (disch := first | omega | (simp (disch := omega) only [zwr_s, zwr_a, zwr_i, zn_put, zn_new, zn_fil, zn_chg, zV_n]; omega)) only [zentry, zs0, zs1, zs2, zs3, zg_lo, zg_st, zg_st2, zg_ald, zg_ast, zs_ia, zs_i0, zcs, zg_ii, zi_max, zi_min, zi_abi, zi_abf, zi_fb, zi_bf, lget, lst, lst2, lc2, Option.map_some, zso, if_true, if_false, zc1, and_true, true_and, and_self, List.length_nil, List.length_cons, Nat.zero_le, reduceIte, reduceCtorEq, false_and, and_false, Bool.false_eq_true, zca_some, zr0, zr100, Option.bind_some, zb_none, zb_some, zrc, or_true, true_or, eq_self, ne_eq, not_true_eq_false, not_false_eq_true, zrt_i, zrt_zb, zrt_b, zrt_c, zrt_l, zrt_f, zrt_r, zrt_n, zrt_v, zft_0, zft_1, zft_zb, zft_3, zft_4, zft_5, zft_7r, zft_7n, iI_t, zb_i, zb_0, zb_1, Nat.reduceAdd, Nat.reduceLeDiff, Nat.reduceEqDiff, Nat.reduceSub, Int.reduceNeg, iI_add, iI_sub, iI_mul, iI_neg, iI_n, zbz, zchar_id, zin, zwr_s, zwr_a, zwr_i, if_pos, if_neg, Int.toNat_natCast, Int.natCast_zero, Int.reduceToNat, z93, zc3, zuL (a := 5) (Or.inr (Or.inl rfl)) h0.1, zuE k1 k3, zuC c1' c3', zuC d1 d3, e175, e171, ec, b1, g1, p0, q0, ei, Int.add_zero, zt1, zt2]
  have K := step e 0 none (by omega)
  have s0 : smB S ba e 0 = 0 := rfl
  rw [s0, Int.natCast_zero] at K
  rw [zc]
  unfold lyBar
  clear step hb hC hS hE hM hM1
  generalize smB S ba e e = sm at *
  generalize lsE X 4 (S 40 e).toNat = c at *
  by_cases g1 : S 36 (S 40 e).toNat ≤ S 32 16 ∧ S 32 16 ≤ S 37 (S 40 e).toNat
  · rw [zb_t g1] at e1
    by_cases g2 : S 35 (S 40 e).toNat ≤ sm
    · rw [zb_t (Or.inr g2)]
      rw [zb_t g2] at K
      simp (disch := first | omega | (simp (disch := omega) only [zwr_s, zwr_a, zwr_i, zn_put, zn_new, zn_fil, zn_chg, zV_n]; omega)) only [zentry, zs0, zs1, zs2, zs3, zg_lo, zg_st, zg_st2, zg_ald, zg_ast, zs_ia, zs_i0, zcs, zg_ii, zi_max, zi_min, zi_abi, zi_abf, zi_fb, zi_bf, lget, lst, lst2, lc2, Option.map_some, zso, if_true, if_false, zc1, and_true, true_and, and_self, List.length_nil, List.length_cons, Nat.zero_le, reduceIte, reduceCtorEq, false_and, and_false, Bool.false_eq_true, zca_some, zr0, zr100, Option.bind_some, zb_none, zb_some, zrc, or_true, true_or, eq_self, ne_eq, not_true_eq_false, not_false_eq_true, zrt_i, zrt_zb, zrt_b, zrt_c, zrt_l, zrt_f, zrt_r, zrt_n, zrt_v, zft_0, zft_1, zft_zb, zft_3, zft_4, zft_5, zft_7r, zft_7n, iI_t, zb_i, zb_0, zb_1, Nat.reduceAdd, Nat.reduceLeDiff, Nat.reduceEqDiff, Nat.reduceSub, Int.reduceNeg, iI_add, iI_sub, iI_mul, iI_neg, iI_n, zbz, zchar_id, zin, zwr_s, zwr_a, zwr_i, if_pos, if_neg, Int.toNat_natCast, Int.natCast_zero, Int.reduceToNat, z93, zc3, zuL (a := 5) (Or.inr (Or.inl rfl)) h0.1, zuC c1' c3', e1, hd, K, zt2]
    · rw [zb_f (by omega)]
      rw [zb_f g2] at K
      simp (disch := first | omega | (simp (disch := omega) only [zwr_s, zwr_a, zwr_i, zn_put, zn_new, zn_fil, zn_chg, zV_n]; omega)) only [zentry, zs0, zs1, zs2, zs3, zg_lo, zg_st, zg_st2, zg_ald, zg_ast, zs_ia, zs_i0, zcs, zg_ii, zi_max, zi_min, zi_abi, zi_abf, zi_fb, zi_bf, lget, lst, lst2, lc2, Option.map_some, zso, if_true, if_false, zc1, and_true, true_and, and_self, List.length_nil, List.length_cons, Nat.zero_le, reduceIte, reduceCtorEq, false_and, and_false, Bool.false_eq_true, zca_some, zr0, zr100, Option.bind_some, zb_none, zb_some, zrc, or_true, true_or, eq_self, ne_eq, not_true_eq_false, not_false_eq_true, zrt_i, zrt_zb, zrt_b, zrt_c, zrt_l, zrt_f, zrt_r, zrt_n, zrt_v, zft_0, zft_1, zft_zb, zft_3, zft_4, zft_5, zft_7r, zft_7n, iI_t, zb_i, zb_0, zb_1, Nat.reduceAdd, Nat.reduceLeDiff, Nat.reduceEqDiff, Nat.reduceSub, Int.reduceNeg, iI_add, iI_sub, iI_mul, iI_neg, iI_n, zbz, zchar_id, zin, zwr_s, zwr_a, zwr_i, if_pos, if_neg, Int.toNat_natCast, Int.natCast_zero, Int.reduceToNat, z93, zc3, zuL (a := 5) (Or.inr (Or.inl rfl)) h0.1, zuC c1' c3', e1, hd, K, zt2]
  · rw [zb_f g1] at e1
    rw [zb_t (Or.inl g1)]
    simp (disch := first | omega | (simp (disch := omega) only [zwr_s, zwr_a, zwr_i, zn_put, zn_new, zn_fil, zn_chg, zV_n]; omega)) only [zentry, zs0, zs1, zs2, zs3, zg_lo, zg_st, zg_st2, zg_ald, zg_ast, zs_ia, zs_i0, zcs, zg_ii, zi_max, zi_min, zi_abi, zi_abf, zi_fb, zi_bf, lget, lst, lst2, lc2, Option.map_some, zso, if_true, if_false, zc1, and_true, true_and, and_self, List.length_nil, List.length_cons, Nat.zero_le, reduceIte, reduceCtorEq, false_and, and_false, Bool.false_eq_true, zca_some, zr0, zr100, Option.bind_some, zb_none, zb_some, zrc, or_true, true_or, eq_self, ne_eq, not_true_eq_false, not_false_eq_true, zrt_i, zrt_zb, zrt_b, zrt_c, zrt_l, zrt_f, zrt_r, zrt_n, zrt_v, zft_0, zft_1, zft_zb, zft_3, zft_4, zft_5, zft_7r, zft_7n, iI_t, zb_i, zb_0, zb_1, Nat.reduceAdd, Nat.reduceLeDiff, Nat.reduceEqDiff, Nat.reduceSub, Int.reduceNeg, iI_add, iI_sub, iI_mul, iI_neg, iI_n, zbz, zchar_id, zin, zwr_s, zwr_a, zwr_i, if_pos, if_neg, Int.toNat_natCast, Int.natCast_zero, Int.reduceToNat, z93, zc3, zuL (a := 5) (Or.inr (Or.inl rfl)) h0.1, zuC c1' c3', e1, hd, zt2]

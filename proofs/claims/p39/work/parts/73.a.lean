/-! today's pieces are taken: the clips' values S beside the cells D -/
def clP (h : zH) (X S : zD) : Prop := lsO h X 4 (S 32 7) 0 ∧ ∀ i : Nat, (i : Int) < S 32 7 → X (lsE X 4 i) 0 = i ∧ X (lsE X 4 i) 1 = S 38 i ∧ X (lsE X 4 i) 2 = S 33 i ∧ X (lsE X 4 i) 3 = S 34 i ∧ X (lsE X 4 i) 4 = S 36 i ∧ X (lsE X 4 i) 5 = S 37 i
def fiNuS (S D : zD) : Prop := ∀ k : Nat, (k : Int) < D 14 3 → D 16 k = S 33 (D 15 k).toNat ∧ D 17 k = S 34 (D 15 k).toNat
/-- the pieces L are noted -/
def tkS (S D : zD) (L : List Nat) : zD := fun a i => if i < L.length ∧ a = 15 then (L.getD i 0 : Nat) else if i < L.length ∧ a = 16 then S 33 (L.getD i 0) else if i < L.length ∧ a = 17 then S 34 (L.getD i 0) else D a i
theorem tkS_o {S D : zD} {L : List Nat} {a i : Nat} (h : a ≠ 15 ∧ a ≠ 16 ∧ a ≠ 17) : tkS S D L a i = D a i := by
  unfold tkS
  rw [if_neg (by omega), if_neg (by omega), if_neg (by omega)]
theorem tkS_n {S D : zD} {L : List Nat} {a i : Nat} (h : L.length ≤ i) : tkS S D L a i = D a i := by
  unfold tkS
  rw [if_neg (by omega), if_neg (by omega), if_neg (by omega)]
theorem tkS_0 {S D : zD} : tkS S D [] = D := by
  funext a i
  exact tkS_n (Nat.zero_le _)
theorem tkS_s {S D : zD} {L : List Nat} {c : Nat} : zwr (zwr (zwr (tkS S D L) 15 L.length (c : Int)) 16 L.length (S 33 c)) 17 L.length (S 34 c) = tkS S D (L ++ [c]) := by
  have gl : ∀ i, i < L.length → (L ++ [c]).getD i 0 = L.getD i 0 := fun i hi => by
    rw [List.getD_eq_getElem?_getD, List.getD_eq_getElem?_getD, List.getElem?_append_left hi]
  have ge : (L ++ [c]).getD L.length 0 = c := by
    rw [List.getD_eq_getElem?_getD, List.getElem?_append_right (Nat.le_refl _), Nat.sub_self]
    rfl
  have ln : (L ++ [c]).length = L.length + 1 := by rw [List.length_append]; rfl
  funext a i
  by_cases g : i = L.length
  · subst g
    by_cases ga : a = 15 ∨ a = 16 ∨ a = 17
    · rcases ga with rfl | rfl | rfl
      · rw [zwr_a (by omega), zwr_a (by omega), zwr_s]
        unfold tkS
        rw [if_pos (by omega), ge]
      · rw [zwr_a (by omega), zwr_s]
        unfold tkS
        rw [if_neg (by omega), if_pos (by omega), ge]
      · rw [zwr_s]
        unfold tkS
        rw [if_neg (by omega), if_neg (by omega), if_pos (by omega), ge]
    · rw [zwr_a (by omega), zwr_a (by omega), zwr_a (by omega), tkS_o (by omega), tkS_o (by omega)]
  · rw [zwr_i g, zwr_i g, zwr_i g]
    by_cases g2 : i < L.length
    · unfold tkS
      rw [gl i g2, ln]
      by_cases g3 : a = 15
      · rw [if_pos (by omega), if_pos (by omega)]
      · by_cases g4 : a = 16
        · rw [if_neg (by omega), if_pos (by omega), if_neg (by omega), if_pos (by omega)]
        · by_cases g5 : a = 17
          · rw [if_neg (by omega), if_neg (by omega), if_pos (by omega), if_neg (by omega), if_neg (by omega), if_pos (by omega)]
          · rw [if_neg (by omega), if_neg (by omega), if_neg (by omega), if_neg (by omega), if_neg (by omega), if_neg (by omega)]
    · rw [tkS_n (by omega), tkS_n (by omega)]
set_option maxRecDepth 20000 in
theorem c9s_e {d : Int32} {c : Nat} {s : Int} {h : zH} {X S D : zD} {L : List Nat} {x6 : Option Value} (hk : zk h 4 = 7) (hn : 0 ≤ X 4 2 ∧ X 4 2 ≤ 12) (hc : c ≤ 12) (hL : L.length ≤ 8) (hx : X 4 2 ≤ c ∨ L.length = 8) (h3 : 0 ≤ D 14 3 ∧ D 14 3 ≤ 8) (h5 : D 14 5 = 0 ∨ D 14 5 = 1) (hs : s = 0 ∨ s = 1) :
    zx 9 8 [some (.ref 14), some (.ref 4), some (.int d), some (.int (Int32.ofInt (L.length : Int))), some (.int (Int32.ofInt s)), some (.int (Int32.ofInt (c : Int))), x6] [] (zV (zU h X) (tkS S D L)) = some (.inl none, zV (zU h X) (zwr (zwr (tkS S D L) 14 5 (zb (D 14 5 = 1 ∧ s = 1 ∧ (L.length : Int) = D 14 3))) 14 3 (L.length : Int))) := by
  have e1 : tkS S D L 14 3 = D 14 3 := tkS_o (by omega)
  have e2 : tkS S D L 14 5 = D 14 5 := tkS_o (by omega)
  have e175 := c175 (h := h) (X := X) (D := tkS S D L) (a := 4) (by omega) hk
  generalize tkS S D L = D1 at *
  generalize L.length = l at *
  rw [z9_8]
  rw [← e1, ← e2]
  rw [← e1] at h3
  rw [← e2] at h5
  by_cases g1 : D1 14 5 = 1
  · by_cases g2 : s = 1
    · by_cases g3 : (l : Int) = D1 14 3
      · rw [zb_t ⟨g1, g2, g3⟩]
        rcases hx with hx | hx
        · simp (disch := first | omega | (simp (disch := omega) only [zwr_s, zwr_a, zwr_i, zn_put, zn_new, zn_fil, zn_chg, zV_n]; omega)) only [zentry, zs0, zs1, zs2, zs3, zg_lo, zg_st, zg_st2, zg_ald, zg_ast, zs_ia, zs_i0, zcs, zg_ii, zi_max, zi_min, zi_abi, zi_abf, zi_fb, zi_bf, lget, lst, lst2, lc2, Option.map_some, zso, if_true, if_false, zc1, and_true, true_and, and_self, List.length_nil, List.length_cons, Nat.zero_le, reduceIte, reduceCtorEq, false_and, and_false, Bool.false_eq_true, zca_some, zr0, zr100, Option.bind_some, zb_none, zb_some, zrc, or_true, true_or, eq_self, ne_eq, not_true_eq_false, not_false_eq_true, zrt_i, zrt_zb, zrt_b, zrt_c, zrt_l, zrt_f, zrt_r, zrt_n, zrt_v, zft_0, zft_1, zft_zb, zft_3, zft_4, zft_5, zft_7r, zft_7n, iI_t, zb_i, zb_0, zb_1, Nat.reduceAdd, Nat.reduceLeDiff, Nat.reduceEqDiff, Nat.reduceSub, Int.reduceNeg, iI_add, iI_sub, iI_mul, iI_neg, iI_n, zbz, zchar_id, zin, zwr_s, zwr_a, zwr_i, if_pos, if_neg, Int.toNat_natCast, Int.natCast_zero, Int.reduceToNat, z9, e175, zuL (a := 4) (Or.inl rfl) hk, zc14, zt1]
        · by_cases g4 : X 4 2 ≤ c
          · simp (disch := first | omega | (simp (disch := omega) only [zwr_s, zwr_a, zwr_i, zn_put, zn_new, zn_fil, zn_chg, zV_n]; omega)) only [zentry, zs0, zs1, zs2, zs3, zg_lo, zg_st, zg_st2, zg_ald, zg_ast, zs_ia, zs_i0, zcs, zg_ii, zi_max, zi_min, zi_abi, zi_abf, zi_fb, zi_bf, lget, lst, lst2, lc2, Option.map_some, zso, if_true, if_false, zc1, and_true, true_and, and_self, List.length_nil, List.length_cons, Nat.zero_le, reduceIte, reduceCtorEq, false_and, and_false, Bool.false_eq_true, zca_some, zr0, zr100, Option.bind_some, zb_none, zb_some, zrc, or_true, true_or, eq_self, ne_eq, not_true_eq_false, not_false_eq_true, zrt_i, zrt_zb, zrt_b, zrt_c, zrt_l, zrt_f, zrt_r, zrt_n, zrt_v, zft_0, zft_1, zft_zb, zft_3, zft_4, zft_5, zft_7r, zft_7n, iI_t, zb_i, zb_0, zb_1, Nat.reduceAdd, Nat.reduceLeDiff, Nat.reduceEqDiff, Nat.reduceSub, Int.reduceNeg, iI_add, iI_sub, iI_mul, iI_neg, iI_n, zbz, zchar_id, zin, zwr_s, zwr_a, zwr_i, if_pos, if_neg, Int.toNat_natCast, Int.natCast_zero, Int.reduceToNat, z9, e175, zuL (a := 4) (Or.inl rfl) hk, zc14, zt1]
          · simp (disch := first | omega | (simp (disch := omega) only [zwr_s, zwr_a, zwr_i, zn_put, zn_new, zn_fil, zn_chg, zV_n]; omega)) only [zentry, zs0, zs1, zs2, zs3, zg_lo, zg_st, zg_st2, zg_ald, zg_ast, zs_ia, zs_i0, zcs, zg_ii, zi_max, zi_min, zi_abi, zi_abf, zi_fb, zi_bf, lget, lst, lst2, lc2, Option.map_some, zso, if_true, if_false, zc1, and_true, true_and, and_self, List.length_nil, List.length_cons, Nat.zero_le, reduceIte, reduceCtorEq, false_and, and_false, Bool.false_eq_true, zca_some, zr0, zr100, Option.bind_some, zb_none, zb_some, zrc, or_true, true_or, eq_self, ne_eq, not_true_eq_false, not_false_eq_true, zrt_i, zrt_zb, zrt_b, zrt_c, zrt_l, zrt_f, zrt_r, zrt_n, zrt_v, zft_0, zft_1, zft_zb, zft_3, zft_4, zft_5, zft_7r, zft_7n, iI_t, zb_i, zb_0, zb_1, Nat.reduceAdd, Nat.reduceLeDiff, Nat.reduceEqDiff, Nat.reduceSub, Int.reduceNeg, iI_add, iI_sub, iI_mul, iI_neg, iI_n, zbz, zchar_id, zin, zwr_s, zwr_a, zwr_i, if_pos, if_neg, Int.toNat_natCast, Int.natCast_zero, Int.reduceToNat, z9, e175, zuL (a := 4) (Or.inl rfl) hk, zc14, zt1]
      · rw [zb_f (fun q => g3 q.2.2)]
        by_cases g4 : X 4 2 ≤ c
        · simp (disch := first | omega | (simp (disch := omega) only [zwr_s, zwr_a, zwr_i, zn_put, zn_new, zn_fil, zn_chg, zV_n]; omega)) only [zentry, zs0, zs1, zs2, zs3, zg_lo, zg_st, zg_st2, zg_ald, zg_ast, zs_ia, zs_i0, zcs, zg_ii, zi_max, zi_min, zi_abi, zi_abf, zi_fb, zi_bf, lget, lst, lst2, lc2, Option.map_some, zso, if_true, if_false, zc1, and_true, true_and, and_self, List.length_nil, List.length_cons, Nat.zero_le, reduceIte, reduceCtorEq, false_and, and_false, Bool.false_eq_true, zca_some, zr0, zr100, Option.bind_some, zb_none, zb_some, zrc, or_true, true_or, eq_self, ne_eq, not_true_eq_false, not_false_eq_true, zrt_i, zrt_zb, zrt_b, zrt_c, zrt_l, zrt_f, zrt_r, zrt_n, zrt_v, zft_0, zft_1, zft_zb, zft_3, zft_4, zft_5, zft_7r, zft_7n, iI_t, zb_i, zb_0, zb_1, Nat.reduceAdd, Nat.reduceLeDiff, Nat.reduceEqDiff, Nat.reduceSub, Int.reduceNeg, iI_add, iI_sub, iI_mul, iI_neg, iI_n, zbz, zchar_id, zin, zwr_s, zwr_a, zwr_i, if_pos, if_neg, Int.toNat_natCast, Int.natCast_zero, Int.reduceToNat, z9, e175, zuL (a := 4) (Or.inl rfl) hk, zc14, zt1]
        · simp (disch := first | omega | (simp (disch := omega) only [zwr_s, zwr_a, zwr_i, zn_put, zn_new, zn_fil, zn_chg, zV_n]; omega)) only [zentry, zs0, zs1, zs2, zs3, zg_lo, zg_st, zg_st2, zg_ald, zg_ast, zs_ia, zs_i0, zcs, zg_ii, zi_max, zi_min, zi_abi, zi_abf, zi_fb, zi_bf, lget, lst, lst2, lc2, Option.map_some, zso, if_true, if_false, zc1, and_true, true_and, and_self, List.length_nil, List.length_cons, Nat.zero_le, reduceIte, reduceCtorEq, false_and, and_false, Bool.false_eq_true, zca_some, zr0, zr100, Option.bind_some, zb_none, zb_some, zrc, or_true, true_or, eq_self, ne_eq, not_true_eq_false, not_false_eq_true, zrt_i, zrt_zb, zrt_b, zrt_c, zrt_l, zrt_f, zrt_r, zrt_n, zrt_v, zft_0, zft_1, zft_zb, zft_3, zft_4, zft_5, zft_7r, zft_7n, iI_t, zb_i, zb_0, zb_1, Nat.reduceAdd, Nat.reduceLeDiff, Nat.reduceEqDiff, Nat.reduceSub, Int.reduceNeg, iI_add, iI_sub, iI_mul, iI_neg, iI_n, zbz, zchar_id, zin, zwr_s, zwr_a, zwr_i, if_pos, if_neg, Int.toNat_natCast, Int.natCast_zero, Int.reduceToNat, z9, e175, zuL (a := 4) (Or.inl rfl) hk, zc14, zt1]
    · rw [zb_f (fun q => g2 q.2.1)]
      by_cases g4 : X 4 2 ≤ c
      · simp (disch := first | omega | (simp (disch := omega) only [zwr_s, zwr_a, zwr_i, zn_put, zn_new, zn_fil, zn_chg, zV_n]; omega)) only [zentry, zs0, zs1, zs2, zs3, zg_lo, zg_st, zg_st2, zg_ald, zg_ast, zs_ia, zs_i0, zcs, zg_ii, zi_max, zi_min, zi_abi, zi_abf, zi_fb, zi_bf, lget, lst, lst2, lc2, Option.map_some, zso, if_true, if_false, zc1, and_true, true_and, and_self, List.length_nil, List.length_cons, Nat.zero_le, reduceIte, reduceCtorEq, false_and, and_false, Bool.false_eq_true, zca_some, zr0, zr100, Option.bind_some, zb_none, zb_some, zrc, or_true, true_or, eq_self, ne_eq, not_true_eq_false, not_false_eq_true, zrt_i, zrt_zb, zrt_b, zrt_c, zrt_l, zrt_f, zrt_r, zrt_n, zrt_v, zft_0, zft_1, zft_zb, zft_3, zft_4, zft_5, zft_7r, zft_7n, iI_t, zb_i, zb_0, zb_1, Nat.reduceAdd, Nat.reduceLeDiff, Nat.reduceEqDiff, Nat.reduceSub, Int.reduceNeg, iI_add, iI_sub, iI_mul, iI_neg, iI_n, zbz, zchar_id, zin, zwr_s, zwr_a, zwr_i, if_pos, if_neg, Int.toNat_natCast, Int.natCast_zero, Int.reduceToNat, z9, e175, zuL (a := 4) (Or.inl rfl) hk, zc14, zt1]
      · simp (disch := first | omega | (simp (disch := omega) only [zwr_s, zwr_a, zwr_i, zn_put, zn_new, zn_fil, zn_chg, zV_n]; omega)) only [zentry, zs0, zs1, zs2, zs3, zg_lo, zg_st, zg_st2, zg_ald, zg_ast, zs_ia, zs_i0, zcs, zg_ii, zi_max, zi_min, zi_abi, zi_abf, zi_fb, zi_bf, lget, lst, lst2, lc2, Option.map_some, zso, if_true, if_false, zc1, and_true, true_and, and_self, List.length_nil, List.length_cons, Nat.zero_le, reduceIte, reduceCtorEq, false_and, and_false, Bool.false_eq_true, zca_some, zr0, zr100, Option.bind_some, zb_none, zb_some, zrc, or_true, true_or, eq_self, ne_eq, not_true_eq_false, not_false_eq_true, zrt_i, zrt_zb, zrt_b, zrt_c, zrt_l, zrt_f, zrt_r, zrt_n, zrt_v, zft_0, zft_1, zft_zb, zft_3, zft_4, zft_5, zft_7r, zft_7n, iI_t, zb_i, zb_0, zb_1, Nat.reduceAdd, Nat.reduceLeDiff, Nat.reduceEqDiff, Nat.reduceSub, Int.reduceNeg, iI_add, iI_sub, iI_mul, iI_neg, iI_n, zbz, zchar_id, zin, zwr_s, zwr_a, zwr_i, if_pos, if_neg, Int.toNat_natCast, Int.natCast_zero, Int.reduceToNat, z9, e175, zuL (a := 4) (Or.inl rfl) hk, zc14, zt1]
  · rw [zb_f (fun q => g1 q.1)]
    by_cases g4 : X 4 2 ≤ c
    · simp (disch := first | omega | (simp (disch := omega) only [zwr_s, zwr_a, zwr_i, zn_put, zn_new, zn_fil, zn_chg, zV_n]; omega)) only [zentry, zs0, zs1, zs2, zs3, zg_lo, zg_st, zg_st2, zg_ald, zg_ast, zs_ia, zs_i0, zcs, zg_ii, zi_max, zi_min, zi_abi, zi_abf, zi_fb, zi_bf, lget, lst, lst2, lc2, Option.map_some, zso, if_true, if_false, zc1, and_true, true_and, and_self, List.length_nil, List.length_cons, Nat.zero_le, reduceIte, reduceCtorEq, false_and, and_false, Bool.false_eq_true, zca_some, zr0, zr100, Option.bind_some, zb_none, zb_some, zrc, or_true, true_or, eq_self, ne_eq, not_true_eq_false, not_false_eq_true, zrt_i, zrt_zb, zrt_b, zrt_c, zrt_l, zrt_f, zrt_r, zrt_n, zrt_v, zft_0, zft_1, zft_zb, zft_3, zft_4, zft_5, zft_7r, zft_7n, iI_t, zb_i, zb_0, zb_1, Nat.reduceAdd, Nat.reduceLeDiff, Nat.reduceEqDiff, Nat.reduceSub, Int.reduceNeg, iI_add, iI_sub, iI_mul, iI_neg, iI_n, zbz, zchar_id, zin, zwr_s, zwr_a, zwr_i, if_pos, if_neg, Int.toNat_natCast, Int.natCast_zero, Int.reduceToNat, z9, e175, zuL (a := 4) (Or.inl rfl) hk, zc14, zt1]
    · simp (disch := first | omega | (simp (disch := omega) only [zwr_s, zwr_a, zwr_i, zn_put, zn_new, zn_fil, zn_chg, zV_n]; omega)) only [zentry, zs0, zs1, zs2, zs3, zg_lo, zg_st, zg_st2, zg_ald, zg_ast, zs_ia, zs_i0, zcs, zg_ii, zi_max, zi_min, zi_abi, zi_abf, zi_fb, zi_bf, lget, lst, lst2, lc2, Option.map_some, zso, if_true, if_false, zc1, and_true, true_and, and_self, List.length_nil, List.length_cons, Nat.zero_le, reduceIte, reduceCtorEq, false_and, and_false, Bool.false_eq_true, zca_some, zr0, zr100, Option.bind_some, zb_none, zb_some, zrc, or_true, true_or, eq_self, ne_eq, not_true_eq_false, not_false_eq_true, zrt_i, zrt_zb, zrt_b, zrt_c, zrt_l, zrt_f, zrt_r, zrt_n, zrt_v, zft_0, zft_1, zft_zb, zft_3, zft_4, zft_5, zft_7r, zft_7n, iI_t, zb_i, zb_0, zb_1, Nat.reduceAdd, Nat.reduceLeDiff, Nat.reduceEqDiff, Nat.reduceSub, Int.reduceNeg, iI_add, iI_sub, iI_mul, iI_neg, iI_n, zbz, zchar_id, zin, zwr_s, zwr_a, zwr_i, if_pos, if_neg, Int.toNat_natCast, Int.natCast_zero, Int.reduceToNat, z9, e175, zuL (a := 4) (Or.inl rfl) hk, zc14, zt1]
set_option maxRecDepth 20000 in
theorem c9s_l {d : Int} {h : zH} {X S D : zD} (hO : clP h X S) (hC : mCl S) (hd : 0 ≤ d ∧ d ≤ 1000) (h3 : 0 ≤ D 14 3 ∧ D 14 3 ≤ 8) (h5 : D 14 5 = 0 ∨ D 14 5 = 1) (h15 : ∀ k : Nat, (k : Int) < D 14 3 → 0 ≤ D 15 k ∧ D 15 k < 12) : ∀ (n c : Nat) (L : List Nat) (s : Int) (x6 : Option Value), (c : Int) + n = S 32 7 → L.length + (nuC S d c n).length ≤ 8 → (s = 1 ↔ saP D L) → (s = 0 ∨ s = 1) →
    ∃ s' : Int, (s' = 1 ↔ saP D (L ++ nuC S d c n)) ∧ (s' = 0 ∨ s' = 1) ∧ zx 9 8 [some (.ref 14), some (.ref 4), some (.int (Int32.ofInt d)), some (.int (Int32.ofInt (L.length : Int))), some (.int (Int32.ofInt s)), some (.int (Int32.ofInt (c : Int))), x6] [] (zV (zU h X) (tkS S D L)) =
      some (.inl none, zV (zU h X) (zwr (zwr (tkS S D (L ++ nuC S d c n)) 14 5 (zb (D 14 5 = 1 ∧ s' = 1 ∧ ((L ++ nuC S d c n).length : Int) = D 14 3))) 14 3 ((L ++ nuC S d c n).length : Int)))
  | 0, c, L, s, x6, hc, hl, hs, h01 => by
    have hk := hO.1.1
    have hn := hC.1
    rw [nuC, List.append_nil]
    exact ⟨s, hs, h01, c9s_e hk.1 (by omega) (by omega) (by rw [nuC] at hl; exact hl) (Or.inl (by omega)) h3 h5 h01⟩
  | n + 1, c, L, s, x6, hc, hl, hs, h01 => by
    have hk := hO.1.1
    have hn := hC.1
    by_cases g8 : L.length = 8
    · have e0 : nuC S d c (n + 1) = [] := List.length_eq_zero_iff.mp (by omega)
      rw [e0, List.append_nil]
      exact ⟨s, hs, h01, c9s_e hk.1 (by omega) (by omega) (by omega) (Or.inr g8) h3 h5 h01⟩
    · obtain ⟨a0, a1, a2, a3, a4, a5⟩ := hO.2 c (by omega)
      obtain ⟨b33, b34, b36, b37, b38⟩ := hC.2.2 c (by omega)
      have hE := hO.1.2.2 c (by omega)
      have k70 : 70 ≤ lsE X 4 c := by unfold lsE; omega
      have k0 : zk h (lsE X 4 c) = 0 := hE.2.2
      have e171 := fun (D1 : zD) => c171 (X := X) (D := D1) (a := 4) (i := (c : Int)) (by omega) hO.1 (by omega)
      have e175 := fun (D1 : zD) => c175 (h := h) (X := X) (D := D1) (a := 4) (by omega) hk.1
      have e1 := fun (D1 : zD) => c1 (X := X) (D := D1) (d := d) k70 k0 (by omega) (by omega) (by omega)
      rw [a4, a5] at e1
      simp only [Int.toNat_natCast, hk.2.1] at e171 e175
      have ec : ((c + 1 : Nat) : Int) = (c : Int) + 1 := by omega
      have e3 : tkS S D L 14 3 = D 14 3 := tkS_o (by omega)
      have e15 : tkS S D L 15 L.length = D 15 L.length := tkS_n (Nat.le_refl _)
      by_cases gf : S 38 c = 1 ∧ S 36 c ≤ d ∧ d ≤ S 37 c
      · have en : nuC S d c (n + 1) = c :: nuC S d (c + 1) n := by rw [nuC, if_pos gf]
        rw [en] at hl ⊢
        have la : L ++ c :: nuC S d (c + 1) n = (L ++ [c]) ++ nuC S d (c + 1) n := by simp
        have ll : ((L ++ [c]).length : Int) = (L.length : Int) + 1 := by
          rw [List.length_append]
          show ((L.length + 1 : Nat) : Int) = _
          omega
        rw [la]
        obtain ⟨s2, hs2, hs01, hst⟩ : ∃ s2 : Int, (s2 = 1 ↔ saP D (L ++ [c])) ∧ (s2 = 0 ∨ s2 = 1) ∧ (s2 = if s = 1 ∧ (L.length : Int) < D 14 3 ∧ D 15 L.length = (c : Int) then 1 else 0) := by
          refine ⟨_, ?_, ?_, rfl⟩
          · rw [saP_s, ← hs]
            split
            · rename_i q
              exact ⟨fun _ => q, fun _ => rfl⟩
            · rename_i q
              exact ⟨fun x => by omega, fun x => absurd x q⟩
          · split <;> omega
        obtain ⟨s', hs', h01', ih⟩ := c9s_l hO hC hd h3 h5 h15 n (c + 1) (L ++ [c]) s2 (some (.ref (lsE X 4 c))) (by omega) (by rw [List.length_cons] at hl; omega) hs2 hs01
        refine ⟨s', hs', h01', ?_⟩
        rw [← ih]
        have tk := tkS_s (S := S) (D := D) (L := L) (c := c)
        conv => lhs; rw [z9_8]
        rw [← tk, ll, ec]
        have hb := zb_t (p := S 36 c ≤ d ∧ d ≤ S 37 c) gf.2
        rw [hb] at e1
        have a1 := a1.trans gf.1
        have hl8 : L.length < 8 := by omega
        have hb15 := h15 L.length
        clear ih hs' h01' tk ll la hs2 hs hO hC hE en h15
        generalize tkS S D L = D1 at *
        generalize L.length = l at *
        by_cases q1 : s = 1
        · by_cases q2 : (l : Int) < D 14 3
          · by_cases q3 : D 15 l = (c : Int)
            · rw [if_pos ⟨q1, q2, q3⟩] at hst
              rw [hst]
              simp (disch := first | omega | (simp (disch := omega) only [zwr_s, zwr_a, zwr_i, zn_put, zn_new, zn_fil, zn_chg, zV_n]; omega)) only [zentry, zs0, zs1, zs2, zs3, zg_lo, zg_st, zg_st2, zg_ald, zg_ast, zs_ia, zs_i0, zcs, zg_ii, zi_max, zi_min, zi_abi, zi_abf, zi_fb, zi_bf, lget, lst, lst2, lc2, Option.map_some, zso, if_true, if_false, zc1, and_true, true_and, and_self, List.length_nil, List.length_cons, Nat.zero_le, reduceIte, reduceCtorEq, false_and, and_false, Bool.false_eq_true, zca_some, zr0, zr100, Option.bind_some, zb_none, zb_some, zrc, or_true, true_or, eq_self, ne_eq, not_true_eq_false, not_false_eq_true, zrt_i, zrt_zb, zrt_b, zrt_c, zrt_l, zrt_f, zrt_r, zrt_n, zrt_v, zft_0, zft_1, zft_zb, zft_3, zft_4, zft_5, zft_7r, zft_7n, iI_t, zb_i, zb_0, zb_1, Nat.reduceAdd, Nat.reduceLeDiff, Nat.reduceEqDiff, Nat.reduceSub, Int.reduceNeg, iI_add, iI_sub, iI_mul, iI_neg, iI_n, zbz, zchar_id, zin, zwr_s, zwr_a, zwr_i, if_pos, if_neg, Int.toNat_natCast, Int.natCast_zero, Int.reduceToNat, z9, e171, e175, e1, e3, e15, a0, a1, a2, a3, q3, zuL (a := 4) (Or.inl rfl) hk.1, zuC k70 k0, zc14, zc15, zc16, zc17, zt1, zt2]
            · rw [if_neg (fun q => q3 q.2.2)] at hst
              rw [hst]
              have hb15 := hb15 q2
              simp (disch := first | omega | (simp (disch := omega) only [zwr_s, zwr_a, zwr_i, zn_put, zn_new, zn_fil, zn_chg, zV_n]; omega)) only [zentry, zs0, zs1, zs2, zs3, zg_lo, zg_st, zg_st2, zg_ald, zg_ast, zs_ia, zs_i0, zcs, zg_ii, zi_max, zi_min, zi_abi, zi_abf, zi_fb, zi_bf, lget, lst, lst2, lc2, Option.map_some, zso, if_true, if_false, zc1, and_true, true_and, and_self, List.length_nil, List.length_cons, Nat.zero_le, reduceIte, reduceCtorEq, false_and, and_false, Bool.false_eq_true, zca_some, zr0, zr100, Option.bind_some, zb_none, zb_some, zrc, or_true, true_or, eq_self, ne_eq, not_true_eq_false, not_false_eq_true, zrt_i, zrt_zb, zrt_b, zrt_c, zrt_l, zrt_f, zrt_r, zrt_n, zrt_v, zft_0, zft_1, zft_zb, zft_3, zft_4, zft_5, zft_7r, zft_7n, iI_t, zb_i, zb_0, zb_1, Nat.reduceAdd, Nat.reduceLeDiff, Nat.reduceEqDiff, Nat.reduceSub, Int.reduceNeg, iI_add, iI_sub, iI_mul, iI_neg, iI_n, zbz, zchar_id, zin, zwr_s, zwr_a, zwr_i, if_pos, if_neg, Int.toNat_natCast, Int.natCast_zero, Int.reduceToNat, z9, e171, e175, e1, e3, e15, a0, a1, a2, a3, zuL (a := 4) (Or.inl rfl) hk.1, zuC k70 k0, zc14, zc15, zc16, zc17, zt1, zt2]
          · rw [if_neg (fun q => q2 q.2.1)] at hst
            rw [hst]
            simp (disch := first | omega | (simp (disch := omega) only [zwr_s, zwr_a, zwr_i, zn_put, zn_new, zn_fil, zn_chg, zV_n]; omega)) only [zentry, zs0, zs1, zs2, zs3, zg_lo, zg_st, zg_st2, zg_ald, zg_ast, zs_ia, zs_i0, zcs, zg_ii, zi_max, zi_min, zi_abi, zi_abf, zi_fb, zi_bf, lget, lst, lst2, lc2, Option.map_some, zso, if_true, if_false, zc1, and_true, true_and, and_self, List.length_nil, List.length_cons, Nat.zero_le, reduceIte, reduceCtorEq, false_and, and_false, Bool.false_eq_true, zca_some, zr0, zr100, Option.bind_some, zb_none, zb_some, zrc, or_true, true_or, eq_self, ne_eq, not_true_eq_false, not_false_eq_true, zrt_i, zrt_zb, zrt_b, zrt_c, zrt_l, zrt_f, zrt_r, zrt_n, zrt_v, zft_0, zft_1, zft_zb, zft_3, zft_4, zft_5, zft_7r, zft_7n, iI_t, zb_i, zb_0, zb_1, Nat.reduceAdd, Nat.reduceLeDiff, Nat.reduceEqDiff, Nat.reduceSub, Int.reduceNeg, iI_add, iI_sub, iI_mul, iI_neg, iI_n, zbz, zchar_id, zin, zwr_s, zwr_a, zwr_i, if_pos, if_neg, Int.toNat_natCast, Int.natCast_zero, Int.reduceToNat, z9, e171, e175, e1, e3, e15, a0, a1, a2, a3, zuL (a := 4) (Or.inl rfl) hk.1, zuC k70 k0, zc14, zc15, zc16, zc17, zt1, zt2]
        · rw [if_neg (fun q => q1 q.1)] at hst
          rw [hst]
          simp (disch := first | omega | (simp (disch := omega) only [zwr_s, zwr_a, zwr_i, zn_put, zn_new, zn_fil, zn_chg, zV_n]; omega)) only [zentry, zs0, zs1, zs2, zs3, zg_lo, zg_st, zg_st2, zg_ald, zg_ast, zs_ia, zs_i0, zcs, zg_ii, zi_max, zi_min, zi_abi, zi_abf, zi_fb, zi_bf, lget, lst, lst2, lc2, Option.map_some, zso, if_true, if_false, zc1, and_true, true_and, and_self, List.length_nil, List.length_cons, Nat.zero_le, reduceIte, reduceCtorEq, false_and, and_false, Bool.false_eq_true, zca_some, zr0, zr100, Option.bind_some, zb_none, zb_some, zrc, or_true, true_or, eq_self, ne_eq, not_true_eq_false, not_false_eq_true, zrt_i, zrt_zb, zrt_b, zrt_c, zrt_l, zrt_f, zrt_r, zrt_n, zrt_v, zft_0, zft_1, zft_zb, zft_3, zft_4, zft_5, zft_7r, zft_7n, iI_t, zb_i, zb_0, zb_1, Nat.reduceAdd, Nat.reduceLeDiff, Nat.reduceEqDiff, Nat.reduceSub, Int.reduceNeg, iI_add, iI_sub, iI_mul, iI_neg, iI_n, zbz, zchar_id, zin, zwr_s, zwr_a, zwr_i, if_pos, if_neg, Int.toNat_natCast, Int.natCast_zero, Int.reduceToNat, z9, e171, e175, e1, e3, e15, a0, a1, a2, a3, zuL (a := 4) (Or.inl rfl) hk.1, zuC k70 k0, zc14, zc15, zc16, zc17, zt1, zt2]
      · have en : nuC S d c (n + 1) = nuC S d (c + 1) n := by rw [nuC, if_neg gf]
        rw [en] at hl ⊢
        obtain ⟨s', hs', h01', ih⟩ := c9s_l hO hC hd h3 h5 h15 n (c + 1) L s (some (.ref (lsE X 4 c))) (by omega) hl hs h01
        refine ⟨s', hs', h01', ?_⟩
        rw [← ih]
        conv => lhs; rw [z9_8]
        rw [ec]
        clear ih hs' h01' hs hO hC hE en e3 e15 h15
        generalize tkS S D L = D1 at *
        generalize L.length = l at *
        by_cases q1 : S 38 c = 1
        · have hb := zb_f (p := S 36 c ≤ d ∧ d ≤ S 37 c) (fun q => gf ⟨q1, q⟩)
          rw [hb] at e1
          have a1 := a1.trans q1
          simp (disch := first | omega | (simp (disch := omega) only [zwr_s, zwr_a, zwr_i, zn_put, zn_new, zn_fil, zn_chg, zV_n]; omega)) only [zentry, zs0, zs1, zs2, zs3, zg_lo, zg_st, zg_st2, zg_ald, zg_ast, zs_ia, zs_i0, zcs, zg_ii, zi_max, zi_min, zi_abi, zi_abf, zi_fb, zi_bf, lget, lst, lst2, lc2, Option.map_some, zso, if_true, if_false, zc1, and_true, true_and, and_self, List.length_nil, List.length_cons, Nat.zero_le, reduceIte, reduceCtorEq, false_and, and_false, Bool.false_eq_true, zca_some, zr0, zr100, Option.bind_some, zb_none, zb_some, zrc, or_true, true_or, eq_self, ne_eq, not_true_eq_false, not_false_eq_true, zrt_i, zrt_zb, zrt_b, zrt_c, zrt_l, zrt_f, zrt_r, zrt_n, zrt_v, zft_0, zft_1, zft_zb, zft_3, zft_4, zft_5, zft_7r, zft_7n, iI_t, zb_i, zb_0, zb_1, Nat.reduceAdd, Nat.reduceLeDiff, Nat.reduceEqDiff, Nat.reduceSub, Int.reduceNeg, iI_add, iI_sub, iI_mul, iI_neg, iI_n, zbz, zchar_id, zin, zwr_s, zwr_a, zwr_i, if_pos, if_neg, Int.toNat_natCast, Int.natCast_zero, Int.reduceToNat, z9, e171, e175, e1, a1, zuL (a := 4) (Or.inl rfl) hk.1, zuC k70 k0, zc14, zt1, zt2]
        · have a1 : X (lsE X 4 c) 1 = 0 := by omega
          simp (disch := first | omega | (simp (disch := omega) only [zwr_s, zwr_a, zwr_i, zn_put, zn_new, zn_fil, zn_chg, zV_n]; omega)) only [zentry, zs0, zs1, zs2, zs3, zg_lo, zg_st, zg_st2, zg_ald, zg_ast, zs_ia, zs_i0, zcs, zg_ii, zi_max, zi_min, zi_abi, zi_abf, zi_fb, zi_bf, lget, lst, lst2, lc2, Option.map_some, zso, if_true, if_false, zc1, and_true, true_and, and_self, List.length_nil, List.length_cons, Nat.zero_le, reduceIte, reduceCtorEq, false_and, and_false, Bool.false_eq_true, zca_some, zr0, zr100, Option.bind_some, zb_none, zb_some, zrc, or_true, true_or, eq_self, ne_eq, not_true_eq_false, not_false_eq_true, zrt_i, zrt_zb, zrt_b, zrt_c, zrt_l, zrt_f, zrt_r, zrt_n, zrt_v, zft_0, zft_1, zft_zb, zft_3, zft_4, zft_5, zft_7r, zft_7n, iI_t, zb_i, zb_0, zb_1, Nat.reduceAdd, Nat.reduceLeDiff, Nat.reduceEqDiff, Nat.reduceSub, Int.reduceNeg, iI_add, iI_sub, iI_mul, iI_neg, iI_n, zbz, zchar_id, zin, zwr_s, zwr_a, zwr_i, if_pos, if_neg, Int.toNat_natCast, Int.natCast_zero, Int.reduceToNat, z9, e171, e175, e1, a1, zuL (a := 4) (Or.inl rfl) hk.1, zuC k70 k0, zc14, zt1, zt2]
set_option maxRecDepth 20000 in
/-- the pieces of day d are noted: the filler of a state whose day is d -/
theorem c9s {d : Int} {h : zH} {X S D E : zD} (hO : clP h X S) (hC : mCl S) (hd : 0 ≤ d ∧ d ≤ 999) (hB : fiB D) (h5 : D 14 5 = 0 ∨ D 14 5 = 1) (hT : D 14 5 = 1 → fiT D) (hN : fiNuS S D) (hE : ∀ a i, a ≠ 32 ∨ i ≠ 16 → E a i = S a i) (hEd : E 32 16 = d) (h8 : (pcs (clsD E)).length ≤ 8) :
    ∃ D', zc 9 7 [.ref 14, .ref 4, .int (Int32.ofInt d)] (zV (zU h X) D) = some (.inl none, zV (zU h X) D') ∧ (∀ a i, a ≠ 15 ∧ a ≠ 16 ∧ a ≠ 17 → a ≠ 14 ∨ (i ≠ 3 ∧ i ≠ 5) → D' a i = D a i) ∧ fiB D' ∧ psF D' 0 (D' 14 3).toNat = pcs (clsD E) ∧ (D' 14 5 = 0 ∨ D' 14 5 = 1) ∧ (D' 14 5 = 1 → fiT D') ∧ fiNuS S D' ∧ D' 14 3 = ((nuC S d 0 (S 32 7).toNat).length : Nat) ∧ (∀ k, k < (nuC S d 0 (S 32 7).toNat).length → D' 15 k = ((nuC S d 0 (S 32 7).toNat).getD k 0 : Nat)) := by
  have hn := hC.1
  have hnuE : ∀ n c, nuC E d c n = nuC S d c n := by
    intro n
    induction n with
    | zero => intro c; rfl
    | succ n ih =>
      intro c
      rw [nuC, nuC, ih, hE 38 c (by omega), hE 36 c (by omega), hE 37 c (by omega)]
  have hpE : pcs (clsD E) = (nuC S d 0 (S 32 7).toNat).map (fun i => (S 33 i, S 34 i)) := by
    unfold clsD
    rw [pcs_nu hEd, hnuE, hE 32 7 (by omega)]
    refine List.map_congr_left fun i _ => ?_
    rw [hE 33 i (by omega), hE 34 i (by omega)]
  have hl8 : (nuC S d 0 (S 32 7).toNat).length ≤ 8 := by
    rw [hpE, List.length_map] at h8
    exact h8
  obtain ⟨s', hs', h01, e⟩ := c9s_l (d := d) hO hC (by omega) hB.1 h5 (fun k hk => (hB.2 k hk).1) (S 32 7).toNat 0 [] 1 none (by omega) (by rw [List.length_nil, Nat.zero_add]; exact hl8) (by
    refine ⟨fun _ k hk => (by cases hk), fun _ => rfl⟩) (Or.inr rfl)
  rw [List.nil_append, tkS_0] at e
  rw [List.nil_append] at hs'
  have hmem : ∀ k, k < (nuC S d 0 (S 32 7).toNat).length → (nuC S d 0 (S 32 7).toNat).getD k 0 < (S 32 7).toNat := fun k hk => by
    rw [List.getD_eq_getElem?_getD, List.getElem?_eq_getElem hk]
    have := nuC_m (D := S) (d := d) _ _ _ (List.getElem_mem hk)
    show (nuC S d 0 (S 32 7).toNat)[k] < _
    omega
  generalize hL : nuC S d 0 (S 32 7).toNat = L at *
  have v15 : ∀ k, k < L.length → zwr (zwr (tkS S D L) 14 5 (zb (D 14 5 = 1 ∧ s' = 1 ∧ (L.length : Int) = D 14 3))) 14 3 (L.length : Int) 15 k = (L.getD k 0 : Nat) := fun k hk => by
    rw [zwr_a (by omega), zwr_a (by omega)]
    unfold tkS
    rw [if_pos ⟨hk, rfl⟩]
  have v16 : ∀ k, k < L.length → zwr (zwr (tkS S D L) 14 5 (zb (D 14 5 = 1 ∧ s' = 1 ∧ (L.length : Int) = D 14 3))) 14 3 (L.length : Int) 16 k = S 33 (L.getD k 0) := fun k hk => by
    rw [zwr_a (by omega), zwr_a (by omega)]
    unfold tkS
    rw [if_neg (by omega), if_pos ⟨hk, rfl⟩]
  have v17 : ∀ k, k < L.length → zwr (zwr (tkS S D L) 14 5 (zb (D 14 5 = 1 ∧ s' = 1 ∧ (L.length : Int) = D 14 3))) 14 3 (L.length : Int) 17 k = S 34 (L.getD k 0) := fun k hk => by
    rw [zwr_a (by omega), zwr_a (by omega)]
    unfold tkS
    rw [if_neg (by omega), if_neg (by omega), if_pos ⟨hk, rfl⟩]
  have v3 : zwr (zwr (tkS S D L) 14 5 (zb (D 14 5 = 1 ∧ s' = 1 ∧ (L.length : Int) = D 14 3))) 14 3 (L.length : Int) 14 3 = (L.length : Int) := zwr_s
  have v5 : zwr (zwr (tkS S D L) 14 5 (zb (D 14 5 = 1 ∧ s' = 1 ∧ (L.length : Int) = D 14 3))) 14 3 (L.length : Int) 14 5 = zb (D 14 5 = 1 ∧ s' = 1 ∧ (L.length : Int) = D 14 3) := by
    rw [zwr_i (by omega), zwr_s]
  have vo : ∀ a i, a ≠ 15 ∧ a ≠ 16 ∧ a ≠ 17 → a ≠ 14 ∨ (i ≠ 3 ∧ i ≠ 5) → zwr (zwr (tkS S D L) 14 5 (zb (D 14 5 = 1 ∧ s' = 1 ∧ (L.length : Int) = D 14 3))) 14 3 (L.length : Int) a i = D a i := fun a i h1 h2 => by
    rw [zwr_e, if_neg (by omega), zwr_e, if_neg (by omega), tkS_o h1]
  refine ⟨_, ?_, vo, ?_, ?_, ?_, ?_, ?_, v3, v15⟩
  · rw [← e, zc]
    clear e hs' h01 v15 v16 v17 v3 v5 vo hmem hl8 hpE hnuE hO hC hB hT hN hE h8
    simp (disch := first | omega | (simp (disch := omega) only [zwr_s, zwr_a, zwr_i, zn_put, zn_new, zn_fil, zn_chg, zV_n]; omega)) only [zentry, zs0, zs1, zs2, zs3, zg_lo, zg_st, zg_st2, zg_ald, zg_ast, zs_ia, zs_i0, zcs, zg_ii, zi_max, zi_min, zi_abi, zi_abf, zi_fb, zi_bf, lget, lst, lst2, lc2, Option.map_some, zso, if_true, if_false, zc1, and_true, true_and, and_self, List.length_nil, List.length_cons, Nat.zero_le, reduceIte, reduceCtorEq, false_and, and_false, Bool.false_eq_true, zca_some, zr0, zr100, Option.bind_some, zb_none, zb_some, zrc, or_true, true_or, eq_self, ne_eq, not_true_eq_false, not_false_eq_true, zrt_i, zrt_zb, zrt_b, zrt_c, zrt_l, zrt_f, zrt_r, zrt_n, zrt_v, zft_0, zft_1, zft_zb, zft_3, zft_4, zft_5, zft_7r, zft_7n, iI_t, zb_i, zb_0, zb_1, Nat.reduceAdd, Nat.reduceLeDiff, Nat.reduceEqDiff, Nat.reduceSub, Int.reduceNeg, iI_add, iI_sub, iI_mul, iI_neg, iI_n, zbz, zchar_id, zin, zwr_s, zwr_a, zwr_i, if_pos, if_neg, Int.toNat_natCast, Int.natCast_zero, Int.reduceToNat, z9, Int.natCast_zero, List.length_nil]
  · refine ⟨by rw [v3]; omega, fun k hk => ?_⟩
    rw [v3] at hk
    have hm := hmem k (by omega)
    have hc := hC.2.2 (L.getD k 0) (by omega)
    rw [v15 k (by omega), v16 k (by omega), v17 k (by omega)]
    exact ⟨by omega, hc.1, hc.2.1⟩
  · rw [v3, Int.toNat_natCast, psF_tk (D := S) (L := L) (fun k hk => ⟨v16 k hk, v17 k hk⟩) L.length 0 (by omega), List.drop_zero, hpE]
  · rw [v5]
    by_cases q : D 14 5 = 1 ∧ s' = 1 ∧ (L.length : Int) = D 14 3
    · rw [zb_t q]; exact Or.inr rfl
    · rw [zb_f q]; exact Or.inl rfl
  · intro q
    rw [v5] at q
    have q : D 14 5 = 1 ∧ s' = 1 ∧ (L.length : Int) = D 14 3 := by
      by_cases g : D 14 5 = 1 ∧ s' = 1 ∧ (L.length : Int) = D 14 3
      · exact g
      · rw [zb_f g] at q
        omega
    have hT := hT q.1
    have hsa := hs'.mp q.2.1
    intro r s hr hs
    rw [v3, Int.toNat_natCast, vo (19 + r) s (by omega) (by omega), hT r s hr hs, show (D 14 3).toNat = L.length by omega]
    congr 1
    refine (lnF_c2 _ _ fun k h1 h2 => ?_).symm
    have hk := hsa k (by omega)
    rw [v16 k (by omega), (hN k hk.1).1, hk.2, Int.toNat_natCast]
  · intro k hk
    rw [v3] at hk
    rw [v15 k (by omega), v16 k (by omega), v17 k (by omega), Int.toNat_natCast]
    exact ⟨rfl, rfl⟩

/-! .. today's pieces are taken -/
/-- the clips of the class are those of the reference -/
def clO (h : zH) (X D : zD) : Prop := lsO h X 4 (D 32 7) 0 ∧ ∀ i : Nat, (i : Int) < D 32 7 → X (lsE X 4 i) 0 = i ∧ X (lsE X 4 i) 1 = D 38 i ∧ X (lsE X 4 i) 2 = D 33 i ∧ X (lsE X 4 i) 3 = D 34 i ∧ X (lsE X 4 i) 4 = D 36 i ∧ X (lsE X 4 i) 5 = D 37 i ∧ X (lsE X 4 i) 6 = D 35 i ∧ X (lsE X 4 i) 7 = D 39 i
/-- the pieces of day d from clip c on -/
def nuC (D : zD) (d : Int) : Nat → Nat → List Nat
  | _, 0 => []
  | c, n + 1 => if D 38 c = 1 ∧ D 36 c ≤ d ∧ d ≤ D 37 c then c :: nuC D d (c + 1) n else nuC D d (c + 1) n
/-- the pieces L are noted -/
def tkD (D : zD) (L : List Nat) : zD := fun a i => if i < L.length ∧ a = 15 then (L.getD i 0 : Nat) else if i < L.length ∧ a = 16 then D 33 (L.getD i 0) else if i < L.length ∧ a = 17 then D 34 (L.getD i 0) else D a i
theorem tkD_o {D : zD} {L : List Nat} {a i : Nat} (h : a ≠ 15 ∧ a ≠ 16 ∧ a ≠ 17) : tkD D L a i = D a i := by
  unfold tkD
  rw [if_neg (by omega), if_neg (by omega), if_neg (by omega)]
theorem tkD_n {D : zD} {L : List Nat} {a i : Nat} (h : L.length ≤ i) : tkD D L a i = D a i := by
  unfold tkD
  rw [if_neg (by omega), if_neg (by omega), if_neg (by omega)]
theorem tkD_0 {D : zD} : tkD D [] = D := by
  funext a i
  exact tkD_n (Nat.zero_le _)
theorem tkD_s {D : zD} {L : List Nat} {c : Nat} : zwr (zwr (zwr (tkD D L) 15 L.length (c : Int)) 16 L.length (D 33 c)) 17 L.length (D 34 c) = tkD D (L ++ [c]) := by
  have gl : ∀ i, i < L.length → (L ++ [c]).getD i 0 = L.getD i 0 := fun i hi => by
    rw [List.getD_eq_getElem?_getD, List.getD_eq_getElem?_getD, List.getElem?_append_left hi]
  have ge : (L ++ [c]).getD L.length 0 = c := by
    rw [List.getD_eq_getElem?_getD, List.getElem?_append_right (Nat.le_refl _), Nat.sub_self]
    rfl
  have ln : (L ++ [c]).length = L.length + 1 := by rw [List.length_append]; rfl
  funext a i
  by_cases g : i = L.length
  · subst g
    by_cases ga : a = 15 ∨ a = 16 ∨ a = 17
    · rcases ga with rfl | rfl | rfl
      · rw [zwr_a (by omega), zwr_a (by omega), zwr_s]
        unfold tkD
        rw [if_pos (by omega), ge]
      · rw [zwr_a (by omega), zwr_s]
        unfold tkD
        rw [if_neg (by omega), if_pos (by omega), ge]
      · rw [zwr_s]
        unfold tkD
        rw [if_neg (by omega), if_neg (by omega), if_pos (by omega), ge]
    · rw [zwr_a (by omega), zwr_a (by omega), zwr_a (by omega), tkD_o (by omega), tkD_o (by omega)]
  · rw [zwr_i g, zwr_i g, zwr_i g]
    by_cases g2 : i < L.length
    · unfold tkD
      rw [gl i g2, ln]
      by_cases g3 : a = 15
      · rw [if_pos (by omega), if_pos (by omega)]
      · by_cases g4 : a = 16
        · rw [if_neg (by omega), if_pos (by omega), if_neg (by omega), if_pos (by omega)]
        · by_cases g5 : a = 17
          · rw [if_neg (by omega), if_neg (by omega), if_pos (by omega), if_neg (by omega), if_neg (by omega), if_pos (by omega)]
          · rw [if_neg (by omega), if_neg (by omega), if_neg (by omega), if_neg (by omega), if_neg (by omega), if_neg (by omega)]
    · rw [tkD_n (by omega), tkD_n (by omega)]
/-- the pieces noted before are the same so far -/
abbrev saP (D : zD) (L : List Nat) : Prop := ∀ k, k < L.length → (k : Int) < D 14 3 ∧ D 15 k = (L.getD k 0 : Nat)
theorem saP_s {D : zD} {L : List Nat} {c : Nat} : saP D (L ++ [c]) ↔ saP D L ∧ (L.length : Int) < D 14 3 ∧ D 15 L.length = (c : Nat) := by
  have gl : ∀ i, i < L.length → (L ++ [c]).getD i 0 = L.getD i 0 := fun i hi => by
    rw [List.getD_eq_getElem?_getD, List.getD_eq_getElem?_getD, List.getElem?_append_left hi]
  have ge : (L ++ [c]).getD L.length 0 = c := by
    rw [List.getD_eq_getElem?_getD, List.getElem?_append_right (Nat.le_refl _), Nat.sub_self]
    rfl
  have ln : (L ++ [c]).length = L.length + 1 := by rw [List.length_append]; rfl
  constructor
  · intro q
    refine ⟨fun k hk => ?_, ?_⟩
    · have := q k (by omega)
      rw [gl k hk] at this
      exact this
    · have := q L.length (by omega)
      rw [ge] at this
      exact this
  · rintro ⟨q1, q2⟩ k hk
    rw [ln] at hk
    by_cases g : k < L.length
    · rw [gl k g]
      exact q1 k g
    · have e : k = L.length := by omega
      rw [e, ge]
      exact q2
set_option maxRecDepth 20000 in
theorem c9_e {d : Int32} {c : Nat} {s : Int} {h : zH} {X D : zD} {L : List Nat} {x6 : Option Value} (hk : zk h 4 = 7) (hn : 0 ≤ X 4 2 ∧ X 4 2 ≤ 12) (hc : c ≤ 12) (hL : L.length ≤ 8) (hx : X 4 2 ≤ c ∨ L.length = 8) (h3 : 0 ≤ D 14 3 ∧ D 14 3 ≤ 8) (h5 : D 14 5 = 0 ∨ D 14 5 = 1) (hs : s = 0 ∨ s = 1) :
    zx 9 8 [some (.ref 14), some (.ref 4), some (.int d), some (.int (Int32.ofInt (L.length : Int))), some (.int (Int32.ofInt s)), some (.int (Int32.ofInt (c : Int))), x6] [] (zV (zU h X) (tkD D L)) = some (.inl none, zV (zU h X) (zwr (zwr (tkD D L) 14 5 (zb (D 14 5 = 1 ∧ s = 1 ∧ (L.length : Int) = D 14 3))) 14 3 (L.length : Int))) := by
  have e1 : tkD D L 14 3 = D 14 3 := tkD_o (by omega)
  have e2 : tkD D L 14 5 = D 14 5 := tkD_o (by omega)
  have e175 := c175 (h := h) (X := X) (D := tkD D L) (a := 4) (by omega) hk
  generalize tkD D L = D1 at *
  generalize L.length = l at *
  rw [z9_8]
  rw [← e1, ← e2]
  rw [← e1] at h3
  rw [← e2] at h5
  by_cases g1 : D1 14 5 = 1
  · by_cases g2 : s = 1
    · by_cases g3 : (l : Int) = D1 14 3
      · rw [zb_t ⟨g1, g2, g3⟩]
        rcases hx with hx | hx
        · simp (disch := first | omega | (simp (disch := omega) only [zwr_s, zwr_a, zwr_i, zn_put, zn_new, zn_fil, zn_chg, zV_n]; omega)) only [zentry, zs0, zs1, zs2, zs3, zg_lo, zg_st, zg_st2, zg_ald, zg_ast, zs_ia, zs_i0, zcs, zg_ii, zi_max, zi_min, zi_abi, zi_abf, zi_fb, zi_bf, lget, lst, lst2, lc2, Option.map_some, zso, if_true, if_false, zc1, and_true, true_and, and_self, List.length_nil, List.length_cons, Nat.zero_le, reduceIte, reduceCtorEq, false_and, and_false, Bool.false_eq_true, zca_some, zr0, zr100, Option.bind_some, zb_none, zb_some, zrc, or_true, true_or, eq_self, ne_eq, not_true_eq_false, not_false_eq_true, zrt_i, zrt_zb, zrt_b, zrt_c, zrt_l, zrt_f, zrt_r, zrt_n, zrt_v, zft_0, zft_1, zft_zb, zft_3, zft_4, zft_5, zft_7r, zft_7n, iI_t, zb_i, zb_0, zb_1, Nat.reduceAdd, Nat.reduceLeDiff, Nat.reduceEqDiff, Nat.reduceSub, Int.reduceNeg, iI_add, iI_sub, iI_mul, iI_neg, iI_n, zbz, zchar_id, zin, zwr_s, zwr_a, zwr_i, if_pos, if_neg, Int.toNat_natCast, Int.natCast_zero, Int.reduceToNat, z9, e175, zuL (a := 4) (Or.inl rfl) hk, zc14, zt1]
        · by_cases g4 : X 4 2 ≤ c
          · simp (disch := first | omega | (simp (disch := omega) only [zwr_s, zwr_a, zwr_i, zn_put, zn_new, zn_fil, zn_chg, zV_n]; omega)) only [zentry, zs0, zs1, zs2, zs3, zg_lo, zg_st, zg_st2, zg_ald, zg_ast, zs_ia, zs_i0, zcs, zg_ii, zi_max, zi_min, zi_abi, zi_abf, zi_fb, zi_bf, lget, lst, lst2, lc2, Option.map_some, zso, if_true, if_false, zc1, and_true, true_and, and_self, List.length_nil, List.length_cons, Nat.zero_le, reduceIte, reduceCtorEq, false_and, and_false, Bool.false_eq_true, zca_some, zr0, zr100, Option.bind_some, zb_none, zb_some, zrc, or_true, true_or, eq_self, ne_eq, not_true_eq_false, not_false_eq_true, zrt_i, zrt_zb, zrt_b, zrt_c, zrt_l, zrt_f, zrt_r, zrt_n, zrt_v, zft_0, zft_1, zft_zb, zft_3, zft_4, zft_5, zft_7r, zft_7n, iI_t, zb_i, zb_0, zb_1, Nat.reduceAdd, Nat.reduceLeDiff, Nat.reduceEqDiff, Nat.reduceSub, Int.reduceNeg, iI_add, iI_sub, iI_mul, iI_neg, iI_n, zbz, zchar_id, zin, zwr_s, zwr_a, zwr_i, if_pos, if_neg, Int.toNat_natCast, Int.natCast_zero, Int.reduceToNat, z9, e175, zuL (a := 4) (Or.inl rfl) hk, zc14, zt1]
          · simp (disch := first | omega | (simp (disch := omega) only [zwr_s, zwr_a, zwr_i, zn_put, zn_new, zn_fil, zn_chg, zV_n]; omega)) only [zentry, zs0, zs1, zs2, zs3, zg_lo, zg_st, zg_st2, zg_ald, zg_ast, zs_ia, zs_i0, zcs, zg_ii, zi_max, zi_min, zi_abi, zi_abf, zi_fb, zi_bf, lget, lst, lst2, lc2, Option.map_some, zso, if_true, if_false, zc1, and_true, true_and, and_self, List.length_nil, List.length_cons, Nat.zero_le, reduceIte, reduceCtorEq, false_and, and_false, Bool.false_eq_true, zca_some, zr0, zr100, Option.bind_some, zb_none, zb_some, zrc, or_true, true_or, eq_self, ne_eq, not_true_eq_false, not_false_eq_true, zrt_i, zrt_zb, zrt_b, zrt_c, zrt_l, zrt_f, zrt_r, zrt_n, zrt_v, zft_0, zft_1, zft_zb, zft_3, zft_4, zft_5, zft_7r, zft_7n, iI_t, zb_i, zb_0, zb_1, Nat.reduceAdd, Nat.reduceLeDiff, Nat.reduceEqDiff, Nat.reduceSub, Int.reduceNeg, iI_add, iI_sub, iI_mul, iI_neg, iI_n, zbz, zchar_id, zin, zwr_s, zwr_a, zwr_i, if_pos, if_neg, Int.toNat_natCast, Int.natCast_zero, Int.reduceToNat, z9, e175, zuL (a := 4) (Or.inl rfl) hk, zc14, zt1]
      · rw [zb_f (fun q => g3 q.2.2)]
        by_cases g4 : X 4 2 ≤ c
        · simp (disch := first | omega | (simp (disch := omega) only [zwr_s, zwr_a, zwr_i, zn_put, zn_new, zn_fil, zn_chg, zV_n]; omega)) only [zentry, zs0, zs1, zs2, zs3, zg_lo, zg_st, zg_st2, zg_ald, zg_ast, zs_ia, zs_i0, zcs, zg_ii, zi_max, zi_min, zi_abi, zi_abf, zi_fb, zi_bf, lget, lst, lst2, lc2, Option.map_some, zso, if_true, if_false, zc1, and_true, true_and, and_self, List.length_nil, List.length_cons, Nat.zero_le, reduceIte, reduceCtorEq, false_and, and_false, Bool.false_eq_true, zca_some, zr0, zr100, Option.bind_some, zb_none, zb_some, zrc, or_true, true_or, eq_self, ne_eq, not_true_eq_false, not_false_eq_true, zrt_i, zrt_zb, zrt_b, zrt_c, zrt_l, zrt_f, zrt_r, zrt_n, zrt_v, zft_0, zft_1, zft_zb, zft_3, zft_4, zft_5, zft_7r, zft_7n, iI_t, zb_i, zb_0, zb_1, Nat.reduceAdd, Nat.reduceLeDiff, Nat.reduceEqDiff, Nat.reduceSub, Int.reduceNeg, iI_add, iI_sub, iI_mul, iI_neg, iI_n, zbz, zchar_id, zin, zwr_s, zwr_a, zwr_i, if_pos, if_neg, Int.toNat_natCast, Int.natCast_zero, Int.reduceToNat, z9, e175, zuL (a := 4) (Or.inl rfl) hk, zc14, zt1]
        · simp (disch := first | omega | (simp (disch := omega) only [zwr_s, zwr_a, zwr_i, zn_put, zn_new, zn_fil, zn_chg, zV_n]; omega)) only [zentry, zs0, zs1, zs2, zs3, zg_lo, zg_st, zg_st2, zg_ald, zg_ast, zs_ia, zs_i0, zcs, zg_ii, zi_max, zi_min, zi_abi, zi_abf, zi_fb, zi_bf, lget, lst, lst2, lc2, Option.map_some, zso, if_true, if_false, zc1, and_true, true_and, and_self, List.length_nil, List.length_cons, Nat.zero_le, reduceIte, reduceCtorEq, false_and, and_false, Bool.false_eq_true, zca_some, zr0, zr100, Option.bind_some, zb_none, zb_some, zrc, or_true, true_or, eq_self, ne_eq, not_true_eq_false, not_false_eq_true, zrt_i, zrt_zb, zrt_b, zrt_c, zrt_l, zrt_f, zrt_r, zrt_n, zrt_v, zft_0, zft_1, zft_zb, zft_3, zft_4, zft_5, zft_7r, zft_7n, iI_t, zb_i, zb_0, zb_1, Nat.reduceAdd, Nat.reduceLeDiff, Nat.reduceEqDiff, Nat.reduceSub, Int.reduceNeg, iI_add, iI_sub, iI_mul, iI_neg, iI_n, zbz, zchar_id, zin, zwr_s, zwr_a, zwr_i, if_pos, if_neg, Int.toNat_natCast, Int.natCast_zero, Int.reduceToNat, z9, e175, zuL (a := 4) (Or.inl rfl) hk, zc14, zt1]
    · rw [zb_f (fun q => g2 q.2.1)]
      by_cases g4 : X 4 2 ≤ c
      · simp (disch := first | omega | (simp (disch := omega) only [zwr_s, zwr_a, zwr_i, zn_put, zn_new, zn_fil, zn_chg, zV_n]; omega)) only [zentry, zs0, zs1, zs2, zs3, zg_lo, zg_st, zg_st2, zg_ald, zg_ast, zs_ia, zs_i0, zcs, zg_ii, zi_max, zi_min, zi_abi, zi_abf, zi_fb, zi_bf, lget, lst, lst2, lc2, Option.map_some, zso, if_true, if_false, zc1, and_true, true_and, and_self, List.length_nil, List.length_cons, Nat.zero_le, reduceIte, reduceCtorEq, false_and, and_false, Bool.false_eq_true, zca_some, zr0, zr100, Option.bind_some, zb_none, zb_some, zrc, or_true, true_or, eq_self, ne_eq, not_true_eq_false, not_false_eq_true, zrt_i, zrt_zb, zrt_b, zrt_c, zrt_l, zrt_f, zrt_r, zrt_n, zrt_v, zft_0, zft_1, zft_zb, zft_3, zft_4, zft_5, zft_7r, zft_7n, iI_t, zb_i, zb_0, zb_1, Nat.reduceAdd, Nat.reduceLeDiff, Nat.reduceEqDiff, Nat.reduceSub, Int.reduceNeg, iI_add, iI_sub, iI_mul, iI_neg, iI_n, zbz, zchar_id, zin, zwr_s, zwr_a, zwr_i, if_pos, if_neg, Int.toNat_natCast, Int.natCast_zero, Int.reduceToNat, z9, e175, zuL (a := 4) (Or.inl rfl) hk, zc14, zt1]
      · simp (disch := first | omega | (simp (disch := omega) only [zwr_s, zwr_a, zwr_i, zn_put, zn_new, zn_fil, zn_chg, zV_n]; omega)) only [zentry, zs0, zs1, zs2, zs3, zg_lo, zg_st, zg_st2, zg_ald, zg_ast, zs_ia, zs_i0, zcs, zg_ii, zi_max, zi_min, zi_abi, zi_abf, zi_fb, zi_bf, lget, lst, lst2, lc2, Option.map_some, zso, if_true, if_false, zc1, and_true, true_and, and_self, List.length_nil, List.length_cons, Nat.zero_le, reduceIte, reduceCtorEq, false_and, and_false, Bool.false_eq_true, zca_some, zr0, zr100, Option.bind_some, zb_none, zb_some, zrc, or_true, true_or, eq_self, ne_eq, not_true_eq_false, not_false_eq_true, zrt_i, zrt_zb, zrt_b, zrt_c, zrt_l, zrt_f, zrt_r, zrt_n, zrt_v, zft_0, zft_1, zft_zb, zft_3, zft_4, zft_5, zft_7r, zft_7n, iI_t, zb_i, zb_0, zb_1, Nat.reduceAdd, Nat.reduceLeDiff, Nat.reduceEqDiff, Nat.reduceSub, Int.reduceNeg, iI_add, iI_sub, iI_mul, iI_neg, iI_n, zbz, zchar_id, zin, zwr_s, zwr_a, zwr_i, if_pos, if_neg, Int.toNat_natCast, Int.natCast_zero, Int.reduceToNat, z9, e175, zuL (a := 4) (Or.inl rfl) hk, zc14, zt1]
  · rw [zb_f (fun q => g1 q.1)]
    by_cases g4 : X 4 2 ≤ c
    · simp (disch := first | omega | (simp (disch := omega) only [zwr_s, zwr_a, zwr_i, zn_put, zn_new, zn_fil, zn_chg, zV_n]; omega)) only [zentry, zs0, zs1, zs2, zs3, zg_lo, zg_st, zg_st2, zg_ald, zg_ast, zs_ia, zs_i0, zcs, zg_ii, zi_max, zi_min, zi_abi, zi_abf, zi_fb, zi_bf, lget, lst, lst2, lc2, Option.map_some, zso, if_true, if_false, zc1, and_true, true_and, and_self, List.length_nil, List.length_cons, Nat.zero_le, reduceIte, reduceCtorEq, false_and, and_false, Bool.false_eq_true, zca_some, zr0, zr100, Option.bind_some, zb_none, zb_some, zrc, or_true, true_or, eq_self, ne_eq, not_true_eq_false, not_false_eq_true, zrt_i, zrt_zb, zrt_b, zrt_c, zrt_l, zrt_f, zrt_r, zrt_n, zrt_v, zft_0, zft_1, zft_zb, zft_3, zft_4, zft_5, zft_7r, zft_7n, iI_t, zb_i, zb_0, zb_1, Nat.reduceAdd, Nat.reduceLeDiff, Nat.reduceEqDiff, Nat.reduceSub, Int.reduceNeg, iI_add, iI_sub, iI_mul, iI_neg, iI_n, zbz, zchar_id, zin, zwr_s, zwr_a, zwr_i, if_pos, if_neg, Int.toNat_natCast, Int.natCast_zero, Int.reduceToNat, z9, e175, zuL (a := 4) (Or.inl rfl) hk, zc14, zt1]
    · simp (disch := first | omega | (simp (disch := omega) only [zwr_s, zwr_a, zwr_i, zn_put, zn_new, zn_fil, zn_chg, zV_n]; omega)) only [zentry, zs0, zs1, zs2, zs3, zg_lo, zg_st, zg_st2, zg_ald, zg_ast, zs_ia, zs_i0, zcs, zg_ii, zi_max, zi_min, zi_abi, zi_abf, zi_fb, zi_bf, lget, lst, lst2, lc2, Option.map_some, zso, if_true, if_false, zc1, and_true, true_and, and_self, List.length_nil, List.length_cons, Nat.zero_le, reduceIte, reduceCtorEq, false_and, and_false, Bool.false_eq_true, zca_some, zr0, zr100, Option.bind_some, zb_none, zb_some, zrc, or_true, true_or, eq_self, ne_eq, not_true_eq_false, not_false_eq_true, zrt_i, zrt_zb, zrt_b, zrt_c, zrt_l, zrt_f, zrt_r, zrt_n, zrt_v, zft_0, zft_1, zft_zb, zft_3, zft_4, zft_5, zft_7r, zft_7n, iI_t, zb_i, zb_0, zb_1, Nat.reduceAdd, Nat.reduceLeDiff, Nat.reduceEqDiff, Nat.reduceSub, Int.reduceNeg, iI_add, iI_sub, iI_mul, iI_neg, iI_n, zbz, zchar_id, zin, zwr_s, zwr_a, zwr_i, if_pos, if_neg, Int.toNat_natCast, Int.natCast_zero, Int.reduceToNat, z9, e175, zuL (a := 4) (Or.inl rfl) hk, zc14, zt1]

/-! .. all of them -/
set_option maxRecDepth 20000 in
theorem c9_l {d : Int} {h : zH} {X D : zD} (hO : clO h X D) (hC : mCl D) (hd : 0 ≤ d ∧ d ≤ 1000) (h3 : 0 ≤ D 14 3 ∧ D 14 3 ≤ 8) (h5 : D 14 5 = 0 ∨ D 14 5 = 1) (h15 : ∀ k : Nat, (k : Int) < D 14 3 → 0 ≤ D 15 k ∧ D 15 k < 12) : ∀ (n c : Nat) (L : List Nat) (s : Int) (x6 : Option Value), (c : Int) + n = D 32 7 → L.length + (nuC D d c n).length ≤ 8 → (s = 1 ↔ saP D L) → (s = 0 ∨ s = 1) →
    ∃ s' : Int, (s' = 1 ↔ saP D (L ++ nuC D d c n)) ∧ (s' = 0 ∨ s' = 1) ∧ zx 9 8 [some (.ref 14), some (.ref 4), some (.int (Int32.ofInt d)), some (.int (Int32.ofInt (L.length : Int))), some (.int (Int32.ofInt s)), some (.int (Int32.ofInt (c : Int))), x6] [] (zV (zU h X) (tkD D L)) =
      some (.inl none, zV (zU h X) (zwr (zwr (tkD D (L ++ nuC D d c n)) 14 5 (zb (D 14 5 = 1 ∧ s' = 1 ∧ ((L ++ nuC D d c n).length : Int) = D 14 3))) 14 3 ((L ++ nuC D d c n).length : Int)))
  | 0, c, L, s, x6, hc, hl, hs, h01 => by
    have hk := hO.1.1
    have hn := hC.1
    rw [nuC, List.append_nil]
    exact ⟨s, hs, h01, c9_e hk.1 (by omega) (by omega) (by rw [nuC] at hl; exact hl) (Or.inl (by omega)) h3 h5 h01⟩
  | n + 1, c, L, s, x6, hc, hl, hs, h01 => by
    have hk := hO.1.1
    have hn := hC.1
    by_cases g8 : L.length = 8
    · have e0 : nuC D d c (n + 1) = [] := List.length_eq_zero_iff.mp (by omega)
      rw [e0, List.append_nil]
      exact ⟨s, hs, h01, c9_e hk.1 (by omega) (by omega) (by omega) (Or.inr g8) h3 h5 h01⟩
    · obtain ⟨a0, a1, a2, a3, a4, a5, a6, a7⟩ := hO.2 c (by omega)
      obtain ⟨b33, b34, b36, b37, b38⟩ := hC.2.2 c (by omega)
      have hE := hO.1.2.2 c (by omega)
      have k70 : 70 ≤ lsE X 4 c := by unfold lsE; omega
      have k0 : zk h (lsE X 4 c) = 0 := hE.2.2
      have e171 := fun (D1 : zD) => c171 (X := X) (D := D1) (a := 4) (i := (c : Int)) (by omega) hO.1 (by omega)
      have e175 := fun (D1 : zD) => c175 (h := h) (X := X) (D := D1) (a := 4) (by omega) hk.1
      have e1 := fun (D1 : zD) => c1 (X := X) (D := D1) (d := d) k70 k0 (by omega) (by omega) (by omega)
      rw [a4, a5] at e1
      simp only [Int.toNat_natCast, hk.2.1] at e171 e175
      have ec : ((c + 1 : Nat) : Int) = (c : Int) + 1 := by omega
      have e3 : tkD D L 14 3 = D 14 3 := tkD_o (by omega)
      have e15 : tkD D L 15 L.length = D 15 L.length := tkD_n (Nat.le_refl _)
      by_cases gf : D 38 c = 1 ∧ D 36 c ≤ d ∧ d ≤ D 37 c
      · have en : nuC D d c (n + 1) = c :: nuC D d (c + 1) n := by rw [nuC, if_pos gf]
        rw [en] at hl ⊢
        have la : L ++ c :: nuC D d (c + 1) n = (L ++ [c]) ++ nuC D d (c + 1) n := by simp
        have ll : ((L ++ [c]).length : Int) = (L.length : Int) + 1 := by
          rw [List.length_append]
          show ((L.length + 1 : Nat) : Int) = _
          omega
        rw [la]
        obtain ⟨s2, hs2, hs01, hst⟩ : ∃ s2 : Int, (s2 = 1 ↔ saP D (L ++ [c])) ∧ (s2 = 0 ∨ s2 = 1) ∧ (s2 = if s = 1 ∧ (L.length : Int) < D 14 3 ∧ D 15 L.length = (c : Int) then 1 else 0) := by
          refine ⟨_, ?_, ?_, rfl⟩
          · rw [saP_s, ← hs]
            split
            · rename_i q
              exact ⟨fun _ => q, fun _ => rfl⟩
            · rename_i q
              exact ⟨fun x => by omega, fun x => absurd x q⟩
          · split <;> omega
        obtain ⟨s', hs', h01', ih⟩ := c9_l hO hC hd h3 h5 h15 n (c + 1) (L ++ [c]) s2 (some (.ref (lsE X 4 c))) (by omega) (by rw [List.length_cons] at hl; omega) hs2 hs01
        refine ⟨s', hs', h01', ?_⟩
        rw [← ih]
        have tk := tkD_s (D := D) (L := L) (c := c)
        conv => lhs; rw [z9_8]
        rw [← tk, ll, ec]
        have hb := zb_t (p := D 36 c ≤ d ∧ d ≤ D 37 c) gf.2
        rw [hb] at e1
        have a1 := a1.trans gf.1
        have hl8 : L.length < 8 := by omega
        have hb15 := h15 L.length
        clear ih hs' h01' tk ll la hs2 hs hO hC hE en h15
        generalize tkD D L = D1 at *
        generalize L.length = l at *
        by_cases q1 : s = 1
        · by_cases q2 : (l : Int) < D 14 3
          · by_cases q3 : D 15 l = (c : Int)
            · rw [if_pos ⟨q1, q2, q3⟩] at hst
              rw [hst]
              simp (disch := first | omega | (simp (disch := omega) only [zwr_s, zwr_a, zwr_i, zn_put, zn_new, zn_fil, zn_chg, zV_n]; omega)) only [zentry, zs0, zs1, zs2, zs3, zg_lo, zg_st, zg_st2, zg_ald, zg_ast, zs_ia, zs_i0, zcs, zg_ii, zi_max, zi_min, zi_abi, zi_abf, zi_fb, zi_bf, lget, lst, lst2, lc2, Option.map_some, zso, if_true, if_false, zc1, and_true, true_and, and_self, List.length_nil, List.length_cons, Nat.zero_le, reduceIte, reduceCtorEq, false_and, and_false, Bool.false_eq_true, zca_some, zr0, zr100, Option.bind_some, zb_none, zb_some, zrc, or_true, true_or, eq_self, ne_eq, not_true_eq_false, not_false_eq_true, zrt_i, zrt_zb, zrt_b, zrt_c, zrt_l, zrt_f, zrt_r, zrt_n, zrt_v, zft_0, zft_1, zft_zb, zft_3, zft_4, zft_5, zft_7r, zft_7n, iI_t, zb_i, zb_0, zb_1, Nat.reduceAdd, Nat.reduceLeDiff, Nat.reduceEqDiff, Nat.reduceSub, Int.reduceNeg, iI_add, iI_sub, iI_mul, iI_neg, iI_n, zbz, zchar_id, zin, zwr_s, zwr_a, zwr_i, if_pos, if_neg, Int.toNat_natCast, Int.natCast_zero, Int.reduceToNat, z9, e171, e175, e1, e3, e15, a0, a1, a2, a3, q3, zuL (a := 4) (Or.inl rfl) hk.1, zuC k70 k0, zc14, zc15, zc16, zc17, zt1, zt2]
            · rw [if_neg (fun q => q3 q.2.2)] at hst
              rw [hst]
              have hb15 := hb15 q2
              simp (disch := first | omega | (simp (disch := omega) only [zwr_s, zwr_a, zwr_i, zn_put, zn_new, zn_fil, zn_chg, zV_n]; omega)) only [zentry, zs0, zs1, zs2, zs3, zg_lo, zg_st, zg_st2, zg_ald, zg_ast, zs_ia, zs_i0, zcs, zg_ii, zi_max, zi_min, zi_abi, zi_abf, zi_fb, zi_bf, lget, lst, lst2, lc2, Option.map_some, zso, if_true, if_false, zc1, and_true, true_and, and_self, List.length_nil, List.length_cons, Nat.zero_le, reduceIte, reduceCtorEq, false_and, and_false, Bool.false_eq_true, zca_some, zr0, zr100, Option.bind_some, zb_none, zb_some, zrc, or_true, true_or, eq_self, ne_eq, not_true_eq_false, not_false_eq_true, zrt_i, zrt_zb, zrt_b, zrt_c, zrt_l, zrt_f, zrt_r, zrt_n, zrt_v, zft_0, zft_1, zft_zb, zft_3, zft_4, zft_5, zft_7r, zft_7n, iI_t, zb_i, zb_0, zb_1, Nat.reduceAdd, Nat.reduceLeDiff, Nat.reduceEqDiff, Nat.reduceSub, Int.reduceNeg, iI_add, iI_sub, iI_mul, iI_neg, iI_n, zbz, zchar_id, zin, zwr_s, zwr_a, zwr_i, if_pos, if_neg, Int.toNat_natCast, Int.natCast_zero, Int.reduceToNat, z9, e171, e175, e1, e3, e15, a0, a1, a2, a3, zuL (a := 4) (Or.inl rfl) hk.1, zuC k70 k0, zc14, zc15, zc16, zc17, zt1, zt2]
          · rw [if_neg (fun q => q2 q.2.1)] at hst
            rw [hst]
            simp (disch := first | omega | (simp (disch := omega) only [zwr_s, zwr_a, zwr_i, zn_put, zn_new, zn_fil, zn_chg, zV_n]; omega)) only [zentry, zs0, zs1, zs2, zs3, zg_lo, zg_st, zg_st2, zg_ald, zg_ast, zs_ia, zs_i0, zcs, zg_ii, zi_max, zi_min, zi_abi, zi_abf, zi_fb, zi_bf, lget, lst, lst2, lc2, Option.map_some, zso, if_true, if_false, zc1, and_true, true_and, and_self, List.length_nil, List.length_cons, Nat.zero_le, reduceIte, reduceCtorEq, false_and, and_false, Bool.false_eq_true, zca_some, zr0, zr100, Option.bind_some, zb_none, zb_some, zrc, or_true, true_or, eq_self, ne_eq, not_true_eq_false, not_false_eq_true, zrt_i, zrt_zb, zrt_b, zrt_c, zrt_l, zrt_f, zrt_r, zrt_n, zrt_v, zft_0, zft_1, zft_zb, zft_3, zft_4, zft_5, zft_7r, zft_7n, iI_t, zb_i, zb_0, zb_1, Nat.reduceAdd, Nat.reduceLeDiff, Nat.reduceEqDiff, Nat.reduceSub, Int.reduceNeg, iI_add, iI_sub, iI_mul, iI_neg, iI_n, zbz, zchar_id, zin, zwr_s, zwr_a, zwr_i, if_pos, if_neg, Int.toNat_natCast, Int.natCast_zero, Int.reduceToNat, z9, e171, e175, e1, e3, e15, a0, a1, a2, a3, zuL (a := 4) (Or.inl rfl) hk.1, zuC k70 k0, zc14, zc15, zc16, zc17, zt1, zt2]
        · rw [if_neg (fun q => q1 q.1)] at hst
          rw [hst]
          simp (disch := first | omega | (simp (disch := omega) only [zwr_s, zwr_a, zwr_i, zn_put, zn_new, zn_fil, zn_chg, zV_n]; omega)) only [zentry, zs0, zs1, zs2, zs3, zg_lo, zg_st, zg_st2, zg_ald, zg_ast, zs_ia, zs_i0, zcs, zg_ii, zi_max, zi_min, zi_abi, zi_abf, zi_fb, zi_bf, lget, lst, lst2, lc2, Option.map_some, zso, if_true, if_false, zc1, and_true, true_and, and_self, List.length_nil, List.length_cons, Nat.zero_le, reduceIte, reduceCtorEq, false_and, and_false, Bool.false_eq_true, zca_some, zr0, zr100, Option.bind_some, zb_none, zb_some, zrc, or_true, true_or, eq_self, ne_eq, not_true_eq_false, not_false_eq_true, zrt_i, zrt_zb, zrt_b, zrt_c, zrt_l, zrt_f, zrt_r, zrt_n, zrt_v, zft_0, zft_1, zft_zb, zft_3, zft_4, zft_5, zft_7r, zft_7n, iI_t, zb_i, zb_0, zb_1, Nat.reduceAdd, Nat.reduceLeDiff, Nat.reduceEqDiff, Nat.reduceSub, Int.reduceNeg, iI_add, iI_sub, iI_mul, iI_neg, iI_n, zbz, zchar_id, zin, zwr_s, zwr_a, zwr_i, if_pos, if_neg, Int.toNat_natCast, Int.natCast_zero, Int.reduceToNat, z9, e171, e175, e1, e3, e15, a0, a1, a2, a3, zuL (a := 4) (Or.inl rfl) hk.1, zuC k70 k0, zc14, zc15, zc16, zc17, zt1, zt2]
      · have en : nuC D d c (n + 1) = nuC D d (c + 1) n := by rw [nuC, if_neg gf]
        rw [en] at hl ⊢
        obtain ⟨s', hs', h01', ih⟩ := c9_l hO hC hd h3 h5 h15 n (c + 1) L s (some (.ref (lsE X 4 c))) (by omega) hl hs h01
        refine ⟨s', hs', h01', ?_⟩
        rw [← ih]
        conv => lhs; rw [z9_8]
        rw [ec]
        clear ih hs' h01' hs hO hC hE en e3 e15 h15
        generalize tkD D L = D1 at *
        generalize L.length = l at *
        by_cases q1 : D 38 c = 1
        · have hb := zb_f (p := D 36 c ≤ d ∧ d ≤ D 37 c) (fun q => gf ⟨q1, q⟩)
          rw [hb] at e1
          have a1 := a1.trans q1
          simp (disch := first | omega | (simp (disch := omega) only [zwr_s, zwr_a, zwr_i, zn_put, zn_new, zn_fil, zn_chg, zV_n]; omega)) only [zentry, zs0, zs1, zs2, zs3, zg_lo, zg_st, zg_st2, zg_ald, zg_ast, zs_ia, zs_i0, zcs, zg_ii, zi_max, zi_min, zi_abi, zi_abf, zi_fb, zi_bf, lget, lst, lst2, lc2, Option.map_some, zso, if_true, if_false, zc1, and_true, true_and, and_self, List.length_nil, List.length_cons, Nat.zero_le, reduceIte, reduceCtorEq, false_and, and_false, Bool.false_eq_true, zca_some, zr0, zr100, Option.bind_some, zb_none, zb_some, zrc, or_true, true_or, eq_self, ne_eq, not_true_eq_false, not_false_eq_true, zrt_i, zrt_zb, zrt_b, zrt_c, zrt_l, zrt_f, zrt_r, zrt_n, zrt_v, zft_0, zft_1, zft_zb, zft_3, zft_4, zft_5, zft_7r, zft_7n, iI_t, zb_i, zb_0, zb_1, Nat.reduceAdd, Nat.reduceLeDiff, Nat.reduceEqDiff, Nat.reduceSub, Int.reduceNeg, iI_add, iI_sub, iI_mul, iI_neg, iI_n, zbz, zchar_id, zin, zwr_s, zwr_a, zwr_i, if_pos, if_neg, Int.toNat_natCast, Int.natCast_zero, Int.reduceToNat, z9, e171, e175, e1, a1, zuL (a := 4) (Or.inl rfl) hk.1, zuC k70 k0, zc14, zt1, zt2]
        · have a1 : X (lsE X 4 c) 1 = 0 := by omega
          simp (disch := first | omega | (simp (disch := omega) only [zwr_s, zwr_a, zwr_i, zn_put, zn_new, zn_fil, zn_chg, zV_n]; omega)) only [zentry, zs0, zs1, zs2, zs3, zg_lo, zg_st, zg_st2, zg_ald, zg_ast, zs_ia, zs_i0, zcs, zg_ii, zi_max, zi_min, zi_abi, zi_abf, zi_fb, zi_bf, lget, lst, lst2, lc2, Option.map_some, zso, if_true, if_false, zc1, and_true, true_and, and_self, List.length_nil, List.length_cons, Nat.zero_le, reduceIte, reduceCtorEq, false_and, and_false, Bool.false_eq_true, zca_some, zr0, zr100, Option.bind_some, zb_none, zb_some, zrc, or_true, true_or, eq_self, ne_eq, not_true_eq_false, not_false_eq_true, zrt_i, zrt_zb, zrt_b, zrt_c, zrt_l, zrt_f, zrt_r, zrt_n, zrt_v, zft_0, zft_1, zft_zb, zft_3, zft_4, zft_5, zft_7r, zft_7n, iI_t, zb_i, zb_0, zb_1, Nat.reduceAdd, Nat.reduceLeDiff, Nat.reduceEqDiff, Nat.reduceSub, Int.reduceNeg, iI_add, iI_sub, iI_mul, iI_neg, iI_n, zbz, zchar_id, zin, zwr_s, zwr_a, zwr_i, if_pos, if_neg, Int.toNat_natCast, Int.natCast_zero, Int.reduceToNat, z9, e171, e175, e1, a1, zuL (a := 4) (Or.inl rfl) hk.1, zuC k70 k0, zc14, zt1, zt2]

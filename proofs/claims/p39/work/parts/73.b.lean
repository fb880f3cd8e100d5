/-! a clip more -/
theorem pcs_cn {D : zD} : ∀ n : Nat, ((pcs (clsF D 0 n)).length : Int) ≤ cn38 D n ∧ 0 ≤ cn38 D n
  | 0 => ⟨Int.le_refl _, Int.le_refl _⟩
  | n + 1 => by
    have ih := pcs_cn (D := D) n
    rw [clsF_app, Nat.zero_add]
    have : pcs (clsF D 0 n ++ [(zflag D n, D 33 n, D 34 n)]) = pcs (clsF D 0 n) ++ pcs [(zflag D n, D 33 n, D 34 n)] := by
      unfold pcs
      rw [List.filter_append, List.map_append]
    rw [this, List.length_append, cn38]
    cases hz : zflag D n with
    | true =>
      have h1 : D 38 n = 1 := by
        unfold zflag at hz
        simp only [Bool.and_eq_true, decide_eq_true_eq] at hz
        exact hz.1
      rw [if_pos h1]
      have : (pcs [(true, D 33 n, D 34 n)]).length = 1 := rfl
      omega
    | false =>
      have : (pcs [(false, D 33 n, D 34 n)]).length = 0 := rfl
      split <;> omega
theorem lgO.k {D D' : zD} (h : ∀ a i, a = 3 ∨ (10 ≤ a ∧ a ≤ 13) → (a = 3 → i = 7) → D' a i = D a i) (k : ∀ a i, a = 66 ∨ a = 67 ∨ (a = 32 ∧ (i = 30 ∨ i = 31)) → D' a i = D a i) (p : lgO D) : lgO D' := by
  unfold lgO
  rw [h 3 7 (by omega) (by omega), k 32 31 (by omega), k 32 30 (by omega), h 10 3 (by omega) (by omega)]
  refine ⟨p.1, p.2.imp id fun ⟨a, lg, ⟨m1, m2, m3, m4, m5⟩, b, t⟩ => ⟨a, lg, ⟨m1, m2, by rw [k 32 30 (by omega)]; exact m3, fun j hj => ?_, m5⟩, b, tRp_c (fun k _ => ⟨h _ _ (by omega) (by omega), h _ _ (by omega) (by omega), h _ _ (by omega) (by omega)⟩) t⟩⟩
  rw [k 66 j (by omega), k 67 j (by omega)]
  exact m4 j hj
theorem Inv.ac {c s1 s2 v : Nat} {h h2 : zH} {X X2 D D9 : zD} {len lev pl fi la pc : Int} (p : Inv c h X D) (hc : c < 600) (hn : D 32 7 < 12) (hpc : pc = 0 ∨ (pc = 1 ∧ D 32 8 < 8))
    (hb : (1 ≤ len ∧ len ≤ 900) ∧ (-60 ≤ lev ∧ lev ≤ 0) ∧ (0 ≤ fi ∧ fi ≤ 999) ∧ (fi ≤ la ∧ la ≤ 999)) (hpl : 0 ≤ pl ∧ pl ≤ 99)
    (k1 : ∀ a i, a < 14 → ¬ (a = 3 ∧ i = 6) → D9 a i = D a i) (k2 : ∀ a i, (39 ≤ a ∧ a ≤ 57) ∨ a = 66 ∨ a = 67 ∨ (a = 32 ∧ (i = 15 ∨ i = 16 ∨ i = 27 ∨ i = 30 ∨ i = 31)) → D9 a i = D a i)
    (k3 : ∀ a i, 33 ≤ a → a ≤ 38 → i ≠ (D 32 7).toNat → D9 a i = D a i) (e33 : D9 33 (D 32 7).toNat = len) (e34 : D9 34 (D 32 7).toNat = lev) (e35 : D9 35 (D 32 7).toNat = pl) (e36 : D9 36 (D 32 7).toNat = fi) (e37 : D9 37 (D 32 7).toNat = la) (e38 : D9 38 (D 32 7).toNat = pc)
    (e7 : D9 32 7 = D 32 7 + 1) (e8 : D9 32 8 = D 32 8 + pc) (sh : shX h h2 s1 s2) (hs : s1 ≤ 10 ∧ s2 ≤ 100) (ob : obD h X X2 4) (A2 : lsO h2 X2 4 (D 32 7 + 1) 0) (A3 : ∀ j : Nat, (j : Int) ≤ D 32 7 → lsE X2 4 j = if (j : Int) < D 32 7 then lsE X 4 j else v)
    (hv : X2 v 0 = D 32 7 ∧ X2 v 1 = pc ∧ X2 v 2 = len ∧ X2 v 3 = lev ∧ X2 v 4 = fi ∧ X2 v 5 = la ∧ X2 v 6 = pl ∧ X2 v 7 = 0)
    (hF : fiO D9 ∧ fiNu D9 ∧ fiP3 D9) (hL : D9 3 6 = 0 ∨ (D9 3 6 = 1 ∧ laO X2 D9)) : Inv (c + 1) h2 X2 D9 := by
  have p0 := p
  obtain ⟨⟨p1, p2, p3, p4, p5⟩, ⟨c1, c2, c3⟩, ⟨d1, d2⟩, -, -, ⟨r1, ⟨r2, r3⟩, r4⟩⟩ := p
  have h7 := p1.1.1
  have e15 := k2 32 15 (by omega)
  have e16 := k2 32 16 (by omega)
  have cl : ∀ i : Nat, (i : Int) < D9 32 7 → i ≠ (D 32 7).toNat → (i : Int) < D 32 7 := fun i hi q => by omega
  have hG0 := p0.ev
  have h4 : ∀ m : Nat, (m : Int) < D 32 7 → lsE X2 4 m = lsE X 4 m := fun m hm => by rw [A3 m (by omega), if_pos hm]
  obtain ⟨l51, l52⟩ := lsO_k sh r1.2.1 c1.1 c2.1 (by omega) (by omega) ob
  have hG : evG h2 X2 D9 := by
    refine ⟨by rw [e15]; exact l51, fun i j hi hj => ?_, fun e he => ?_⟩
    · rw [e15] at hi hj
      rw [l52 i hi, l52 j hj]
      exact c2.2.1 i j hi hj
    · rw [e15] at he
      rw [l52 e he]
      have h15 := p1.2.1.1
      have := (hG0.2.2 e he).2.2.1.1
      exact (hG0.2.2 e he).mv sh r1.2.1 c1.1 ob (by omega) ⟨⟨k2 _ _ (by omega), k2 _ _ (by omega), k2 _ _ (by omega), k2 _ _ (by omega), k2 _ _ (by omega)⟩, fun k hk => k2 _ _ (by omega)⟩ (by omega) h4
  obtain ⟨t1, t2, t3, t4⟩ := hG.S
  have hC9 : mCl D9 := by
    refine ⟨by omega, by rw [e16]; exact p1.1.2.1, fun i hi => ?_⟩
    by_cases g : i = (D 32 7).toNat
    · rw [g, e33, e34, e36, e37, e38]
      exact ⟨by omega, by omega, by omega, by omega, by omega⟩
    · rw [k3 33 i (by omega) (by omega) g, k3 34 i (by omega) (by omega) g, k3 36 i (by omega) (by omega) g, k3 37 i (by omega) (by omega) g, k3 38 i (by omega) (by omega) g]
      exact p1.1.2.2 i (cl i hi g)
  have hcn : D9 32 8 = cn38 D9 (D9 32 7).toNat := by
    have : ∀ n, n ≤ (D 32 7).toNat → cn38 D9 n = cn38 D n := by
      intro n
      induction n with
      | zero => intro _; rfl
      | succ n ih =>
        intro hn
        unfold cn38
        rw [ih (by omega), k3 38 n (by omega) (by omega) (by omega)]
    rw [e7, show (D 32 7 + 1).toNat = (D 32 7).toNat + 1 by omega, cn38, this _ (Nat.le_refl _), ← p4, e8, e38]
    rcases hpc with q | ⟨q, -⟩
    · rw [q, if_neg (by omega)]
    · rw [q, if_pos rfl]
  have hb8 : 0 ≤ D9 32 8 ∧ D9 32 8 ≤ 8 := by
    have := p1.2.2.2.1
    omega
  have hp8 : (pcs (clsD D9)).length ≤ 8 := by
    have := (pcs_cn (D := D9) (D9 32 7).toNat).1
    unfold clsD
    omega
  have b35 : ∀ i, -(12 * ((c : Int) + 1)) ≤ D9 35 i ∧ D9 35 i ≤ 99 + 99 * ((c : Int) + 1) := fun i => by
    by_cases g : i = (D 32 7).toNat
    · rw [g, e35]
      omega
    · rw [k3 35 i (by omega) (by omega) g]
      have := (p5 i).1
      omega
  have kz := sh.2.2.2 1 (by omega)
  obtain ⟨z1, z2, z3, -⟩ := sh
  refine ⟨⟨⟨hC9, ⟨by rw [e15]; exact p1.2.1.1, t3, fun i => by have := b35 i; omega, hp8⟩, ?_, hb8, ?_, ?_⟩, t4, fun i => ?_, hcn, fun i => ⟨by have := b35 i; omega, ?_⟩⟩, ⟨⟨by rw [e7]; exact A2, fun i hi => ?_⟩, t1, t2⟩, ⟨⟨?_, fun i hi => ?_⟩, ?_⟩, hF, hL, ⟨by omega, kz.1.trans r1.2.1, kz.2.1.trans r1.2.2⟩, ⟨by omega, by omega⟩, by omega⟩
  · unfold mLst
    rw [k2 32 27 (by omega)]
    exact p1.2.2.1
  · rw [k2 32 30 (by omega)]; exact p1.2.2.2.2.1
  · rw [k2 32 31 (by omega)]; exact p1.2.2.2.2.2
  · rw [k2 43 i (by omega)]; exact p3 i
  · by_cases g : i = (D 32 7).toNat
    · rw [g, e38]; omega
    · rw [k3 38 i (by omega) (by omega) g]
      exact (p5 i).2
  · rw [A3 i (by omega)]
    by_cases g : i = (D 32 7).toNat
    · have g2 : ¬ (i : Int) < D 32 7 := by omega
      have e39 : D9 39 i = 0 := by rw [k2 39 i (by omega)]; exact d1.2 i (by omega)
      rw [if_neg g2, e39, g, e33, e34, e35, e36, e37, e38]
      obtain ⟨y0, y1, y2, y3, y4, y5, y6, y7⟩ := hv
      exact ⟨by omega, y1, y2, y3, y4, y5, y6, y7⟩
    · have hi2 := cl i hi g
      obtain ⟨a1, a2, a3⟩ := c1.K hi2
      have hLa : zk h (X 4 1).toNat = 31 ∨ zk h (X 4 1).toNat = 26 := by
        rcases c1.1.2.1 with ⟨-, g4⟩ | ⟨w1, w2, w3, w4, w5⟩
        · left
          rw [g4]
          exact r1.2.1
        · exact Or.inr w2
      have ea : ∀ m, X2 (lsE X 4 i) m = X (lsE X 4 i) m := fun m => ob _ m a2 (by omega) (fun w => by rw [← w] at hLa; omega)
      rw [if_pos hi2, ea, ea, ea, ea, ea, ea, ea, ea, k3 38 i (by omega) (by omega) g, k3 33 i (by omega) (by omega) g, k3 34 i (by omega) (by omega) g, k3 36 i (by omega) (by omega) g, k3 37 i (by omega) (by omega) g, k3 35 i (by omega) (by omega) g, k2 39 i (by omega)]
      exact c1.2 i hi2
  · rw [k1 3 5 (by omega) (by omega), e16]; exact d1.1
  · rw [k2 39 i (by omega)]
    exact d1.2 i (by omega)
  · exact d2.k (fun a i w1 w2 => k1 a i (by omega) (by omega)) (fun a i w => k2 a i (by omega))
/-! .. the checks -/
set_option maxRecDepth 20000 in
theorem c78_t {len lev fi la : Int} {h : zH} (hb : (1 ≤ len ∧ len ≤ 900) ∧ (-60 ≤ lev ∧ lev ≤ 0) ∧ (0 ≤ fi ∧ fi ≤ 999) ∧ (fi ≤ la ∧ la ≤ 999)) : zc 78 4 [.int (Int32.ofInt len), .int (Int32.ofInt lev), .int (Int32.ofInt fi), .int (Int32.ofInt la)] h = some (.inl none, h) := by
  obtain ⟨h1, h2, h3, h4⟩ := hb
  rw [zc]
  simp (disch := first | omega | (simp (disch := omega) only [zwr_s, zwr_a, zwr_i, zn_put, zn_new, zn_fil, zn_chg, zV_n]; omega)) only [zentry, zs0, zs1, zs2, zs3, zg_lo, zg_st, zg_st2, zg_ald, zg_ast, zs_ia, zs_i0, zcs, zg_ii, zi_max, zi_min, zi_abi, zi_abf, zi_fb, zi_bf, lget, lst, lst2, lc2, Option.map_some, zso, if_true, if_false, zc1, and_true, true_and, and_self, List.length_nil, List.length_cons, Nat.zero_le, reduceIte, reduceCtorEq, false_and, and_false, Bool.false_eq_true, zca_some, zr0, zr100, Option.bind_some, zb_none, zb_some, zrc, or_true, true_or, eq_self, ne_eq, not_true_eq_false, not_false_eq_true, zrt_i, zrt_zb, zrt_b, zrt_c, zrt_l, zrt_f, zrt_r, zrt_n, zrt_v, zft_0, zft_1, zft_zb, zft_3, zft_4, zft_5, zft_7r, zft_7n, iI_t, zb_i, zb_0, zb_1, Nat.reduceAdd, Nat.reduceLeDiff, Nat.reduceEqDiff, Nat.reduceSub, Int.reduceNeg, iI_add, iI_sub, iI_mul, iI_neg, iI_n, zbz, zchar_id, zin, zwr_s, zwr_a, zwr_i, if_pos, if_neg, Int.toNat_natCast, Int.natCast_zero, Int.reduceToNat, z78]
set_option maxRecDepth 20000 in
theorem c78_f {len lev fi la : Int} {h : zH} {X D : zD} (r1 : iR len) (r2 : iR lev) (r3 : iR fi) (r4 : iR la) (hb : ¬ ((1 ≤ len ∧ len ≤ 900) ∧ (-60 ≤ lev ∧ lev ≤ 0) ∧ (0 ≤ fi ∧ fi ≤ 999) ∧ (fi ≤ la ∧ la ≤ 999))) : zc 78 4 [.int (Int32.ofInt len), .int (Int32.ofInt lev), .int (Int32.ofInt fi), .int (Int32.ofInt la)] (zV (zU h X) D) = some (.inr 0, zV (zU (zchg h 1 6) X) D) := by
  rw [zc]
  by_cases g1 : len < 1
  · simp (disch := first | omega | (simp (disch := omega) only [zwr_s, zwr_a, zwr_i, zn_put, zn_new, zn_fil, zn_chg, zV_n]; omega)) only [zentry, zs0, zs1, zs2, zs3, zg_lo, zg_st, zg_st2, zg_ald, zg_ast, zs_ia, zs_i0, zcs, zg_ii, zi_max, zi_min, zi_abi, zi_abf, zi_fb, zi_bf, lget, lst, lst2, lc2, Option.map_some, zso, if_true, if_false, zc1, and_true, true_and, and_self, List.length_nil, List.length_cons, Nat.zero_le, reduceIte, reduceCtorEq, false_and, and_false, Bool.false_eq_true, zca_some, zr0, zr100, Option.bind_some, zb_none, zb_some, zrc, or_true, true_or, eq_self, ne_eq, not_true_eq_false, not_false_eq_true, zrt_i, zrt_zb, zrt_b, zrt_c, zrt_l, zrt_f, zrt_r, zrt_n, zrt_v, zft_0, zft_1, zft_zb, zft_3, zft_4, zft_5, zft_7r, zft_7n, iI_t, zb_i, zb_0, zb_1, Nat.reduceAdd, Nat.reduceLeDiff, Nat.reduceEqDiff, Nat.reduceSub, Int.reduceNeg, iI_add, iI_sub, iI_mul, iI_neg, iI_n, zbz, zchar_id, zin, zwr_s, zwr_a, zwr_i, if_pos, if_neg, Int.toNat_natCast, Int.natCast_zero, Int.reduceToNat, z78, zgX]
  · by_cases g2 : 900 < len
    · simp (disch := first | omega | (simp (disch := omega) only [zwr_s, zwr_a, zwr_i, zn_put, zn_new, zn_fil, zn_chg, zV_n]; omega)) only [zentry, zs0, zs1, zs2, zs3, zg_lo, zg_st, zg_st2, zg_ald, zg_ast, zs_ia, zs_i0, zcs, zg_ii, zi_max, zi_min, zi_abi, zi_abf, zi_fb, zi_bf, lget, lst, lst2, lc2, Option.map_some, zso, if_true, if_false, zc1, and_true, true_and, and_self, List.length_nil, List.length_cons, Nat.zero_le, reduceIte, reduceCtorEq, false_and, and_false, Bool.false_eq_true, zca_some, zr0, zr100, Option.bind_some, zb_none, zb_some, zrc, or_true, true_or, eq_self, ne_eq, not_true_eq_false, not_false_eq_true, zrt_i, zrt_zb, zrt_b, zrt_c, zrt_l, zrt_f, zrt_r, zrt_n, zrt_v, zft_0, zft_1, zft_zb, zft_3, zft_4, zft_5, zft_7r, zft_7n, iI_t, zb_i, zb_0, zb_1, Nat.reduceAdd, Nat.reduceLeDiff, Nat.reduceEqDiff, Nat.reduceSub, Int.reduceNeg, iI_add, iI_sub, iI_mul, iI_neg, iI_n, zbz, zchar_id, zin, zwr_s, zwr_a, zwr_i, if_pos, if_neg, Int.toNat_natCast, Int.natCast_zero, Int.reduceToNat, z78, zgX]
    · by_cases g3 : lev < -60
      · simp (disch := first | omega | (simp (disch := omega) only [zwr_s, zwr_a, zwr_i, zn_put, zn_new, zn_fil, zn_chg, zV_n]; omega)) only [zentry, zs0, zs1, zs2, zs3, zg_lo, zg_st, zg_st2, zg_ald, zg_ast, zs_ia, zs_i0, zcs, zg_ii, zi_max, zi_min, zi_abi, zi_abf, zi_fb, zi_bf, lget, lst, lst2, lc2, Option.map_some, zso, if_true, if_false, zc1, and_true, true_and, and_self, List.length_nil, List.length_cons, Nat.zero_le, reduceIte, reduceCtorEq, false_and, and_false, Bool.false_eq_true, zca_some, zr0, zr100, Option.bind_some, zb_none, zb_some, zrc, or_true, true_or, eq_self, ne_eq, not_true_eq_false, not_false_eq_true, zrt_i, zrt_zb, zrt_b, zrt_c, zrt_l, zrt_f, zrt_r, zrt_n, zrt_v, zft_0, zft_1, zft_zb, zft_3, zft_4, zft_5, zft_7r, zft_7n, iI_t, zb_i, zb_0, zb_1, Nat.reduceAdd, Nat.reduceLeDiff, Nat.reduceEqDiff, Nat.reduceSub, Int.reduceNeg, iI_add, iI_sub, iI_mul, iI_neg, iI_n, zbz, zchar_id, zin, zwr_s, zwr_a, zwr_i, if_pos, if_neg, Int.toNat_natCast, Int.natCast_zero, Int.reduceToNat, z78, zgX]
      · by_cases g4 : 0 < lev
        · simp (disch := first | omega | (simp (disch := omega) only [zwr_s, zwr_a, zwr_i, zn_put, zn_new, zn_fil, zn_chg, zV_n]; omega)) only [zentry, zs0, zs1, zs2, zs3, zg_lo, zg_st, zg_st2, zg_ald, zg_ast, zs_ia, zs_i0, zcs, zg_ii, zi_max, zi_min, zi_abi, zi_abf, zi_fb, zi_bf, lget, lst, lst2, lc2, Option.map_some, zso, if_true, if_false, zc1, and_true, true_and, and_self, List.length_nil, List.length_cons, Nat.zero_le, reduceIte, reduceCtorEq, false_and, and_false, Bool.false_eq_true, zca_some, zr0, zr100, Option.bind_some, zb_none, zb_some, zrc, or_true, true_or, eq_self, ne_eq, not_true_eq_false, not_false_eq_true, zrt_i, zrt_zb, zrt_b, zrt_c, zrt_l, zrt_f, zrt_r, zrt_n, zrt_v, zft_0, zft_1, zft_zb, zft_3, zft_4, zft_5, zft_7r, zft_7n, iI_t, zb_i, zb_0, zb_1, Nat.reduceAdd, Nat.reduceLeDiff, Nat.reduceEqDiff, Nat.reduceSub, Int.reduceNeg, iI_add, iI_sub, iI_mul, iI_neg, iI_n, zbz, zchar_id, zin, zwr_s, zwr_a, zwr_i, if_pos, if_neg, Int.toNat_natCast, Int.natCast_zero, Int.reduceToNat, z78, zgX]
        · by_cases g5 : fi < 0
          · simp (disch := first | omega | (simp (disch := omega) only [zwr_s, zwr_a, zwr_i, zn_put, zn_new, zn_fil, zn_chg, zV_n]; omega)) only [zentry, zs0, zs1, zs2, zs3, zg_lo, zg_st, zg_st2, zg_ald, zg_ast, zs_ia, zs_i0, zcs, zg_ii, zi_max, zi_min, zi_abi, zi_abf, zi_fb, zi_bf, lget, lst, lst2, lc2, Option.map_some, zso, if_true, if_false, zc1, and_true, true_and, and_self, List.length_nil, List.length_cons, Nat.zero_le, reduceIte, reduceCtorEq, false_and, and_false, Bool.false_eq_true, zca_some, zr0, zr100, Option.bind_some, zb_none, zb_some, zrc, or_true, true_or, eq_self, ne_eq, not_true_eq_false, not_false_eq_true, zrt_i, zrt_zb, zrt_b, zrt_c, zrt_l, zrt_f, zrt_r, zrt_n, zrt_v, zft_0, zft_1, zft_zb, zft_3, zft_4, zft_5, zft_7r, zft_7n, iI_t, zb_i, zb_0, zb_1, Nat.reduceAdd, Nat.reduceLeDiff, Nat.reduceEqDiff, Nat.reduceSub, Int.reduceNeg, iI_add, iI_sub, iI_mul, iI_neg, iI_n, zbz, zchar_id, zin, zwr_s, zwr_a, zwr_i, if_pos, if_neg, Int.toNat_natCast, Int.natCast_zero, Int.reduceToNat, z78, zgX]
          · by_cases g6 : 999 < la
            · simp (disch := first | omega | (simp (disch := omega) only [zwr_s, zwr_a, zwr_i, zn_put, zn_new, zn_fil, zn_chg, zV_n]; omega)) only [zentry, zs0, zs1, zs2, zs3, zg_lo, zg_st, zg_st2, zg_ald, zg_ast, zs_ia, zs_i0, zcs, zg_ii, zi_max, zi_min, zi_abi, zi_abf, zi_fb, zi_bf, lget, lst, lst2, lc2, Option.map_some, zso, if_true, if_false, zc1, and_true, true_and, and_self, List.length_nil, List.length_cons, Nat.zero_le, reduceIte, reduceCtorEq, false_and, and_false, Bool.false_eq_true, zca_some, zr0, zr100, Option.bind_some, zb_none, zb_some, zrc, or_true, true_or, eq_self, ne_eq, not_true_eq_false, not_false_eq_true, zrt_i, zrt_zb, zrt_b, zrt_c, zrt_l, zrt_f, zrt_r, zrt_n, zrt_v, zft_0, zft_1, zft_zb, zft_3, zft_4, zft_5, zft_7r, zft_7n, iI_t, zb_i, zb_0, zb_1, Nat.reduceAdd, Nat.reduceLeDiff, Nat.reduceEqDiff, Nat.reduceSub, Int.reduceNeg, iI_add, iI_sub, iI_mul, iI_neg, iI_n, zbz, zchar_id, zin, zwr_s, zwr_a, zwr_i, if_pos, if_neg, Int.toNat_natCast, Int.natCast_zero, Int.reduceToNat, z78, zgX]
            · have g7 : la < fi := by omega
              clear hb
              simp (disch := first | omega | (simp (disch := omega) only [zwr_s, zwr_a, zwr_i, zn_put, zn_new, zn_fil, zn_chg, zV_n]; omega)) only [zentry, zs0, zs1, zs2, zs3, zg_lo, zg_st, zg_st2, zg_ald, zg_ast, zs_ia, zs_i0, zcs, zg_ii, zi_max, zi_min, zi_abi, zi_abf, zi_fb, zi_bf, lget, lst, lst2, lc2, Option.map_some, zso, if_true, if_false, zc1, and_true, true_and, and_self, List.length_nil, List.length_cons, Nat.zero_le, reduceIte, reduceCtorEq, false_and, and_false, Bool.false_eq_true, zca_some, zr0, zr100, Option.bind_some, zb_none, zb_some, zrc, or_true, true_or, eq_self, ne_eq, not_true_eq_false, not_false_eq_true, zrt_i, zrt_zb, zrt_b, zrt_c, zrt_l, zrt_f, zrt_r, zrt_n, zrt_v, zft_0, zft_1, zft_zb, zft_3, zft_4, zft_5, zft_7r, zft_7n, iI_t, zb_i, zb_0, zb_1, Nat.reduceAdd, Nat.reduceLeDiff, Nat.reduceEqDiff, Nat.reduceSub, Int.reduceNeg, iI_add, iI_sub, iI_mul, iI_neg, iI_n, zbz, zchar_id, zin, zwr_s, zwr_a, zwr_i, if_pos, if_neg, Int.toNat_natCast, Int.natCast_zero, Int.reduceToNat, z78, zgX]
set_option maxRecDepth 20000 in
theorem c79_t {h : zH} {X D : zD} (hk : zk h 4 = 7) (h7 : X 4 2 < 12) (h0 : 0 ≤ X 4 2) : zc 79 1 [.ref 3] (zV (zU h X) D) = some (.inl none, zV (zU h X) D) := by
  have e := c175 (h := h) (X := X) (D := D) (a := 4) (by omega) hk
  rw [zc]
  simp (disch := first | omega | (simp (disch := omega) only [zwr_s, zwr_a, zwr_i, zn_put, zn_new, zn_fil, zn_chg, zV_n]; omega)) only [zentry, zs0, zs1, zs2, zs3, zg_lo, zg_st, zg_st2, zg_ald, zg_ast, zs_ia, zs_i0, zcs, zg_ii, zi_max, zi_min, zi_abi, zi_abf, zi_fb, zi_bf, lget, lst, lst2, lc2, Option.map_some, zso, if_true, if_false, zc1, and_true, true_and, and_self, List.length_nil, List.length_cons, Nat.zero_le, reduceIte, reduceCtorEq, false_and, and_false, Bool.false_eq_true, zca_some, zr0, zr100, Option.bind_some, zb_none, zb_some, zrc, or_true, true_or, eq_self, ne_eq, not_true_eq_false, not_false_eq_true, zrt_i, zrt_zb, zrt_b, zrt_c, zrt_l, zrt_f, zrt_r, zrt_n, zrt_v, zft_0, zft_1, zft_zb, zft_3, zft_4, zft_5, zft_7r, zft_7n, iI_t, zb_i, zb_0, zb_1, Nat.reduceAdd, Nat.reduceLeDiff, Nat.reduceEqDiff, Nat.reduceSub, Int.reduceNeg, iI_add, iI_sub, iI_mul, iI_neg, iI_n, zbz, zchar_id, zin, zwr_s, zwr_a, zwr_i, if_pos, if_neg, Int.toNat_natCast, Int.natCast_zero, Int.reduceToNat, z79, zc3, zuL (a := 4) (Or.inl rfl) hk, e, zt1]
set_option maxRecDepth 20000 in
theorem c79_f {h : zH} {X D : zD} (hk : zk h 4 = 7) (h7 : X 4 2 = 12) : zc 79 1 [.ref 3] (zV (zU h X) D) = some (.inr 1, zV (zU (zchg h 1 6) X) D) := by
  have e := c175 (h := h) (X := X) (D := D) (a := 4) (by omega) hk
  rw [zc]
  simp (disch := first | omega | (simp (disch := omega) only [zwr_s, zwr_a, zwr_i, zn_put, zn_new, zn_fil, zn_chg, zV_n]; omega)) only [zentry, zs0, zs1, zs2, zs3, zg_lo, zg_st, zg_st2, zg_ald, zg_ast, zs_ia, zs_i0, zcs, zg_ii, zi_max, zi_min, zi_abi, zi_abf, zi_fb, zi_bf, lget, lst, lst2, lc2, Option.map_some, zso, if_true, if_false, zc1, and_true, true_and, and_self, List.length_nil, List.length_cons, Nat.zero_le, reduceIte, reduceCtorEq, false_and, and_false, Bool.false_eq_true, zca_some, zr0, zr100, Option.bind_some, zb_none, zb_some, zrc, or_true, true_or, eq_self, ne_eq, not_true_eq_false, not_false_eq_true, zrt_i, zrt_zb, zrt_b, zrt_c, zrt_l, zrt_f, zrt_r, zrt_n, zrt_v, zft_0, zft_1, zft_zb, zft_3, zft_4, zft_5, zft_7r, zft_7n, iI_t, zb_i, zb_0, zb_1, Nat.reduceAdd, Nat.reduceLeDiff, Nat.reduceEqDiff, Nat.reduceSub, Int.reduceNeg, iI_add, iI_sub, iI_mul, iI_neg, iI_n, zbz, zchar_id, zin, zwr_s, zwr_a, zwr_i, if_pos, if_neg, Int.toNat_natCast, Int.natCast_zero, Int.reduceToNat, z79, zc3, zuL (a := 4) (Or.inl rfl) hk, e, zt1, zgX]
set_option maxRecDepth 20000 in
theorem c90 {c : Nat} {h : zH} {X D : zD} (p : Inv c h X D) : zc 90 3 [.ref 3] (zV (zU h X) D) = some (.inl (some (.int (Int32.ofInt (D 32 8)))), zV (zU h X) D) := by
  have hO := p.2.1.1
  have h0 := hO.1.1
  have h7 := p.1.1.1.1
  have e175 := c175 (h := h) (X := X) (D := D) (a := 4) (by omega) h0.1
  rw [h0.2.1] at e175
  have cnb : ∀ n, 0 ≤ cn38 D n ∧ cn38 D n ≤ n := by
    intro n
    induction n with
    | zero => exact ⟨Int.le_refl _, Int.le_refl _⟩
    | succ n ih =>
      unfold cn38
      split <;> omega
  have hloop := zloop (k := 90) (pc := 4) (fun i => [some (.ref 3), some (.int (Int32.ofInt (cn38 D i))), some (.int (Int32.ofInt (i : Int)))]) (fun _ => zV (zU h X) D) (D 32 7).toNat (fun i hi => by
    obtain ⟨k1, k2, k3⟩ := hO.K (e := i) (by omega)
    have e171 := c171 (D := D) (i := (i : Int)) (Or.inl rfl) hO.1 (by omega)
    rw [Int.toNat_natCast] at e171
    have q1 := (hO.2 i (by omega)).2.1
    have q2 := (p.1.1.1.2.2 i (by omega)).2.2.2.2
    have b := cnb i
    conv => lhs; rw [z90_4]
    rw [cn38]
    clear p hO cnb
    generalize cn38 D i = cn at *
    generalize lsE X 4 i = a at *
    by_cases g : D 38 i = 1
    · rw [if_pos g]
      simp (disch := first | omega | (simp (disch := omega) only [zwr_s, zwr_a, zwr_i, zn_put, zn_new, zn_fil, zn_chg, zV_n]; omega)) only [zentry, zs0, zs1, zs2, zs3, zg_lo, zg_st, zg_st2, zg_ald, zg_ast, zs_ia, zs_i0, zcs, zg_ii, zi_max, zi_min, zi_abi, zi_abf, zi_fb, zi_bf, lget, lst, lst2, lc2, Option.map_some, zso, if_true, if_false, zc1, and_true, true_and, and_self, List.length_nil, List.length_cons, Nat.zero_le, reduceIte, reduceCtorEq, false_and, and_false, Bool.false_eq_true, zca_some, zr0, zr100, Option.bind_some, zb_none, zb_some, zrc, or_true, true_or, eq_self, ne_eq, not_true_eq_false, not_false_eq_true, zrt_i, zrt_zb, zrt_b, zrt_c, zrt_l, zrt_f, zrt_r, zrt_n, zrt_v, zft_0, zft_1, zft_zb, zft_3, zft_4, zft_5, zft_7r, zft_7n, iI_t, zb_i, zb_0, zb_1, Nat.reduceAdd, Nat.reduceLeDiff, Nat.reduceEqDiff, Nat.reduceSub, Int.reduceNeg, iI_add, iI_sub, iI_mul, iI_neg, iI_n, zbz, zchar_id, zin, zwr_s, zwr_a, zwr_i, if_pos, if_neg, Int.toNat_natCast, Int.natCast_zero, Int.reduceToNat, z90, zc3, zuL (a := 4) (Or.inl rfl) h0.1, zuC k1 k3, e175, e171, q1, g, zt1, zt2]
    · have g0 : D 38 i = 0 := by omega
      rw [if_neg g]
      simp (disch := first | omega | (simp (disch := omega) only [zwr_s, zwr_a, zwr_i, zn_put, zn_new, zn_fil, zn_chg, zV_n]; omega)) only [zentry, zs0, zs1, zs2, zs3, zg_lo, zg_st, zg_st2, zg_ald, zg_ast, zs_ia, zs_i0, zcs, zg_ii, zi_max, zi_min, zi_abi, zi_abf, zi_fb, zi_bf, lget, lst, lst2, lc2, Option.map_some, zso, if_true, if_false, zc1, and_true, true_and, and_self, List.length_nil, List.length_cons, Nat.zero_le, reduceIte, reduceCtorEq, false_and, and_false, Bool.false_eq_true, zca_some, zr0, zr100, Option.bind_some, zb_none, zb_some, zrc, or_true, true_or, eq_self, ne_eq, not_true_eq_false, not_false_eq_true, zrt_i, zrt_zb, zrt_b, zrt_c, zrt_l, zrt_f, zrt_r, zrt_n, zrt_v, zft_0, zft_1, zft_zb, zft_3, zft_4, zft_5, zft_7r, zft_7n, iI_t, zb_i, zb_0, zb_1, Nat.reduceAdd, Nat.reduceLeDiff, Nat.reduceEqDiff, Nat.reduceSub, Int.reduceNeg, iI_add, iI_sub, iI_mul, iI_neg, iI_n, zbz, zchar_id, zin, zwr_s, zwr_a, zwr_i, if_pos, if_neg, Int.toNat_natCast, Int.natCast_zero, Int.reduceToNat, z90, zc3, zuL (a := 4) (Or.inl rfl) h0.1, zuC k1 k3, e175, e171, q1, g0, Int.add_zero, zt1, zt2]) (D 32 7).toNat (Nat.le_refl _)
  have st : zc 90 3 [.ref 3] (zV (zU h X) D) = zx 90 4 [some (.ref 3), some (.int (Int32.ofInt 0)), some (.int (Int32.ofInt ((0 : Nat) : Int)))] [] (zV (zU h X) D) := by
    rw [zc]
    clear hloop p hO
    simp (disch := first | omega | (simp (disch := omega) only [zwr_s, zwr_a, zwr_i, zn_put, zn_new, zn_fil, zn_chg, zV_n]; omega)) only [zentry, zs0, zs1, zs2, zs3, zg_lo, zg_st, zg_st2, zg_ald, zg_ast, zs_ia, zs_i0, zcs, zg_ii, zi_max, zi_min, zi_abi, zi_abf, zi_fb, zi_bf, lget, lst, lst2, lc2, Option.map_some, zso, if_true, if_false, zc1, and_true, true_and, and_self, List.length_nil, List.length_cons, Nat.zero_le, reduceIte, reduceCtorEq, false_and, and_false, Bool.false_eq_true, zca_some, zr0, zr100, Option.bind_some, zb_none, zb_some, zrc, or_true, true_or, eq_self, ne_eq, not_true_eq_false, not_false_eq_true, zrt_i, zrt_zb, zrt_b, zrt_c, zrt_l, zrt_f, zrt_r, zrt_n, zrt_v, zft_0, zft_1, zft_zb, zft_3, zft_4, zft_5, zft_7r, zft_7n, iI_t, zb_i, zb_0, zb_1, Nat.reduceAdd, Nat.reduceLeDiff, Nat.reduceEqDiff, Nat.reduceSub, Int.reduceNeg, iI_add, iI_sub, iI_mul, iI_neg, iI_n, zbz, zchar_id, zin, zwr_s, zwr_a, zwr_i, if_pos, if_neg, Int.toNat_natCast, Int.natCast_zero, Int.reduceToNat, z90, zc3]
  rw [st]
  refine Eq.trans hloop ?_
  have hN : (((D 32 7).toNat : Nat) : Int) = D 32 7 := by omega
  rw [z90_4, hN, ← p.1.2.2.2.1]
  have := p.1.1.2.2.2.1
  clear hloop p hO st
  simp (disch := first | omega | (simp (disch := omega) only [zwr_s, zwr_a, zwr_i, zn_put, zn_new, zn_fil, zn_chg, zV_n]; omega)) only [zentry, zs0, zs1, zs2, zs3, zg_lo, zg_st, zg_st2, zg_ald, zg_ast, zs_ia, zs_i0, zcs, zg_ii, zi_max, zi_min, zi_abi, zi_abf, zi_fb, zi_bf, lget, lst, lst2, lc2, Option.map_some, zso, if_true, if_false, zc1, and_true, true_and, and_self, List.length_nil, List.length_cons, Nat.zero_le, reduceIte, reduceCtorEq, false_and, and_false, Bool.false_eq_true, zca_some, zr0, zr100, Option.bind_some, zb_none, zb_some, zrc, or_true, true_or, eq_self, ne_eq, not_true_eq_false, not_false_eq_true, zrt_i, zrt_zb, zrt_b, zrt_c, zrt_l, zrt_f, zrt_r, zrt_n, zrt_v, zft_0, zft_1, zft_zb, zft_3, zft_4, zft_5, zft_7r, zft_7n, iI_t, zb_i, zb_0, zb_1, Nat.reduceAdd, Nat.reduceLeDiff, Nat.reduceEqDiff, Nat.reduceSub, Int.reduceNeg, iI_add, iI_sub, iI_mul, iI_neg, iI_n, zbz, zchar_id, zin, zwr_s, zwr_a, zwr_i, if_pos, if_neg, Int.toNat_natCast, Int.natCast_zero, Int.reduceToNat, z90, zc3, zuL (a := 4) (Or.inl rfl) h0.1, e175, zt1]
theorem clI_v {X : zD} {a : Nat} {n pc len lev pl fi la : Int} : (clI X a n pc len lev pl fi la a 0 = n ∧ clI X a n pc len lev pl fi la a 1 = pc ∧ clI X a n pc len lev pl fi la a 2 = len ∧ clI X a n pc len lev pl fi la a 3 = lev ∧ clI X a n pc len lev pl fi la a 4 = fi ∧ clI X a n pc len lev pl fi la a 5 = la ∧ clI X a n pc len lev pl fi la a 6 = pl ∧ clI X a n pc len lev pl fi la a 7 = 0) ∧ ∀ b k, b ≠ a → clI X a n pc len lev pl fi la b k = X b k := by
  unfold clI zwr
  refine ⟨by simp, fun b k h => by simp [h]⟩
/-- a clip made and put into the list -/
theorem clN {c : Nat} {h : zH} {X D : zD} {len lev pl fi la pc : Int} (p : Inv c h X D) (hn : D 32 7 < 12) (hpc : pc = 0 ∨ pc = 1) :
    ∃ h2 X2, (∀ Y : zD, zc 0 8 [.ref (zn h), .int (Int32.ofInt (D 32 7)), .int (Int32.ofInt pc), .int (Int32.ofInt len), .int (Int32.ofInt lev), .int (Int32.ofInt pl), .int (Int32.ofInt fi), .int (Int32.ofInt la)] (zV (zU (znew h 0 8 (fun i => zdef (zty 0 i))) (zrw X (zn h) (dz 0))) Y) = some (.inl none, zV (zU (znew h 0 8 (fun i => zdef (zty 0 i))) (clI (zrw X (zn h) (dz 0)) (zn h) (D 32 7) pc len lev pl fi la)) Y)) ∧
      (zc 165 2 [.ref 4, .ref (zn h)] (zV (zU (znew h 0 8 (fun i => zdef (zty 0 i))) (clI (zrw X (zn h) (dz 0)) (zn h) (D 32 7) pc len lev pl fi la)) D) = some (.inl (some (.int (Int32.ofInt 1))), zV (zU h2 X2) D)) ∧ znew (zV (zU h X) D) 0 8 (fun i => zdef (zty 0 i)) = zV (zU (znew h 0 8 (fun i => zdef (zty 0 i))) (zrw X (zn h) (dz 0))) D ∧
      shX h h2 2 23 ∧ obD h X X2 4 ∧ lsO h2 X2 4 (D 32 7 + 1) 0 ∧ (∀ j : Nat, (j : Int) ≤ D 32 7 → lsE X2 4 j = if (j : Int) < D 32 7 then lsE X 4 j else zn h) ∧ (X2 (zn h) 0 = D 32 7 ∧ X2 (zn h) 1 = pc ∧ X2 (zn h) 2 = len ∧ X2 (zn h) 3 = lev ∧ X2 (zn h) 4 = fi ∧ X2 (zn h) 5 = la ∧ X2 (zn h) 6 = pl ∧ X2 (zn h) 7 = 0) := by
  have hz := p.2.2.2.2.2.1
  have hO := p.2.1.1
  have nw := zW_new (h := h) (X := X) (D := D) (k := 0) (n := 8) (by omega) hz.1
  have sh1 : shX h (znew h 0 8 (fun i => zdef (zty 0 i))) 1 8 := shX.new
  have kv : zk (znew h 0 8 (fun i => zdef (zty 0 i))) (zn h) = 0 := by rw [zk_new, if_pos rfl]
  have n1 : zn (znew h 0 8 (fun i => zdef (zty 0 i))) = zn h + 1 := zn_new
  generalize hh1 : znew h 0 8 (fun i => zdef (zty 0 i)) = h1 at *
  obtain ⟨iv, io⟩ := clI_v (X := zrw X (zn h) (dz 0)) (a := zn h) (n := D 32 7) (pc := pc) (len := len) (lev := lev) (pl := pl) (fi := fi) (la := la)
  have e0 := fun Y => c0 (X := zrw X (zn h) (dz 0)) (D := Y) (n := D 32 7) (len := len) (lev := lev) (pl := pl) (fi := fi) (la := la) hz.1 kv hpc
  have Y0 : ∀ b k, b ≠ zn h → clI (zrw X (zn h) (dz 0)) (zn h) (D 32 7) pc len lev pl fi la b k = X b k := fun b k q => by rw [io b k q, zrw_a q]
  generalize clI (zrw X (zn h) (dz 0)) (zn h) (D 32 7) pc len lev pl fi la = Y at *
  have kk1 := sh1.2.2.2 1 (by omega)
  obtain ⟨lY, lYe⟩ := lsO_n sh1 (by omega) (fun b k q => Y0 b k (by omega)) (by omega) hO.1
  obtain ⟨h2, X2, e165, A1, A2, A3, A4, A5, A6⟩ := c165 (D := D) (v := zn h) (Or.inl rfl) (by omega) (by omega) lY (by omega) (by omega) (by rw [kk1.1]; exact hz.2.1) (by rw [kk1.2.1]; exact hz.2.2) ⟨hz.1, by omega, kv⟩
  have d4 : (Y 4 1).toNat = (X 4 1).toNat := by rw [Y0 4 1 (by omega)]
  have hd : (X 4 1).toNat < zn h := by
    rcases hO.1.2.1 with ⟨-, q⟩ | ⟨q, -⟩ <;> omega
  have vN : ∀ k, X2 (zn h) k = Y (zn h) k := fun k => A4 _ k (by omega) (by omega) (by omega)
  refine ⟨h2, X2, e0, e165, nw, (sh1.tr A1).w (by omega) (by omega), fun b k q0 q1 q2 => ?_, A2, fun j hj => ?_, ?_⟩
  · rw [A4 b k (by omega) q1 (by rw [d4]; exact q2)]
    exact Y0 b k (by omega)
  · rw [A3 j hj]
    by_cases w : (j : Int) < D 32 7
    · rw [if_pos w, if_pos w, lYe]
    · rw [if_neg w, if_neg w, if_pos (by omega)]
  · rw [vN, vN, vN, vN, vN, vN, vN, vN]
    exact iv

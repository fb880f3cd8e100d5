/-! a day aired: class and reference side by side -/
theorem airS_0 {sp : zSp} {i : Nat} {n : Int} (h : ∀ k, k < sp.length → (spK sp k).1 < n) (hi : n ≤ i) : ∀ k, k ≤ sp.length → airS sp i k = 0
  | 0, _ => rfl
  | k + 1, hk => by
    have := h k (by omega)
    unfold airS
    rw [airS_0 h hi k (by omega), if_neg (by omega)]
    rfl
set_option maxRecDepth 20000 in
theorem s71 {c : Nat} {h : zH} {X D : zD} (p : Inv c h X D) (hc : c < 600) : ((if D 32 16 = 999 then (1 : Int) else 0) = 0 ∧ ∃ (v : Int) (h1 : zH) (X1 D1 D9 : zD), (zc 71 1 [.ref 3] (zV (zU h X) D)) = some (.inl (some (.int (Int32.ofInt v))), zV (zU h1 X1) D1) ∧ (-(12 * (c : Int)) ≤ v ∧ v ≤ 100000) ∧ (∀ a i, a < 32 → D9 a i = D1 a i) ∧ Inv (c + 1) h1 X1 D9 ∧ D9 32 30 = ((lyF D).2.1.length : Int) ∧ v = D9 32 30 ∧ D9 32 16 = D 32 16 + 1 ∧ D9 32 31 = 1 ∧ ∀ i, D9 39 i = D 39 i + airS (lyF D).2.1 i (lyF D).2.1.length) ∨ cE (zc 71 1 [.ref 3] (zV (zU h X) D)) ((if D 32 16 = 999 then (1 : Int) else 0)) 1 1 h X D := by
  have h16 := p.1.1.1.2.1
  have hd5 := p.2.2.1.1.1
  by_cases g : D 32 16 = 999
  · have e71 : cE (zc 71 1 [.ref 3] (zV (zU h X) D)) 1 1 1 h X D := by
      refine ⟨rfl, ?_⟩
      rw [zc]
      clear p
      simp (disch := first | omega | (simp (disch := omega) only [zwr_s, zwr_a, zwr_i, zn_put, zn_new, zn_fil, zn_chg, zV_n]; omega)) only [zentry, zs0, zs1, zs2, zs3, zg_lo, zg_st, zg_st2, zg_ald, zg_ast, zs_ia, zs_i0, zcs, zg_ii, zi_max, zi_min, zi_abi, zi_abf, zi_fb, zi_bf, lget, lst, lst2, lc2, Option.map_some, zso, if_true, if_false, zc1, and_true, true_and, and_self, List.length_nil, List.length_cons, Nat.zero_le, reduceIte, reduceCtorEq, false_and, and_false, Bool.false_eq_true, zca_some, zr0, zr100, Option.bind_some, zb_none, zb_some, zrc, or_true, true_or, eq_self, ne_eq, not_true_eq_false, not_false_eq_true, zrt_i, zrt_zb, zrt_b, zrt_c, zrt_l, zrt_f, zrt_r, zrt_n, zrt_v, zft_0, zft_1, zft_zb, zft_3, zft_4, zft_5, zft_7r, zft_7n, iI_t, zb_i, zb_0, zb_1, Nat.reduceAdd, Nat.reduceLeDiff, Nat.reduceEqDiff, Nat.reduceSub, Int.reduceNeg, iI_add, iI_sub, iI_mul, iI_neg, iI_n, zbz, zchar_id, zin, zwr_s, zwr_a, zwr_i, if_pos, if_neg, Int.toNat_natCast, Int.natCast_zero, Int.reduceToNat, z71, zc3, hd5, zgX]
    exact Or.inr ⟨if_pos g, e71.2⟩
  · obtain ⟨X1, D1, e91, p1, la, l36, y, d32, d6⟩ := lay p
    have ce1 : cEq D D1 := fun a i q => d32 a i (by omega)
    have hO1 := p1.1.1
    have f16 : D1 32 16 = D 32 16 := ce1 32 16 (by omega)
    obtain ⟨l1, l2, l3, -, l5⟩ := lyF_ok hO1
    obtain ⟨g1, g2, g3⟩ := spL hO1 la
    have h7 := hO1.1.1
    have h15 := hO1.2.1.1
    have hC1 := p1.2.1.1
    have hS1 := p1.2.1.2.1
    have h4 := hC1.1.1
    have hd51 := p1.2.2.1.1.1
    -- the log
    have e32 := c32 (h := zU h X1) (D := D1) g1
    have tv : ∀ a i, tTk D1 (D1 6 3).toNat a i = if a = 10 ∧ i = 3 then D1 6 3 else if (a = 11 ∨ a = 12 ∨ a = 13) ∧ i < (D1 6 3).toNat then D1 (a - 4) i else D1 a i := fun a i => by
      unfold tTk
      rw [show (((D1 6 3).toNat : Nat) : Int) = D1 6 3 by omega]
    generalize tTk D1 (D1 6 3).toNat = D2 at *
    have z3 : ∀ a i, zwr D2 3 7 1 a i = if a = 3 ∧ i = 7 then 1 else if a = 10 ∧ i = 3 then D1 6 3 else if (a = 11 ∨ a = 12 ∨ a = 13) ∧ i < (D1 6 3).toNat then D1 (a - 4) i else D1 a i := fun a i => by rw [zwr_e, tv]
    have lgc : ∀ k, k < (lyF D1).2.1.length → zwr D2 3 7 1 11 k = (spK (lyF D1).2.1 k).1 ∧ zwr D2 3 7 1 12 k = (spK (lyF D1).2.1 k).2.2.1 ∧ zwr D2 3 7 1 13 k = (spK (lyF D1).2.1 k).2.2.2 := fun k hk => by
      obtain ⟨v1, v2, v3, -⟩ := g3 k (by omega)
      rw [z3, z3, z3, if_neg (by omega), if_neg (by omega), if_pos (by omega), if_neg (by omega), if_neg (by omega), if_pos (by omega), if_neg (by omega), if_neg (by omega), if_pos (by omega)]
      exact ⟨v1, v2, v3⟩
    have lgn : zwr D2 3 7 1 10 3 = (lyF D1).2.1.length := by rw [z3, if_neg (by omega), if_pos ⟨rfl, rfl⟩]; exact g2
    obtain ⟨X2, e98, o98, r98⟩ := c98 (n := D1 32 7) (h := h) (D := zwr D2 3 7 1) (by omega) lgn l2 (fun k hk => by
      obtain ⟨w1, w2, w3⟩ := lgc k hk
      have m := spK_mem hk
      have b := spC_b l1 _ m
      have v := l3 _ m
      exact ⟨w1, w2, w3, by rcases v with v | v <;> omega, by omega⟩) (lyF D1).2.1.length 0 X1 none hC1.1 (fun i j hi hj w => hC1.in hi hj w) (by omega)
    have e98' : zc 98 3 [.ref 3] (zV (zU h X1) (zwr D2 3 7 1)) = some (.inl none, zV (zU h X2) (zwr D2 3 7 1)) := by
      rw [← e98, zc]
      clear e98 o98 r98 l1 l3 l5 g3 lgc p p1 la y hC1 hS1 hO1 z3 tv
      generalize zwr D2 3 7 1 = D3 at *
      simp (disch := first | omega | (simp (disch := omega) only [zwr_s, zwr_a, zwr_i, zn_put, zn_new, zn_fil, zn_chg, zV_n]; omega)) only [zentry, zs0, zs1, zs2, zs3, zg_lo, zg_st, zg_st2, zg_ald, zg_ast, zs_ia, zs_i0, zcs, zg_ii, zi_max, zi_min, zi_abi, zi_abf, zi_fb, zi_bf, lget, lst, lst2, lc2, Option.map_some, zso, if_true, if_false, zc1, and_true, true_and, and_self, List.length_nil, List.length_cons, Nat.zero_le, reduceIte, reduceCtorEq, false_and, and_false, Bool.false_eq_true, zca_some, zr0, zr100, Option.bind_some, zb_none, zb_some, zrc, or_true, true_or, eq_self, ne_eq, not_true_eq_false, not_false_eq_true, zrt_i, zrt_zb, zrt_b, zrt_c, zrt_l, zrt_f, zrt_r, zrt_n, zrt_v, zft_0, zft_1, zft_zb, zft_3, zft_4, zft_5, zft_7r, zft_7n, iI_t, zb_i, zb_0, zb_1, Nat.reduceAdd, Nat.reduceLeDiff, Nat.reduceEqDiff, Nat.reduceSub, Int.reduceNeg, iI_add, iI_sub, iI_mul, iI_neg, iI_n, zbz, zchar_id, zin, zwr_s, zwr_a, zwr_i, if_pos, if_neg, Int.toNat_natCast, Int.natCast_zero, Int.reduceToNat, z98, Int.natCast_zero]
    have ob2 : obX h X1 X2 := fun b i q => o98 b i (by omega)
    obtain ⟨l41, l42⟩ := lsO_b hC1.1 ob2
    obtain ⟨l51, l52⟩ := lsO_b hS1.1 ob2
    have vE1 := p1.vE
    obtain ⟨X3, e99, o99, r99, s99⟩ := c99 (N := D1 32 15) (n := D1 32 7) (S := D1) (ba := (lyF D1).2.2.1) (h := h) (D := zwr D2 3 7 1) h15 (fun e he => ⟨vE1 e he, (l5 e).1⟩) (D1 32 15).toNat 0 X2 none l51 (fun i j hi hj w => by
      rw [l52 i hi, l52 j hj] at w
      exact hS1.2.1 i j hi hj w) l41 (fun i j hi hj w => by
      rw [l42 i hi, l42 j hj] at w
      exact hC1.in hi hj w) (fun e he => by
      have ve := vE1 e he
      rw [l52 e he, l42 _ (by omega), o98 _ 0 (by omega), o98 _ 5 (by omega)]
      exact ⟨(hS1.2.2 e he).1, (la.2.2 e he).2.1⟩) (by omega)
    have e99' : zc 99 3 [.ref 3] (zV (zU h X2) (zwr D2 3 7 1)) = some (.inl none, zV (zU h X3) (zwr D2 3 7 1)) := by
      rw [← e99, zc]
      clear e98 o98 r98 e98' e99 o99 r99 s99 l1 l3 l5 g3 lgc p p1 la y hC1 hS1 hO1 z3 tv ob2 l41 l42 l51 l52 vE1
      generalize zwr D2 3 7 1 = D3 at *
      simp (disch := first | omega | (simp (disch := omega) only [zwr_s, zwr_a, zwr_i, zn_put, zn_new, zn_fil, zn_chg, zV_n]; omega)) only [zentry, zs0, zs1, zs2, zs3, zg_lo, zg_st, zg_st2, zg_ald, zg_ast, zs_ia, zs_i0, zcs, zg_ii, zi_max, zi_min, zi_abi, zi_abf, zi_fb, zi_bf, lget, lst, lst2, lc2, Option.map_some, zso, if_true, if_false, zc1, and_true, true_and, and_self, List.length_nil, List.length_cons, Nat.zero_le, reduceIte, reduceCtorEq, false_and, and_false, Bool.false_eq_true, zca_some, zr0, zr100, Option.bind_some, zb_none, zb_some, zrc, or_true, true_or, eq_self, ne_eq, not_true_eq_false, not_false_eq_true, zrt_i, zrt_zb, zrt_b, zrt_c, zrt_l, zrt_f, zrt_r, zrt_n, zrt_v, zft_0, zft_1, zft_zb, zft_3, zft_4, zft_5, zft_7r, zft_7n, iI_t, zb_i, zb_0, zb_1, Nat.reduceAdd, Nat.reduceLeDiff, Nat.reduceEqDiff, Nat.reduceSub, Int.reduceNeg, iI_add, iI_sub, iI_mul, iI_neg, iI_n, zbz, zchar_id, zin, zwr_s, zwr_a, zwr_i, if_pos, if_neg, Int.toNat_natCast, Int.natCast_zero, Int.reduceToNat, z99, Int.natCast_zero]
    have ob3 : obX h X2 X3 := fun b i q => o99 b i (by omega) (by omega)
    obtain ⟨l43, l44⟩ := lsO_b l41 ob3
    obtain ⟨l53, l54⟩ := lsO_b l51 ob3
    have E4 : ∀ i : Nat, (i : Int) < D1 32 7 → lsE X3 4 i = lsE X1 4 i := fun i hi => (l44 i hi).trans (l42 i hi)
    have E5 : ∀ i : Nat, (i : Int) < D1 32 15 → lsE X3 5 i = lsE X1 5 i := fun i hi => (l54 i hi).trans (l52 i hi)
    have O3 : ∀ b j, ¬ (zk h b = 0 ∧ (j = 6 ∨ j = 7)) → ¬ (zk h b = 1 ∧ j = 4) → X3 b j = X1 b j := fun b j w1 w2 => (o99 b j (by omega) (by omega)).trans (o98 b j (by omega))
    have mx : mX h X1 X3 := fun b i q1 q2 => O3 b i (by omega) (by omega)
    -- the cells behind the day
    have z4 : ∀ a i, zwr (zwr D2 3 7 1) 3 5 (D1 32 16 + 1) a i = if a = 3 ∧ i = 5 then D1 32 16 + 1 else if a = 3 ∧ i = 7 then 1 else if a = 10 ∧ i = 3 then D1 6 3 else if (a = 11 ∨ a = 12 ∨ a = 13) ∧ i < (D1 6 3).toNat then D1 (a - 4) i else D1 a i := fun a i => by rw [zwr_e, z3]
    have s35 : zwr D2 3 7 1 3 5 = D1 32 16 := by rw [z3, if_neg (by omega), if_neg (by omega), if_neg (by omega)]; exact hd51
    have v14 : ∀ a i, 14 ≤ a → zwr (zwr D2 3 7 1) 3 5 (D1 32 16 + 1) a i = D1 a i := fun a i q => by rw [z4, if_neg (by omega), if_neg (by omega), if_neg (by omega), if_neg (by omega)]
    generalize hD3 : zwr D2 3 7 1 = D3 at *
    generalize hD4 : zwr D3 3 5 (D1 32 16 + 1) = D4 at *
    have hfi := p1.2.2.2.1
    have sS : ∀ a i, a ≠ 32 ∨ i ≠ 16 → zwr D1 32 16 (D1 32 16 + 1) a i = D1 a i := fun a i q => by rw [zwr_e, if_neg (by omega)]
    have s16 : zwr D1 32 16 (D1 32 16 + 1) 32 16 = D1 32 16 + 1 := zwr_s
    generalize zwr D1 32 16 (D1 32 16 + 1) = S at *
    have hCS : mCl S := by
      obtain ⟨m1, m2, m3⟩ := hO1.1
      refine ⟨by rw [sS 32 7 (by omega)]; exact m1, by omega, fun i hi => ?_⟩
      rw [sS 32 7 (by omega)] at hi
      rw [sS 33 i (by omega), sS 34 i (by omega), sS 36 i (by omega), sS 37 i (by omega), sS 38 i (by omega)]
      exact m3 i hi
    have hP : clP h X3 S := by
      refine ⟨by rw [sS 32 7 (by omega)]; exact l43, fun i hi => ?_⟩
      rw [sS 32 7 (by omega)] at hi
      have kc := (hC1.K hi).2.2
      rw [E4 i hi, O3 _ 0 (by omega) (by omega), O3 _ 1 (by omega) (by omega), O3 _ 2 (by omega) (by omega), O3 _ 3 (by omega) (by omega), O3 _ 4 (by omega) (by omega), O3 _ 5 (by omega) (by omega), sS 33 i (by omega), sS 34 i (by omega), sS 36 i (by omega), sS 37 i (by omega), sS 38 i (by omega)]
      obtain ⟨y0, y1, y2, y3, y4, y5, -⟩ := hC1.2 i hi
      exact ⟨y0, y1, y2, y3, y4, y5⟩
    have hcnS : cn38 S (S 32 7).toNat = D1 32 8 := by
      have : ∀ n, cn38 S n = cn38 D1 n := by
        intro n
        induction n with
        | zero => rfl
        | succ n ih =>
          unfold cn38
          rw [ih, sS 38 n (by omega)]
      rw [sS 32 7 (by omega), this, ← p1.1.2.2.2.1]
    have h8S : (pcs (clsD S)).length ≤ 8 := by
      have := (pcs_cn (D := S) (S 32 7).toNat).1
      have := hO1.2.2.2.1
      unfold clsD
      omega
    obtain ⟨⟨b1, b2⟩, b3, b5, bT⟩ := hfi.1
    obtain ⟨D5, e9, o9, fB, fP, f5, fT, fN, n3, n15⟩ := c9s (d := D1 32 16 + 1) (D := D4) (E := S) hP hCS (by omega) ⟨by rw [v14 14 3 (by omega)]; exact b1, fun i hi => by
        rw [v14 14 3 (by omega)] at hi
        rw [v14 15 i (by omega), v14 16 i (by omega), v14 17 i (by omega)]
        exact b2 i hi⟩ (by rw [v14 14 5 (by omega)]; exact b5) (fun w r s hr hs => by
        rw [v14 _ _ (by omega), v14 14 3 (by omega), bT (by rw [v14 14 5 (by omega)] at w; exact w) r s hr hs, lnF_c2 _ _ (fun k _ _ => v14 16 k (by omega))]) (fun k hk => by
        rw [v14 14 3 (by omega)] at hk
        rw [v14 16 k (by omega), v14 17 k (by omega), v14 15 k (by omega), sS 33 _ (by omega), sS 34 _ (by omega)]
        exact hfi.2.1 k hk) (fun _ _ _ => rfl) s16 h8S
    have n103 : zwr D5 3 6 0 10 3 = (lyF D1).2.1.length := by rw [zwr_a (by omega), o9 10 3 (by omega) (by omega), ← hD4, zwr_a (by omega)]; exact lgn
    have n103b : D5 10 3 = (lyF D1).2.1.length := by rw [← n103, zwr_a (by omega)]
    have hd35 : D 3 5 < 999 := by omega
    have s35b : D4 3 5 = D1 32 16 + 1 := by rw [← hD4, zwr_s]
    have e71 : cV (zc 71 1 [.ref 3] (zV (zU h X) D)) 0 ((lyF D1).2.1.length : Int) h X3 (zwr D5 3 6 0) := by
      refine ⟨rfl, ?_⟩
      rw [zc]
      clear p p1 la y hC1 hS1 hO1 hfi hP hCS hcnS h8S b2 bT b3 fB fP f5 fT fN n3 n15 o9 v14 z4 E4 E5 O3 mx l43 l44 l53 l54 l41 l42 l51 l52 o98 r98 o99 r99 s99 e98 e99 l1 l3 l5 g3 lgc z3 tv ob2 ob3 vE1 sS s16 d32 d6 ce1
      generalize (lyF D1).2.1.length = len at *
      simp (disch := first | omega | (simp (disch := omega) only [zwr_s, zwr_a, zwr_i, zn_put, zn_new, zn_fil, zn_chg, zV_n]; omega)) only [zentry, zs0, zs1, zs2, zs3, zg_lo, zg_st, zg_st2, zg_ald, zg_ast, zs_ia, zs_i0, zcs, zg_ii, zi_max, zi_min, zi_abi, zi_abf, zi_fb, zi_bf, lget, lst, lst2, lc2, Option.map_some, zso, if_true, if_false, zc1, and_true, true_and, and_self, List.length_nil, List.length_cons, Nat.zero_le, reduceIte, reduceCtorEq, false_and, and_false, Bool.false_eq_true, zca_some, zr0, zr100, Option.bind_some, zb_none, zb_some, zrc, or_true, true_or, eq_self, ne_eq, not_true_eq_false, not_false_eq_true, zrt_i, zrt_zb, zrt_b, zrt_c, zrt_l, zrt_f, zrt_r, zrt_n, zrt_v, zft_0, zft_1, zft_zb, zft_3, zft_4, zft_5, zft_7r, zft_7n, iI_t, zb_i, zb_0, zb_1, Nat.reduceAdd, Nat.reduceLeDiff, Nat.reduceEqDiff, Nat.reduceSub, Int.reduceNeg, iI_add, iI_sub, iI_mul, iI_neg, iI_n, zbz, zchar_id, zin, zwr_s, zwr_a, zwr_i, if_pos, if_neg, Int.toNat_natCast, Int.natCast_zero, Int.reduceToNat, z71, zc3, zc6, zc10, zc14, e91, e32, hD3, e98', e99', s35, hD4, s35b, e9, n103, n103b, zt1, zt2, zt3]
    -- the reference
    have dm : ∀ a i, 18 ≤ a → a ≠ 68 → zwr (zwr D5 3 6 0) 68 0 ((lyF D1).2.1.length : Int) a i = D1 a i := fun a i q1 q2 => by
      rw [zwr_a q2, zwr_a (by omega), o9 a i (by omega) (by omega), v14 a i (by omega)]
    have dml : ∀ a i, a < 32 → zwr (zwr D5 3 6 0) 68 0 ((lyF D1).2.1.length : Int) a i = zwr D5 3 6 0 a i := fun a i q1 => zwr_a (by omega)
    have dm68 : zwr (zwr D5 3 6 0) 68 0 ((lyF D1).2.1.length : Int) 68 0 = (lyF D1).2.1.length := zwr_s
    generalize zwr (zwr D5 3 6 0) 68 0 ((lyF D1).2.1.length : Int) = Dm at *
    have ceM : cEq D1 Dm := fun a i q => dm a i (by omega) (by omega)
    have hOm : mOk Dm := ceM.ok (by unfold mLst; rw [dm 32 27 (by omega) (by omega)]; exact hO1.2.2.1) hO1
    rcases m157 (h := zU h X3) hOm with ⟨q, -⟩ | ⟨-, D', a1, a2, a3, em⟩
    · rw [dm 32 16 (by omega) (by omega)] at q
      omega
    rw [lyF_cc ceM] at em
    have cA : ∀ i n, cntA Dm i n = cntA D1 i n := fun i n => by
      induction n with
      | zero => rfl
      | succ n ih =>
        unfold cntA
        rw [ih, dm 40 n (by omega) (by omega), lyF_cc ceM]
    have v9 : ∀ a i, airD Dm D' a i = if a = 32 ∧ i = 16 then D1 32 16 + 1 else if a = 66 ∧ i < (lyF D1).2.1.length then (spK (lyF D1).2.1 i).1 else if a = 67 ∧ i < (lyF D1).2.1.length then (spK (lyF D1).2.1 i).2.2.1 else if a = 39 then D' 39 i + airS (lyF D1).2.1 i (lyF D1).2.1.length else if a = 32 ∧ i = 31 then 1 else if a = 32 ∧ i = 30 then ((lyF D1).2.1.length : Int) else if a = 35 then D' 35 i - cntA D1 i (D1 32 15).toNat else if a = 42 ∧ i < (D1 32 15).toNat then 0 else D' a i := fun a i => by
      unfold airD
      rw [lyF_cc ceM, dm 32 15 (by omega) (by omega), dm 32 16 (by omega) (by omega), zwr_e]
      by_cases w0 : a = 32 ∧ i = 16
      · rw [if_pos w0, if_pos w0]
      · rw [if_neg w0, if_neg w0]
        unfold airL
        by_cases w1 : a = 66 ∧ i < (lyF D1).2.1.length
        · rw [if_pos w1, if_pos w1]
        · rw [if_neg w1, if_neg w1]
          by_cases w2 : a = 67 ∧ i < (lyF D1).2.1.length
          · rw [if_pos w2, if_pos w2]
          · rw [if_neg w2, if_neg w2]
            by_cases w3 : a = 39
            · rw [if_pos w3, if_pos w3, zwr_a (by omega), zwr_a (by omega)]
              unfold airA
              rw [if_neg (by omega), if_neg (by omega)]
            · rw [if_neg w3, if_neg w3, zwr_e]
              by_cases w4 : a = 32 ∧ i = 31
              · rw [if_pos w4, if_pos w4]
              · rw [if_neg w4, if_neg w4, zwr_e]
                by_cases w5 : a = 32 ∧ i = 30
                · rw [if_pos w5, if_pos w5]
                · rw [if_neg w5, if_neg w5]
                  unfold airA
                  rw [cA]
    generalize airD Dm D' = D9 at *
    have aD : ∀ a i, fAd a i → ¬ (a = 32 ∧ i = 32) → D' a i = Dm a i := a1
    have o : ∀ a i, fAd a i → ¬ (a = 32 ∧ (i = 16 ∨ i = 30 ∨ i = 31 ∨ i = 32)) → a ≠ 66 → a ≠ 67 → a ≠ 39 → a ≠ 35 → a ≠ 42 → D9 a i = Dm a i := fun a i q1 q2 q3 q4 q5 q6 q7 => by
      rw [v9, if_neg (by omega), if_neg (by omega), if_neg (by omega), if_neg (by omega), if_neg (by omega), if_neg (by omega), if_neg (by omega), if_neg (by omega), aD a i q1 (by omega)]
    have oD : ∀ a i, 18 ≤ a → a ≠ 68 → fAd a i → ¬ (a = 32 ∧ (i = 16 ∨ i = 30 ∨ i = 31 ∨ i = 32)) → a ≠ 66 → a ≠ 67 → a ≠ 39 → a ≠ 35 → a ≠ 42 → D9 a i = D1 a i := fun a i q0 q8 q1 q2 q3 q4 q5 q6 q7 => (o a i q1 q2 q3 q4 q5 q6 q7).trans (dm a i q0 q8)
    have w16 : D9 32 16 = D1 32 16 + 1 := by rw [v9, if_pos ⟨rfl, rfl⟩]
    have w30 : D9 32 30 = (lyF D1).2.1.length := by rw [v9, if_neg (by omega), if_neg (by omega), if_neg (by omega), if_neg (by omega), if_neg (by omega), if_pos ⟨rfl, rfl⟩]
    have w31 : D9 32 31 = 1 := by rw [v9, if_neg (by omega), if_neg (by omega), if_neg (by omega), if_neg (by omega), if_pos ⟨rfl, rfl⟩]
    have w32 : D9 32 32 = 0 := by rw [v9, if_neg (by omega), if_neg (by omega), if_neg (by omega), if_neg (by omega), if_neg (by omega), if_neg (by omega), if_neg (by omega), if_neg (by omega)]; exact a2
    have w68 : D9 68 0 = (lyF D1).2.1.length := by rw [o 68 0 (by omega) (by omega) (by omega) (by omega) (by omega) (by omega) (by omega), dm68]
    have w35 : ∀ i, D9 35 i = D1 35 i - cntA D1 i (D1 32 15).toNat := fun i => by
      rw [v9, if_neg (by omega), if_neg (by omega), if_neg (by omega), if_neg (by omega), if_neg (by omega), if_neg (by omega), if_pos rfl, aD 35 i (by omega) (by omega), dm 35 i (by omega) (by omega)]
    have w39 : ∀ i, D9 39 i = D1 39 i + airS (lyF D1).2.1 i (lyF D1).2.1.length := fun i => by
      rw [v9, if_neg (by omega), if_neg (by omega), if_neg (by omega), if_pos rfl, aD 39 i (by omega) (by omega), dm 39 i (by omega) (by omega)]
    have w42 : ∀ i, i < (D1 32 15).toNat → D9 42 i = 0 := fun i hi => by
      rw [v9, if_neg (by omega), if_neg (by omega), if_neg (by omega), if_neg (by omega), if_neg (by omega), if_neg (by omega), if_neg (by omega), if_pos ⟨rfl, hi⟩]
    have w66 : ∀ k, k < (lyF D1).2.1.length → D9 66 k = (spK (lyF D1).2.1 k).1 ∧ D9 67 k = (spK (lyF D1).2.1 k).2.2.1 := fun k hk => by
      refine ⟨?_, ?_⟩
      · rw [v9, if_neg (by omega), if_pos ⟨rfl, hk⟩]
      · rw [v9, if_neg (by omega), if_neg (by omega), if_pos ⟨rfl, hk⟩]
    have wC : ∀ a i, a < 32 → D9 a i = zwr D5 3 6 0 a i := fun a i q => by rw [o a i (by omega) (by omega) (by omega) (by omega) (by omega) (by omega) (by omega), dml a i q]
    have wD : ∀ a i, a < 14 → ¬ (a = 3 ∧ i = 6) → D9 a i = D4 a i := fun a i q1 q2 => by rw [wC a i (by omega), zwr_e, if_neg q2, o9 a i (by omega) (by omega)]
    have wF : ∀ a i, 14 ≤ a → a < 32 → D9 a i = D5 a i := fun a i q1 q2 => by rw [wC a i q2, zwr_a (by omega)]
    have f7 := oD 32 7 (by omega) (by omega) (by omega) (by omega) (by omega) (by omega) (by omega) (by omega) (by omega)
    have f15 := oD 32 15 (by omega) (by omega) (by omega) (by omega) (by omega) (by omega) (by omega) (by omega) (by omega)
    have sD : ∀ a i, (33 ≤ a ∧ a ≤ 34) ∨ (36 ≤ a ∧ a ≤ 38) ∨ (a = 32 ∧ (i = 7 ∨ i = 16)) → D9 a i = S a i := fun a i q => by
      by_cases q2 : a = 32 ∧ i = 16
      · obtain ⟨rfl, rfl⟩ := q2
        rw [w16, s16]
      · rw [oD a i (by omega) (by omega) (by omega) (by omega) (by omega) (by omega) (by omega) (by omega) (by omega), sS a i (by omega)]
    have ecls : clsD D9 = clsD S := by
      have fl : ∀ i, zflag D9 i = zflag S i := fun i => by
        unfold zflag
        rw [sD 38 i (by omega), sD 36 i (by omega), sD 37 i (by omega), sD 32 16 (by omega)]
      have cf : ∀ n c, clsF D9 c n = clsF S c n := by
        intro n
        induction n with
        | zero => intro c; rfl
        | succ n ih =>
          intro c
          unfold clsF
          rw [fl, sD 33 c (by omega), sD 34 c (by omega), ih]
      unfold clsD
      rw [sD 32 7 (by omega), cf]
    have enu : nuC D9 (D9 32 16) 0 (D9 32 7).toNat = nuC S (D1 32 16 + 1) 0 (S 32 7).toNat := by
      rw [w16, sD 32 7 (by omega)]
      exact nuC_c (fun i => ⟨sD 38 i (by omega), sD 36 i (by omega), sD 37 i (by omega)⟩) _ _
    have b35 : ∀ i, -(12 * ((c : Int) + 1)) ≤ D9 35 i ∧ D9 35 i ≤ 99 + 99 * ((c : Int) + 1) := fun i => by
      have := (p1.1.2.2.2.2 i).1
      have := cntA_b (D := D1) (c := i) (D1 32 15).toNat
      rw [w35]
      omega
    have hsp : ∀ k, k < (lyF D1).2.1.length → -1 ≤ (spK (lyF D1).2.1 k).1 ∧ (spK (lyF D1).2.1 k).1 < D1 32 7 := fun k hk => by
      rcases l3 _ (spK_mem hk) with v | v <;> omega
    have row : ∀ e : Nat, e < 12 → ∀ i, D9 (45 + e) i = D1 (45 + e) i := fun e he i => oD _ _ (by omega) (by omega) (by omega) (by omega) (by omega) (by omega) (by omega) (by omega) (by omega)
    have o1 : ∀ a i, (a = 40 ∨ a = 41 ∨ a = 43 ∨ a = 57) → D9 a i = D1 a i := fun a i q => oD a i (by omega) (by omega) (by omega) (by omega) (by omega) (by omega) (by omega) (by omega) (by omega)
    have hcn9 : ∀ n, cn38 D9 n = cn38 D1 n := by
      intro n
      induction n with
      | zero => rfl
      | succ n ih =>
        unfold cn38
        rw [ih, sD 38 n (by omega), sS 38 n (by omega)]
    have f8 := oD 32 8 (by omega) (by omega) (by omega) (by omega) (by omega) (by omega) (by omega) (by omega) (by omega)
    refine Or.inl ⟨if_neg g, ((lyF D1).2.1.length : Int), h, _, _, D9, e71.2, ⟨by omega, by omega⟩, wC, ?_, by rw [w30, lyF_cc ce1], by rw [w30], by rw [w16, f16], w31, fun i => by rw [w39, d32 39 i (by omega), lyF_cc ce1]⟩
    obtain ⟨-, -, -, -, -, hz, ⟨hz2, hz3⟩, hz4⟩ := id p1
    obtain ⟨⟨P1, P2, P3, P4, P5⟩, ⟨-, -, V3⟩, ⟨dy, -⟩, -, -, -⟩ := p1
    refine ⟨⟨⟨⟨by rw [f7]; exact h7, by omega, fun i hi => ?_⟩, ⟨by rw [f15]; exact h15, fun e he => ?_, fun i => by have := b35 i; omega, by rw [ecls]; exact h8S⟩, ?_, by rw [f8]; exact P1.2.2.2.1, by omega, by omega⟩, fun e he => ?_, fun i => ?_, by rw [f8, f7, hcn9]; exact P4, fun i => ⟨by have := b35 i; omega, by rw [sD 38 i (by omega), sS 38 i (by omega)]; exact (P5 i).2⟩⟩, ⟨⟨by rw [f7]; exact l43, fun i hi => ?_⟩, ⟨by rw [f15]; exact l53, fun i j hi hj => ?_, fun e he => ?_⟩, fun e he => ?_⟩, ⟨⟨?_, fun i hi => ?_⟩, ⟨?_, Or.inr ⟨w31, (lyF D1).2.1, ⟨l1, l2, w30, w66, fun x hx => ?_⟩, ?_, ?_⟩⟩⟩, ⟨⟨⟨by rw [wF 14 3 (by omega) (by omega)]; exact fB.1, fun i hi => ?_⟩, ?_, by rw [wF 14 5 (by omega) (by omega)]; exact f5, fun w => ?_⟩, fun k hk => ?_, ?_⟩, Or.inl (by rw [wC 3 6 (by omega), zwr_s]), hz, ⟨by omega, by omega⟩, by omega⟩
    · rw [sD 33 i (by omega), sD 34 i (by omega), sD 36 i (by omega), sD 37 i (by omega), sD 38 i (by omega)]
      exact hCS.2.2 i (by rw [sS 32 7 (by omega), ← f7]; exact hi)
    · rw [f15] at he
      rw [o1 40 e (by omega), o1 41 e (by omega), w42 e (by omega), o1 43 e (by omega), f7]
      obtain ⟨u1, u2, u3⟩ := hO1.2.1.2.1 e he
      exact ⟨u1, by omega, u3⟩
    · unfold mLst
      have : D9 32 27 = D' 32 27 := by rw [v9, if_neg (by omega), if_neg (by omega), if_neg (by omega), if_neg (by omega), if_neg (by omega), if_neg (by omega), if_neg (by omega), if_neg (by omega)]
      rw [this]
      exact a3
    · rw [f15] at he
      have q := P2 e he
      rw [o1 57 e (by omega)]
      refine ⟨q.1, fun k hk => ?_⟩
      rw [row e (by omega), row e (by omega), row e (by omega)]
      exact q.2 k hk
    · rw [o1 43 i (by omega)]; exact P3 i
    · rw [f7] at hi
      have kc := (hC1.K hi).2.2
      have y6 := r99 i hi
      have y7 := r98 i hi
      rw [l42 i hi, cntG_A, cntG_A, o98 _ 6 (by omega)] at y6
      have y67 : X3 (lsE X1 4 i) 7 = X2 (lsE X1 4 i) 7 := o99 _ 7 (by omega) (by omega)
      have z0 : cntA D1 i 0 = 0 := rfl
      have z1 : airS (lyF D1).2.1 i 0 = 0 := rfl
      rw [E4 i hi, O3 _ 0 (by omega) (by omega), O3 _ 1 (by omega) (by omega), O3 _ 2 (by omega) (by omega), O3 _ 3 (by omega) (by omega), O3 _ 4 (by omega) (by omega), O3 _ 5 (by omega) (by omega), y6, y67, y7, w35, w39, sD 33 i (by omega), sD 34 i (by omega), sD 36 i (by omega), sD 37 i (by omega), sD 38 i (by omega), sS 33 i (by omega), sS 34 i (by omega), sS 36 i (by omega), sS 37 i (by omega), sS 38 i (by omega)]
      obtain ⟨u0, u1, u2, u3, u4, u5, u6, u7⟩ := hC1.2 i hi
      exact ⟨u0, u1, u2, u3, u4, u5, by omega, by omega⟩
    · rw [f15] at hi hj
      rw [E5 i hi, E5 j hj]
      exact hS1.2.1 i j hi hj
    · rw [f15] at he
      have ve := vE1 e he
      have ke := (hS1.K he).2.2
      have s4 := s99 e he
      rw [l52 e he, if_pos (by omega)] at s4
      rw [E5 e he, E4 _ (by rw [o1 40 e (by omega)]; omega), O3 _ 0 (by omega) (by omega), O3 _ 1 (by omega) (by omega), O3 _ 2 (by omega) (by omega), s4, o1 40 e (by omega), o1 41 e (by omega), o1 43 e (by omega), w42 e (by omega)]
      obtain ⟨u0, u1, u2, u4⟩ := hS1.2.2 e he
      exact ⟨u0, u1, u2, rfl⟩
    · rw [f15] at he
      have V := V3.x mx hS1
      have V := V e he
      rw [o1 57 e (by omega)]
      refine ⟨V.1, fun k hk => ?_⟩
      rw [row e (by omega), row e (by omega), row e (by omega)]
      exact V.2 k hk
    · rw [wD 3 5 (by omega) (by omega), s35b, w16]
    · rw [f7] at hi
      rw [w39, dy.2 i hi, airS_0 (fun k hk => (hsp k hk).2) hi _ (Nat.le_refl _)]
      rfl
    · rw [wD 3 7 (by omega) (by omega), w31, ← hD4, zwr_i (by omega), ← hD3, zwr_s]
    · rcases l3 x hx with v | v <;> omega
    · rw [wD 10 3 (by omega) (by omega), ← hD4, zwr_a (by omega)]; exact lgn
    · refine tRp_sh (a := 6) (D := D1) (fun k hk => ?_) la.2.1
      obtain ⟨v1, v2, v3, -⟩ := g3 k (by omega)
      obtain ⟨u1, u2, u3⟩ := lgc k hk
      have t1 : D9 11 k = D1 7 k := by rw [wD 11 k (by omega) (by omega), ← hD4, zwr_a (by omega), u1, v1]
      have t2 : D9 12 k = D1 8 k := by rw [wD 12 k (by omega) (by omega), ← hD4, zwr_a (by omega), u2, v2]
      have t3 : D9 13 k = D1 9 k := by rw [wD 13 k (by omega) (by omega), ← hD4, zwr_a (by omega), u3, v3]
      exact ⟨t1, t2, t3⟩
    · rw [wF 14 3 (by omega) (by omega)] at hi
      rw [wF 15 i (by omega) (by omega), wF 16 i (by omega) (by omega), wF 17 i (by omega) (by omega)]
      exact fB.2 i hi
    · rw [wF 14 3 (by omega) (by omega), psF_c (D := D5) (D' := D9) (fun i => ⟨wF 16 i (by omega) (by omega), wF 17 i (by omega) (by omega)⟩), fP, ecls]
    · rw [wF 14 5 (by omega) (by omega)] at w
      intro r s hr hs
      rw [wF _ _ (by omega) (by omega), wF 14 3 (by omega) (by omega), fT w r s hr hs, lnF_c2 _ _ (fun k _ _ => wF 16 k (by omega) (by omega))]
    · rw [wF 14 3 (by omega) (by omega)] at hk
      rw [wF 16 k (by omega) (by omega), wF 17 k (by omega) (by omega), wF 15 k (by omega) (by omega), sD 33 _ (by omega), sD 34 _ (by omega)]
      exact fN k hk
    · unfold fiP3
      rw [enu, wF 14 3 (by omega) (by omega)]
      refine ⟨n3, fun k hk => ?_⟩
      rw [wF 15 k (by omega) (by omega)]
      exact n15 k hk

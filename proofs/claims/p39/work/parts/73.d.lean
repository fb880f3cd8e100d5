/-! the end of a day: seconds aired, plays, overruns -/
set_option maxRecDepth 20000 in
theorem c98 {n : Int} {sp : zSp} {h : zH} {D : zD} (hn : 0 ≤ n ∧ n ≤ 12) (h3 : D 10 3 = sp.length) (hl : sp.length ≤ 116) (hc : ∀ k, k < sp.length → D 11 k = (spK sp k).1 ∧ D 12 k = (spK sp k).2.2.1 ∧ D 13 k = (spK sp k).2.2.2 ∧ (-1 ≤ (spK sp k).1 ∧ (spK sp k).1 < n) ∧ (0 ≤ (spK sp k).2.2.1 ∧ (spK sp k).2.2.1 < (spK sp k).2.2.2 ∧ (spK sp k).2.2.2 ≤ 3600)) :
    ∀ (m k : Nat) (X : zD) (x2 : Option Value), lsO h X 4 n 0 → (∀ i j : Nat, (i : Int) < n → (j : Int) < n → lsE X 4 i = lsE X 4 j → i = j) → k + m = sp.length →
    ∃ X', zx 98 2 [some (.ref 3), some (.int (Int32.ofInt (k : Int))), x2] [] (zV (zU h X) D) = some (.inl none, zV (zU h X') D) ∧ (∀ b j, ¬ (zk h b = 0 ∧ j = 7) → X' b j = X b j) ∧ ∀ i : Nat, (i : Int) < n → X' (lsE X 4 i) 7 = X (lsE X 4 i) 7 + (airS sp i sp.length - airS sp i k)
  | 0, k, X, x2, hL, hi, hk => by
    refine ⟨X, ?_, fun _ _ _ => rfl, fun i _ => by rw [show k = sp.length by omega]; omega⟩
    rw [z98_2]
    have : (k : Int) = sp.length := by omega
    clear hc hL hi
    simp (disch := first | omega | (simp (disch := omega) only [zwr_s, zwr_a, zwr_i, zn_put, zn_new, zn_fil, zn_chg, zV_n]; omega)) only [zentry, zs0, zs1, zs2, zs3, zg_lo, zg_st, zg_st2, zg_ald, zg_ast, zs_ia, zs_i0, zcs, zg_ii, zi_max, zi_min, zi_abi, zi_abf, zi_fb, zi_bf, lget, lst, lst2, lc2, Option.map_some, zso, if_true, if_false, zc1, and_true, true_and, and_self, List.length_nil, List.length_cons, Nat.zero_le, reduceIte, reduceCtorEq, false_and, and_false, Bool.false_eq_true, zca_some, zr0, zr100, Option.bind_some, zb_none, zb_some, zrc, or_true, true_or, eq_self, ne_eq, not_true_eq_false, not_false_eq_true, zrt_i, zrt_zb, zrt_b, zrt_c, zrt_l, zrt_f, zrt_r, zrt_n, zrt_v, zft_0, zft_1, zft_zb, zft_3, zft_4, zft_5, zft_7r, zft_7n, iI_t, zb_i, zb_0, zb_1, Nat.reduceAdd, Nat.reduceLeDiff, Nat.reduceEqDiff, Nat.reduceSub, Int.reduceNeg, iI_add, iI_sub, iI_mul, iI_neg, iI_n, zbz, zchar_id, zin, zwr_s, zwr_a, zwr_i, if_pos, if_neg, Int.toNat_natCast, Int.natCast_zero, Int.reduceToNat, z98, zc3, zc10, h3]
  | m + 1, k, X, x2, hL, hi, hk => by
    obtain ⟨v1, v2, v3, v4, v5⟩ := hc k (by omega)
    have n10 : 0 ≤ D 10 3 ∧ D 10 3 ≤ 116 := by omega
    have e34 := c34_10 (i := (k : Int)) (h := zU h X) (D := D) (by omega) n10
    have ek : ((k + 1 : Nat) : Int) = (k : Int) + 1 := by omega
    have as : ∀ i : Nat, airS sp i (k + 1) = airS sp i k + (if (spK sp k).1 = i then (spK sp k).2.2.2 - (spK sp k).2.2.1 else 0) := fun i => rfl
    rw [if_pos (by omega), Int.toNat_natCast, v1] at e34
    by_cases g : (spK sp k).1 = -1
    · obtain ⟨X', e, o, r⟩ := c98 hn h3 hl hc m (k + 1) X (some (.int (Int32.ofInt (spK sp k).1))) hL hi (by omega)
      refine ⟨X', ?_, o, fun i hi => ?_⟩
      · rw [← e]
        conv => lhs; rw [z98_2]
        clear hc hL hi e o r as v1 v2 v3
        generalize spK sp k = sx at *
        simp (disch := first | omega | (simp (disch := omega) only [zwr_s, zwr_a, zwr_i, zn_put, zn_new, zn_fil, zn_chg, zV_n]; omega)) only [zentry, zs0, zs1, zs2, zs3, zg_lo, zg_st, zg_st2, zg_ald, zg_ast, zs_ia, zs_i0, zcs, zg_ii, zi_max, zi_min, zi_abi, zi_abf, zi_fb, zi_bf, lget, lst, lst2, lc2, Option.map_some, zso, if_true, if_false, zc1, and_true, true_and, and_self, List.length_nil, List.length_cons, Nat.zero_le, reduceIte, reduceCtorEq, false_and, and_false, Bool.false_eq_true, zca_some, zr0, zr100, Option.bind_some, zb_none, zb_some, zrc, or_true, true_or, eq_self, ne_eq, not_true_eq_false, not_false_eq_true, zrt_i, zrt_zb, zrt_b, zrt_c, zrt_l, zrt_f, zrt_r, zrt_n, zrt_v, zft_0, zft_1, zft_zb, zft_3, zft_4, zft_5, zft_7r, zft_7n, iI_t, zb_i, zb_0, zb_1, Nat.reduceAdd, Nat.reduceLeDiff, Nat.reduceEqDiff, Nat.reduceSub, Int.reduceNeg, iI_add, iI_sub, iI_mul, iI_neg, iI_n, zbz, zchar_id, zin, zwr_s, zwr_a, zwr_i, if_pos, if_neg, Int.toNat_natCast, Int.natCast_zero, Int.reduceToNat, z98, zc3, zc10, h3, e34, ek, zt2]
      · rw [r i hi, as, if_neg (by omega)]
        omega
    · have e175 := c175 (h := h) (X := X) (D := D) (a := 4) (by omega) hL.1.1
      rw [hL.1.2.1] at e175
      have e171 := c171 (D := D) (i := (spK sp k).1) (Or.inl rfl) hL (by omega)
      obtain ⟨q1, q2, q3⟩ := hL.2.2 (spK sp k).1.toNat (by omega)
      have kq3 : zk h (lsE X 4 (spK sp k).1.toNat) = 0 := q3
      have q4 : 70 ≤ lsE X 4 (spK sp k).1.toNat := by unfold lsE; omega
      have ob : obX h X (zwr X (lsE X 4 (spK sp k).1.toNat) 7 (X (lsE X 4 (spK sp k).1.toNat) 7 + ((spK sp k).2.2.2 - (spK sp k).2.2.1))) := fun b j q => zwr_a (fun w => by rw [w, kq3] at q; omega)
      obtain ⟨l1, l2⟩ := lsO_b hL ob
      have e37 := fun Y => c37_10 (i := (k : Int)) (h := zU h Y) (D := D) (by omega) n10
      simp only [if_pos (show 0 ≤ (k : Int) ∧ (k : Int) < D 10 3 by omega), Int.toNat_natCast, v2, v3] at e37
      obtain ⟨X', e, o, r⟩ := c98 hn h3 hl hc m (k + 1) (zwr X (lsE X 4 (spK sp k).1.toNat) 7 (X (lsE X 4 (spK sp k).1.toNat) 7 + ((spK sp k).2.2.2 - (spK sp k).2.2.1))) (some (.int (Int32.ofInt (spK sp k).1))) l1 (fun i j h1 h2 w => hi i j h1 h2 (by rw [l2 i h1, l2 j h2] at w; exact w)) (by omega)
      refine ⟨X', ?_, fun b j w => ?_, fun i hi2 => ?_⟩
      · rw [← e]
        conv => lhs; rw [z98_2]
        have hk4 := hL.1.1
        clear hc hL hi e o r as v1 v2 v3 l1 l2 ob
        generalize lsE X 4 (spK sp k).1.toNat = a at *
        generalize spK sp k = sx at *
        simp (disch := first | omega | (simp (disch := omega) only [zwr_s, zwr_a, zwr_i, zn_put, zn_new, zn_fil, zn_chg, zV_n]; omega)) only [zentry, zs0, zs1, zs2, zs3, zg_lo, zg_st, zg_st2, zg_ald, zg_ast, zs_ia, zs_i0, zcs, zg_ii, zi_max, zi_min, zi_abi, zi_abf, zi_fb, zi_bf, lget, lst, lst2, lc2, Option.map_some, zso, if_true, if_false, zc1, and_true, true_and, and_self, List.length_nil, List.length_cons, Nat.zero_le, reduceIte, reduceCtorEq, false_and, and_false, Bool.false_eq_true, zca_some, zr0, zr100, Option.bind_some, zb_none, zb_some, zrc, or_true, true_or, eq_self, ne_eq, not_true_eq_false, not_false_eq_true, zrt_i, zrt_zb, zrt_b, zrt_c, zrt_l, zrt_f, zrt_r, zrt_n, zrt_v, zft_0, zft_1, zft_zb, zft_3, zft_4, zft_5, zft_7r, zft_7n, iI_t, zb_i, zb_0, zb_1, Nat.reduceAdd, Nat.reduceLeDiff, Nat.reduceEqDiff, Nat.reduceSub, Int.reduceNeg, iI_add, iI_sub, iI_mul, iI_neg, iI_n, zbz, zchar_id, zin, zwr_s, zwr_a, zwr_i, if_pos, if_neg, Int.toNat_natCast, Int.natCast_zero, Int.reduceToNat, z98, zc3, zc10, h3, e34, e37, e175, e171, ek, zl_add, zuL (a := 4) (Or.inl rfl) hk4, zuC q4 kq3, zt1, zt2]
      · rw [o b j w, zwr_e, if_neg (fun w2 => w ⟨by rw [w2.1]; exact kq3, w2.2⟩)]
      · have := r i hi2
        rw [l2 i hi2] at this
        rw [this, as]
        by_cases w : (spK sp k).1 = i
        · rw [if_pos w, show (spK sp k).1.toNat = i by omega, zwr_s]
          omega
        · have hne : lsE X 4 i ≠ lsE X 4 (spK sp k).1.toNat := fun w2 => by
            have := hi i _ hi2 (by omega) w2
            omega
          rw [if_neg w, zwr_a hne]
          omega
/-- plays that events take, of the first e -/
def cntG (S : zD) (ba : Nat → Int) (c : Nat) : Nat → Int
  | 0 => 0
  | e + 1 => cntG S ba c e + (if S 40 e = c ∧ ba e ≠ 1 then 1 else 0)
theorem cntG_A {D : zD} {c : Nat} : ∀ e, cntG D (lyF D).2.2.1 c e = cntA D c e
  | 0 => rfl
  | e + 1 => by
    unfold cntG cntA
    rw [cntG_A e]
set_option maxRecDepth 20000 in
theorem c99 {N n : Int} {S : zD} {ba : Nat → Int} {h : zH} {D : zD} (hN : 0 ≤ N ∧ N ≤ 12) (hv : ∀ e : Nat, (e : Int) < N → (0 ≤ S 40 e ∧ S 40 e < n) ∧ (ba e = 0 ∨ ba e = 1)) :
    ∀ (m e : Nat) (X : zD) (x2 : Option Value), lsO h X 5 N 1 → (∀ i j : Nat, (i : Int) < N → (j : Int) < N → lsE X 5 i = lsE X 5 j → i = j) → lsO h X 4 n 0 → (∀ i j : Nat, (i : Int) < n → (j : Int) < n → lsE X 4 i = lsE X 4 j → i = j) →
      (∀ e : Nat, (e : Int) < N → X (lsE X 5 e) 0 = (lsE X 4 (S 40 e).toNat : Nat) ∧ X (lsE X 5 e) 5 = ba e) → (e : Int) + m = N →
    ∃ X', zx 99 2 [some (.ref 3), some (.int (Int32.ofInt (e : Int))), x2] [] (zV (zU h X) D) = some (.inl none, zV (zU h X') D) ∧ (∀ b j, ¬ (zk h b = 0 ∧ j = 6) → ¬ (zk h b = 1 ∧ j = 4) → X' b j = X b j) ∧
      (∀ i : Nat, (i : Int) < n → X' (lsE X 4 i) 6 = X (lsE X 4 i) 6 - (cntG S ba i N.toNat - cntG S ba i e)) ∧ ∀ j : Nat, (j : Int) < N → X' (lsE X 5 j) 4 = if e ≤ j then 0 else X (lsE X 5 j) 4
  | 0, e, X, x2, h5, i5, h4, i4, hx, he => by
    refine ⟨X, ?_, fun _ _ _ _ => rfl, fun i _ => by rw [show e = N.toNat by omega]; omega, fun j hj => by rw [if_neg (by omega)]⟩
    have e175 := c175 (h := h) (X := X) (D := D) (a := 5) (by omega) h5.1.1
    rw [h5.1.2.1] at e175
    have hk5 := h5.1.1
    rw [z99_2]
    clear h5 i5 h4 i4 hx hv
    simp (disch := first | omega | (simp (disch := omega) only [zwr_s, zwr_a, zwr_i, zn_put, zn_new, zn_fil, zn_chg, zV_n]; omega)) only [zentry, zs0, zs1, zs2, zs3, zg_lo, zg_st, zg_st2, zg_ald, zg_ast, zs_ia, zs_i0, zcs, zg_ii, zi_max, zi_min, zi_abi, zi_abf, zi_fb, zi_bf, lget, lst, lst2, lc2, Option.map_some, zso, if_true, if_false, zc1, and_true, true_and, and_self, List.length_nil, List.length_cons, Nat.zero_le, reduceIte, reduceCtorEq, false_and, and_false, Bool.false_eq_true, zca_some, zr0, zr100, Option.bind_some, zb_none, zb_some, zrc, or_true, true_or, eq_self, ne_eq, not_true_eq_false, not_false_eq_true, zrt_i, zrt_zb, zrt_b, zrt_c, zrt_l, zrt_f, zrt_r, zrt_n, zrt_v, zft_0, zft_1, zft_zb, zft_3, zft_4, zft_5, zft_7r, zft_7n, iI_t, zb_i, zb_0, zb_1, Nat.reduceAdd, Nat.reduceLeDiff, Nat.reduceEqDiff, Nat.reduceSub, Int.reduceNeg, iI_add, iI_sub, iI_mul, iI_neg, iI_n, zbz, zchar_id, zin, zwr_s, zwr_a, zwr_i, if_pos, if_neg, Int.toNat_natCast, Int.natCast_zero, Int.reduceToNat, z99, zc3, zuL (a := 5) (Or.inr (Or.inl rfl)) hk5, e175, zt1]
  | m + 1, e, X, x2, h5, i5, h4, i4, hx, he => by
    obtain ⟨⟨v1, v2⟩, v3⟩ := hv e (by omega)
    obtain ⟨x0, x5⟩ := hx e (by omega)
    have e175 := c175 (h := h) (X := X) (D := D) (a := 5) (by omega) h5.1.1
    rw [h5.1.2.1] at e175
    have e171 := c171 (D := D) (i := (e : Int)) (Or.inr (Or.inl rfl)) h5 (by omega)
    rw [Int.toNat_natCast] at e171
    obtain ⟨q1, q2, q3⟩ := h5.2.2 e (by omega)
    have kq3 : zk h (lsE X 5 e) = 1 := q3
    have q4 : 70 ≤ lsE X 5 e := by unfold lsE; omega
    obtain ⟨p1, p2, p3⟩ := h4.2.2 (S 40 e).toNat (by omega)
    have kp3 : zk h (lsE X 4 (S 40 e).toNat) = 0 := p3
    have p4 : 70 ≤ lsE X 4 (S 40 e).toNat := by unfold lsE; omega
    have hne : lsE X 5 e ≠ lsE X 4 (S 40 e).toNat := fun w => by rw [w] at kq3; omega
    have ek : ((e + 1 : Nat) : Int) = (e : Int) + 1 := by omega
    have cg : ∀ i : Nat, cntG S ba i (e + 1) = cntG S ba i e + (if S 40 e = i ∧ ba e ≠ 1 then 1 else 0) := fun i => rfl
    -- the state behind the event
    have key : ∀ Y : zD, (∀ b j, ¬ (zk h b = 0 ∧ j = 6) → ¬ (zk h b = 1 ∧ j = 4) → Y b j = X b j) → (∀ i : Nat, (i : Int) < n → Y (lsE X 4 i) 6 = X (lsE X 4 i) 6 - (if S 40 e = i ∧ ba e ≠ 1 then 1 else 0)) → (∀ j : Nat, (j : Int) < N → Y (lsE X 5 j) 4 = if j = e then 0 else X (lsE X 5 j) 4) →
        zx 99 2 [some (.ref 3), some (.int (Int32.ofInt (e : Int))), x2] [] (zV (zU h X) D) = zx 99 2 [some (.ref 3), some (.int (Int32.ofInt ((e : Int) + 1))), some (.ref (lsE X 5 e))] [] (zV (zU h Y) D) →
        ∃ X', zx 99 2 [some (.ref 3), some (.int (Int32.ofInt (e : Int))), x2] [] (zV (zU h X) D) = some (.inl none, zV (zU h X') D) ∧ (∀ b j, ¬ (zk h b = 0 ∧ j = 6) → ¬ (zk h b = 1 ∧ j = 4) → X' b j = X b j) ∧
          (∀ i : Nat, (i : Int) < n → X' (lsE X 4 i) 6 = X (lsE X 4 i) 6 - (cntG S ba i N.toNat - cntG S ba i e)) ∧ ∀ j : Nat, (j : Int) < N → X' (lsE X 5 j) 4 = if e ≤ j then 0 else X (lsE X 5 j) 4 := by
      intro Y o y6 y4 run
      have ob : obX h X Y := fun b j q => o b j (by omega) (by omega)
      obtain ⟨l51, l52⟩ := lsO_b h5 ob
      obtain ⟨l41, l42⟩ := lsO_b h4 ob
      obtain ⟨X', e1, o1, r1, r2⟩ := c99 (D := D) hN hv m (e + 1) Y (some (.ref (lsE X 5 e))) l51 (fun i j h1 h2 w => i5 i j h1 h2 (by rw [l52 i h1, l52 j h2] at w; exact w)) l41 (fun i j h1 h2 w => i4 i j h1 h2 (by rw [l42 i h1, l42 j h2] at w; exact w)) (fun j hj => by
        have w := (hv j hj).1
        have kj : zk h (lsE X 5 j) = 1 := (h5.2.2 j hj).2.2
        rw [l52 j hj, l42 _ (by omega), o _ 0 (by omega) (by omega), o _ 5 (by omega) (by omega)]
        exact hx j hj) (by omega)
      refine ⟨X', by rw [run, ← ek]; exact e1, fun b j w1 w2 => (o1 b j w1 w2).trans (o b j w1 w2), fun i hi => ?_, fun j hj => ?_⟩
      · have := r1 i hi
        rw [l42 i hi, y6 i hi, cg] at this
        rw [this]
        omega
      · have := r2 j hj
        rw [l52 j hj, y4 j hj] at this
        rw [this]
        by_cases w1 : e + 1 ≤ j
        · rw [if_pos w1, if_pos (by omega)]
        · rw [if_neg w1]
          by_cases w2 : j = e
          · rw [if_pos w2, if_pos (by omega)]
          · rw [if_neg w2, if_neg (by omega)]
    by_cases g : ba e = 1
    · refine key (zwr X (lsE X 5 e) 4 0) (fun b j w1 w2 => ?_) (fun i hi => ?_) (fun j hj => ?_) ?_
      · rw [zwr_e, if_neg (fun w => w2 ⟨by rw [w.1]; exact kq3, w.2⟩)]
      · have ki : zk h (lsE X 4 i) = 0 := (h4.2.2 i hi).2.2
        rw [zwr_i (by omega), if_neg (fun w => w.2 g)]
        omega
      · by_cases w : j = e
        · rw [if_pos w, w, zwr_s]
        · rw [if_neg w, zwr_a (fun w2 => w (i5 j e hj (by omega) w2))]
      · conv => lhs; rw [z99_2]
        rw [g] at x5
        have hk5 := h5.1.1
        clear key h5 i5 h4 i4 hx hv cg
        generalize lsE X 4 (S 40 e).toNat = cc at *
        generalize lsE X 5 e = a at *
        simp (disch := first | omega | (simp (disch := omega) only [zwr_s, zwr_a, zwr_i, zn_put, zn_new, zn_fil, zn_chg, zV_n]; omega)) only [zentry, zs0, zs1, zs2, zs3, zg_lo, zg_st, zg_st2, zg_ald, zg_ast, zs_ia, zs_i0, zcs, zg_ii, zi_max, zi_min, zi_abi, zi_abf, zi_fb, zi_bf, lget, lst, lst2, lc2, Option.map_some, zso, if_true, if_false, zc1, and_true, true_and, and_self, List.length_nil, List.length_cons, Nat.zero_le, reduceIte, reduceCtorEq, false_and, and_false, Bool.false_eq_true, zca_some, zr0, zr100, Option.bind_some, zb_none, zb_some, zrc, or_true, true_or, eq_self, ne_eq, not_true_eq_false, not_false_eq_true, zrt_i, zrt_zb, zrt_b, zrt_c, zrt_l, zrt_f, zrt_r, zrt_n, zrt_v, zft_0, zft_1, zft_zb, zft_3, zft_4, zft_5, zft_7r, zft_7n, iI_t, zb_i, zb_0, zb_1, Nat.reduceAdd, Nat.reduceLeDiff, Nat.reduceEqDiff, Nat.reduceSub, Int.reduceNeg, iI_add, iI_sub, iI_mul, iI_neg, iI_n, zbz, zchar_id, zin, zwr_s, zwr_a, zwr_i, if_pos, if_neg, Int.toNat_natCast, Int.natCast_zero, Int.reduceToNat, z99, zc3, zuL (a := 5) (Or.inr (Or.inl rfl)) hk5, zuE q4 kq3, e175, e171, x5, zt1, zt2]
    · have g0 : ba e = 0 := by omega
      refine key (zwr (zwr X (lsE X 4 (S 40 e).toNat) 6 (X (lsE X 4 (S 40 e).toNat) 6 - 1)) (lsE X 5 e) 4 0) (fun b j w1 w2 => ?_) (fun i hi => ?_) (fun j hj => ?_) ?_
      · rw [zwr_e, if_neg (fun w => w2 ⟨by rw [w.1]; exact kq3, w.2⟩), zwr_e, if_neg (fun w => w1 ⟨by rw [w.1]; exact kp3, w.2⟩)]
      · have ki : zk h (lsE X 4 i) = 0 := (h4.2.2 i hi).2.2
        rw [zwr_i (by omega)]
        by_cases w : S 40 e = i
        · rw [if_pos ⟨w, g⟩, show (S 40 e).toNat = i by omega, zwr_s]
        · have hne2 : lsE X 4 i ≠ lsE X 4 (S 40 e).toNat := fun w2 => by
            have := i4 i _ hi (by omega) w2
            omega
          rw [if_neg (fun q => w q.1), zwr_a hne2]
          omega
      · have kj : zk h (lsE X 5 j) = 1 := (h5.2.2 j hj).2.2
        by_cases w : j = e
        · rw [if_pos w, w, zwr_s]
        · rw [if_neg w, zwr_a (fun w2 => w (i5 j e hj (by omega) w2)), zwr_i (by omega)]
      · conv => lhs; rw [z99_2]
        rw [g0] at x5
        have hk5 := h5.1.1
        clear key h5 i5 h4 i4 hx hv cg
        generalize lsE X 4 (S 40 e).toNat = cc at *
        generalize lsE X 5 e = a at *
        simp (disch := first | omega | (simp (disch := omega) only [zwr_s, zwr_a, zwr_i, zn_put, zn_new, zn_fil, zn_chg, zV_n]; omega)) only [zentry, zs0, zs1, zs2, zs3, zg_lo, zg_st, zg_st2, zg_ald, zg_ast, zs_ia, zs_i0, zcs, zg_ii, zi_max, zi_min, zi_abi, zi_abf, zi_fb, zi_bf, lget, lst, lst2, lc2, Option.map_some, zso, if_true, if_false, zc1, and_true, true_and, and_self, List.length_nil, List.length_cons, Nat.zero_le, reduceIte, reduceCtorEq, false_and, and_false, Bool.false_eq_true, zca_some, zr0, zr100, Option.bind_some, zb_none, zb_some, zrc, or_true, true_or, eq_self, ne_eq, not_true_eq_false, not_false_eq_true, zrt_i, zrt_zb, zrt_b, zrt_c, zrt_l, zrt_f, zrt_r, zrt_n, zrt_v, zft_0, zft_1, zft_zb, zft_3, zft_4, zft_5, zft_7r, zft_7n, iI_t, zb_i, zb_0, zb_1, Nat.reduceAdd, Nat.reduceLeDiff, Nat.reduceEqDiff, Nat.reduceSub, Int.reduceNeg, iI_add, iI_sub, iI_mul, iI_neg, iI_n, zbz, zchar_id, zin, zwr_s, zwr_a, zwr_i, if_pos, if_neg, Int.toNat_natCast, Int.natCast_zero, Int.reduceToNat, z99, zc3, zuL (a := 5) (Or.inr (Or.inl rfl)) hk5, zuE q4 kq3, zuC p4 kp3, e175, e171, x0, x5, zt1, zt2]
theorem tRp_sh {a b : Nat} {D D' : zD} : ∀ {sp : zSp}, (∀ k, k < sp.length → D' (b + 1) k = D (a + 1) k ∧ D' (b + 2) k = D (a + 2) k ∧ D' (b + 3) k = D (a + 3) k) → tRp a D sp → tRp b D' sp
  | [], _, _ => trivial
  | x :: r, h, ⟨⟨h1, h2, h3⟩, hr⟩ => by
    obtain ⟨g1, g2, g3⟩ := h r.length (Nat.lt_succ_self _)
    exact ⟨⟨by rw [g1, h1], by rw [g2, h2], by rw [g3, h3]⟩, tRp_sh (fun k hk => h k (Nat.lt_succ_of_lt hk)) hr⟩

/-! the reference tells how far two days are apart -/
theorem spK_n {t : Int} : ∀ {sp : zSp}, spC t sp → ∀ k, k + 1 < sp.length → (spK sp (k + 1)).2.2.1 = (spK sp k).2.2.2
  | sp, h => by
    induction sp generalizing t with
    | nil => intro k hk; exact absurd hk (Nat.not_lt_zero _)
    | cons x r ih =>
      obtain ⟨h1, h2, h3⟩ := h
      intro k hk
      rw [List.length_cons] at hk
      by_cases g : k + 1 < r.length
      · rw [spK_cons, if_pos g, spK_cons, if_pos (by omega)]
        exact ih h3 k g
      · have hr : r.length = k + 1 := by omega
        rw [spK_cons, if_neg g, if_pos (by omega), spK_cons, if_pos (by omega)]
        cases r with
        | nil => simp at hr
        | cons y r' =>
          obtain ⟨g1, -, -⟩ := h3
          rw [spK_cons, if_neg (by simp at hr; omega), if_pos (by simp at hr; omega)]
          exact g1.symm
theorem airIx_le {sp : zSp} {t s s' : Int} (h : spC t sp) (h0 : 0 ≤ s) (h1 : s ≤ s') (h2 : s' < t) : airIx s sp ≤ airIx s' sp := by
  obtain ⟨a1, a2, a3, a4⟩ := airIx_p h h0 (by omega)
  obtain ⟨b1, b2, b3, b4⟩ := airIx_p h (by omega) h2
  by_cases g : airIx s' sp < airIx s sp
  · have := a4 _ g
    omega
  · omega
/-- the log: the spans of the day that was aired -/
def mLg (D : zD) (lg : zSp) : Prop := spC 3600 lg ∧ lg.length ≤ 116 ∧ D 32 30 = lg.length ∧ (∀ k : Nat, k < lg.length → D 66 k = (spK lg k).1 ∧ D 67 k = (spK lg k).2.2.1) ∧ ∀ x ∈ lg, -1 ≤ x.1 ∧ x.1 < 12
def apS (sp lg : zSp) : Nat → Int
  | 0 => 0
  | s + 1 => apS sp lg s + (if (spK lg (airIx s lg)).1 = (spK sp (airIx s sp)).1 then 0 else 1)
theorem apS_b {sp lg : zSp} : ∀ s, 0 ≤ apS sp lg s ∧ apS sp lg s ≤ s
  | 0 => ⟨Int.le_refl _, Int.le_refl _⟩
  | s + 1 => by
    have := apS_b (sp := sp) (lg := lg) s
    unfold apS
    split <;> omega
def apE (lg : zSp) : Nat → Nat
  | 0 => 0
  | s + 1 => airIx s lg
set_option maxRecDepth 20000 in
theorem m162_i {a : Int} {s : Nat} {h : zH} {D : zD} {lg : zSp} (hL : mLg D lg) (hs : s < 3600) (ha : 0 ≤ a ∧ a ≤ 3600) : ∀ n e, e + n = airIx (s : Int) lg →
    zx 162 42 [some (.ref 32), some (.int (Int32.ofInt a)), some (.int (Int32.ofInt (e : Int))), some (.int (Int32.ofInt (s : Int)))] [] (zV h D) = zx 162 70 [some (.ref 32), some (.int (Int32.ofInt a)), some (.int (Int32.ofInt (airIx (s : Int) lg : Int))), some (.int (Int32.ofInt (s : Int)))] [] (zV h D) := by
  obtain ⟨l1, l2, l3, l4, l5⟩ := hL
  obtain ⟨a1, a2, a3, a4⟩ := airIx_p l1 (s := (s : Int)) (by omega) (by omega)
  intro n
  induction n with
  | zero =>
    intro e he
    have hx : airIx (s : Int) lg = e := by omega
    rw [hx] at a1 a2 a3 a4 ⊢
    conv => lhs; rw [z162_42]
    by_cases g : e + 1 < lg.length
    · have w := (l4 (e + 1) g).2
      have q := spK_n l1 e g
      rw [q] at w
      have b := spC_b l1 _ (spK_mem (sp := lg) (k := e) (by omega))
      have e9 : ((e : Int) + 1).toNat = e + 1 := by omega
      clear l1 l4 l5 a4 q
      generalize spK lg e = sx at *
      generalize lg.length = n at *
      simp (disch := first | omega | (simp (disch := omega) only [zwr_s, zwr_a, zwr_i]; omega)) only [zentry, zs0, zs1, zs2, zs3, zg_lo, zg_st, zg_st2, zg_ald, zg_ast, zs_ia, zs_i0, zcs, zg_ii, zi_max, zi_min, zi_abi, zi_abf, zi_fb, zi_bf, lget, lst, lst2, lc2, Option.map_some, zso, if_true, if_false, zc1, and_true, true_and, and_self, List.length_nil, List.length_cons, Nat.zero_le, reduceIte, reduceCtorEq, false_and, and_false, Bool.false_eq_true, zca_some, zr0, zr100, Option.bind_some, zb_none, zb_some, zrc, or_true, true_or, eq_self, ne_eq, not_true_eq_false, not_false_eq_true, zrt_i, zrt_zb, zrt_b, zrt_c, zrt_l, zrt_f, zrt_r, zrt_n, zrt_v, zft_0, zft_1, zft_zb, zft_3, zft_4, zft_5, zft_7r, zft_7n, iI_t, zb_i, zb_0, zb_1, Nat.reduceAdd, Nat.reduceLeDiff, Nat.reduceEqDiff, Nat.reduceSub, Int.reduceNeg, iI_add, iI_sub, iI_mul, iI_neg, iI_n, zbz, zchar_id, zin, zwr_s, zwr_a, zwr_i, if_pos, if_neg, Int.toNat_natCast, Int.natCast_zero, z162, l3, e9, w, zc32, zc67]
    · clear l1 l4 l5 a4
      generalize spK lg e = sx at *
      generalize lg.length = n at *
      simp (disch := first | omega | (simp (disch := omega) only [zwr_s, zwr_a, zwr_i]; omega)) only [zentry, zs0, zs1, zs2, zs3, zg_lo, zg_st, zg_st2, zg_ald, zg_ast, zs_ia, zs_i0, zcs, zg_ii, zi_max, zi_min, zi_abi, zi_abf, zi_fb, zi_bf, lget, lst, lst2, lc2, Option.map_some, zso, if_true, if_false, zc1, and_true, true_and, and_self, List.length_nil, List.length_cons, Nat.zero_le, reduceIte, reduceCtorEq, false_and, and_false, Bool.false_eq_true, zca_some, zr0, zr100, Option.bind_some, zb_none, zb_some, zrc, or_true, true_or, eq_self, ne_eq, not_true_eq_false, not_false_eq_true, zrt_i, zrt_zb, zrt_b, zrt_c, zrt_l, zrt_f, zrt_r, zrt_n, zrt_v, zft_0, zft_1, zft_zb, zft_3, zft_4, zft_5, zft_7r, zft_7n, iI_t, zb_i, zb_0, zb_1, Nat.reduceAdd, Nat.reduceLeDiff, Nat.reduceEqDiff, Nat.reduceSub, Int.reduceNeg, iI_add, iI_sub, iI_mul, iI_neg, iI_n, zbz, zchar_id, zin, zwr_s, zwr_a, zwr_i, if_pos, if_neg, Int.toNat_natCast, Int.natCast_zero, z162, l3, zc32, zc67]
  | succ n ih =>
    intro e he
    rw [← ih (e + 1) (by omega)]
    have w := (l4 (e + 1) (by omega)).2
    have q := spK_n l1 e (by omega)
    rw [q] at w
    have b := spC_b l1 _ (spK_mem (sp := lg) (k := e) (by omega))
    have c := a4 e (by omega)
    have e9 : ((e : Int) + 1).toNat = e + 1 := by omega
    conv => lhs; rw [z162_42]
    clear l1 l4 l5 a4 q ih
    generalize spK lg e = sx at *
    generalize lg.length = n at *
    simp (disch := first | omega | (simp (disch := omega) only [zwr_s, zwr_a, zwr_i]; omega)) only [zentry, zs0, zs1, zs2, zs3, zg_lo, zg_st, zg_st2, zg_ald, zg_ast, zs_ia, zs_i0, zcs, zg_ii, zi_max, zi_min, zi_abi, zi_abf, zi_fb, zi_bf, lget, lst, lst2, lc2, Option.map_some, zso, if_true, if_false, zc1, and_true, true_and, and_self, List.length_nil, List.length_cons, Nat.zero_le, reduceIte, reduceCtorEq, false_and, and_false, Bool.false_eq_true, zca_some, zr0, zr100, Option.bind_some, zb_none, zb_some, zrc, or_true, true_or, eq_self, ne_eq, not_true_eq_false, not_false_eq_true, zrt_i, zrt_zb, zrt_b, zrt_c, zrt_l, zrt_f, zrt_r, zrt_n, zrt_v, zft_0, zft_1, zft_zb, zft_3, zft_4, zft_5, zft_7r, zft_7n, iI_t, zb_i, zb_0, zb_1, Nat.reduceAdd, Nat.reduceLeDiff, Nat.reduceEqDiff, Nat.reduceSub, Int.reduceNeg, iI_add, iI_sub, iI_mul, iI_neg, iI_n, zbz, zchar_id, zin, zwr_s, zwr_a, zwr_i, if_pos, if_neg, Int.toNat_natCast, Int.natCast_zero, z162, l3, e9, w, zc32, zc67]
set_option maxRecDepth 20000 in
theorem m162 {h : zH} {D : zD} {lg : zSp} (hO : mOk D) (hL : D 32 31 = 1 → mLg D lg) : ∃ D', zc 162 4 [.ref 32] (zV h D) = some (.inl (some (.int (Int32.ofInt (if D 32 31 = 1 then apS (lyF D).2.1 lg 3600 else 0)))), zV h D') ∧ mAft D D' (if D 32 31 = 1 then 0 else 1) := by
  have h31 := hO.2.2.2.2.2
  by_cases g : D 32 31 = 1
  · rw [if_pos g, if_pos g]
    obtain ⟨D', e, f1, f2, f3, f4, f5, f6⟩ := m138_t (h := h) hO 0
    refine ⟨D', ?_, f2, f1, f3⟩
    have hL' : mLg D' lg := by
      obtain ⟨l1, l2, l3, l4, l5⟩ := hL g
      exact ⟨l1, l2, by rw [f2 32 30 (by omega) (by omega)]; exact l3, fun k hk => by rw [f2 66 k (by omega) (by omega), f2 67 k (by omega) (by omega)]; exact l4 k hk, l5⟩
    obtain ⟨c1, c2, c3, -⟩ := lyF_ok hO
    have h7 := hO.1.1
    have v : ∀ k, k < (lyF D).2.1.length → -1 ≤ (spK (lyF D).2.1 k).1 ∧ (spK (lyF D).2.1 k).1 < 12 := fun k hk => by
      have := c3 _ (spK_mem (sp := (lyF D).2.1) hk)
      omega
    clear hO hL f2 f3 f4 f6 c3
    generalize (lyF D).2.1 = sp at *
    have hloop := zloop (k := 162) (pc := 35) (fun i => [some (.ref 32), some (.int (Int32.ofInt (apS sp lg i))), some (.int (Int32.ofInt (apE lg i : Int))), some (.int (Int32.ofInt (i : Int)))]) (fun _ => zV h D') 3600 (fun s hs => by
      have ab := apS_b (sp := sp) (lg := lg) s
      have hle : apE lg s ≤ airIx (s : Int) lg := by
        cases s with
        | zero => exact Nat.zero_le _
        | succ s => exact airIx_le hL'.1 (by omega) (by omega) (by omega)
      have ei := m162_i (h := h) hL' hs (a := apS sp lg s) (by omega) (airIx (s : Int) lg - apE lg s) (apE lg s) (by omega)
      have e148 := m148 (h := h) c1 c2 f5 (s := (s : Int)) (by omega)
      obtain ⟨a1, -, -, -⟩ := airIx_p c1 (s := (s : Int)) (by omega) (by omega)
      obtain ⟨b1, -, -, -⟩ := airIx_p hL'.1 (s := (s : Int)) (by omega) (by omega)
      have w := (hL'.2.2.2.1 _ b1).1
      have v1 := v _ a1
      have v2 := hL'.2.2.2.2 _ (spK_mem (sp := lg) b1)
      have l2 := hL'.2.1
      have e35 : zx 162 35 [some (.ref 32), some (.int (Int32.ofInt (apS sp lg s))), some (.int (Int32.ofInt (apE lg s : Int))), some (.int (Int32.ofInt (s : Int)))] [] (zV h D') = zx 162 42 [some (.ref 32), some (.int (Int32.ofInt (apS sp lg s))), some (.int (Int32.ofInt (apE lg s : Int))), some (.int (Int32.ofInt (s : Int)))] [] (zV h D') := by
        conv => lhs; rw [z162_35]
        clear ei e148 w v1 v2 f5 hL' v c1 e
        generalize apS sp lg s = ap at *
        generalize apE lg s = ae at *
        simp (disch := first | omega | (simp (disch := omega) only [zwr_s, zwr_a, zwr_i]; omega)) only [zentry, zs0, zs1, zs2, zs3, zg_lo, zg_st, zg_st2, zg_ald, zg_ast, zs_ia, zs_i0, zcs, zg_ii, zi_max, zi_min, zi_abi, zi_abf, zi_fb, zi_bf, lget, lst, lst2, lc2, Option.map_some, zso, if_true, if_false, zc1, and_true, true_and, and_self, List.length_nil, List.length_cons, Nat.zero_le, reduceIte, reduceCtorEq, false_and, and_false, Bool.false_eq_true, zca_some, zr0, zr100, Option.bind_some, zb_none, zb_some, zrc, or_true, true_or, eq_self, ne_eq, not_true_eq_false, not_false_eq_true, zrt_i, zrt_zb, zrt_b, zrt_c, zrt_l, zrt_f, zrt_r, zrt_n, zrt_v, zft_0, zft_1, zft_zb, zft_3, zft_4, zft_5, zft_7r, zft_7n, iI_t, zb_i, zb_0, zb_1, Nat.reduceAdd, Nat.reduceLeDiff, Nat.reduceEqDiff, Nat.reduceSub, Int.reduceNeg, iI_add, iI_sub, iI_mul, iI_neg, iI_n, zbz, zchar_id, zin, zwr_s, zwr_a, zwr_i, if_pos, if_neg, Int.toNat_natCast, Int.natCast_zero, z162, zc32]
      refine (e35.trans ei).trans ?_
      rw [apS]
      show _ = zx 162 35 [some (.ref 32), some (.int (Int32.ofInt (apS sp lg s + (if (spK lg (airIx s lg)).1 = (spK sp (airIx s sp)).1 then 0 else 1)))), some (.int (Int32.ofInt (airIx (s : Int) lg : Int))), some (.int (Int32.ofInt ((s + 1 : Nat) : Int)))] [] (zV h D')
      clear e35 ei f5 hL' v c1 e hle
      generalize apS sp lg s = ap at *
      generalize (spK lg (airIx (s : Int) lg)).1 = x1 at *
      generalize (spK sp (airIx (s : Int) sp)).1 = x2 at *
      generalize airIx (s : Int) lg = ai at *
      by_cases q : x1 = x2
      · rw [if_pos q]
        simp (disch := first | omega | (simp (disch := omega) only [zwr_s, zwr_a, zwr_i]; omega)) only [zentry, zs0, zs1, zs2, zs3, zg_lo, zg_st, zg_st2, zg_ald, zg_ast, zs_ia, zs_i0, zcs, zg_ii, zi_max, zi_min, zi_abi, zi_abf, zi_fb, zi_bf, lget, lst, lst2, lc2, Option.map_some, zso, if_true, if_false, zc1, and_true, true_and, and_self, List.length_nil, List.length_cons, Nat.zero_le, reduceIte, reduceCtorEq, false_and, and_false, Bool.false_eq_true, zca_some, zr0, zr100, Option.bind_some, zb_none, zb_some, zrc, or_true, true_or, eq_self, ne_eq, not_true_eq_false, not_false_eq_true, zrt_i, zrt_zb, zrt_b, zrt_c, zrt_l, zrt_f, zrt_r, zrt_n, zrt_v, zft_0, zft_1, zft_zb, zft_3, zft_4, zft_5, zft_7r, zft_7n, iI_t, zb_i, zb_0, zb_1, Nat.reduceAdd, Nat.reduceLeDiff, Nat.reduceEqDiff, Nat.reduceSub, Int.reduceNeg, iI_add, iI_sub, iI_mul, iI_neg, iI_n, zbz, zchar_id, zin, zwr_s, zwr_a, zwr_i, if_pos, if_neg, Int.toNat_natCast, Int.natCast_zero, z162, zt2, e148, w, q, zc32, zc66, Int.add_zero]
      · rw [if_neg q]
        simp (disch := first | omega | (simp (disch := omega) only [zwr_s, zwr_a, zwr_i]; omega)) only [zentry, zs0, zs1, zs2, zs3, zg_lo, zg_st, zg_st2, zg_ald, zg_ast, zs_ia, zs_i0, zcs, zg_ii, zi_max, zi_min, zi_abi, zi_abf, zi_fb, zi_bf, lget, lst, lst2, lc2, Option.map_some, zso, if_true, if_false, zc1, and_true, true_and, and_self, List.length_nil, List.length_cons, Nat.zero_le, reduceIte, reduceCtorEq, false_and, and_false, Bool.false_eq_true, zca_some, zr0, zr100, Option.bind_some, zb_none, zb_some, zrc, or_true, true_or, eq_self, ne_eq, not_true_eq_false, not_false_eq_true, zrt_i, zrt_zb, zrt_b, zrt_c, zrt_l, zrt_f, zrt_r, zrt_n, zrt_v, zft_0, zft_1, zft_zb, zft_3, zft_4, zft_5, zft_7r, zft_7n, iI_t, zb_i, zb_0, zb_1, Nat.reduceAdd, Nat.reduceLeDiff, Nat.reduceEqDiff, Nat.reduceSub, Int.reduceNeg, iI_add, iI_sub, iI_mul, iI_neg, iI_n, zbz, zchar_id, zin, zwr_s, zwr_a, zwr_i, if_pos, if_neg, Int.toNat_natCast, Int.natCast_zero, z162, zt2, e148, w, zc32, zc66]) 3600 (Nat.le_refl _)
    have st : zc 162 4 [.ref 32] (zV h D) = zx 162 35 [some (.ref 32), some (.int (Int32.ofInt 0)), some (.int (Int32.ofInt ((0 : Nat) : Int))), some (.int (Int32.ofInt ((0 : Nat) : Int)))] [] (zV h D') := by
      rw [zc]
      clear f5 hL' v c1 hloop
      simp (disch := first | omega | (simp (disch := omega) only [zwr_s, zwr_a, zwr_i]; omega)) only [zentry, zs0, zs1, zs2, zs3, zg_lo, zg_st, zg_st2, zg_ald, zg_ast, zs_ia, zs_i0, zcs, zg_ii, zi_max, zi_min, zi_abi, zi_abf, zi_fb, zi_bf, lget, lst, lst2, lc2, Option.map_some, zso, if_true, if_false, zc1, and_true, true_and, and_self, List.length_nil, List.length_cons, Nat.zero_le, reduceIte, reduceCtorEq, false_and, and_false, Bool.false_eq_true, zca_some, zr0, zr100, Option.bind_some, zb_none, zb_some, zrc, or_true, true_or, eq_self, ne_eq, not_true_eq_false, not_false_eq_true, zrt_i, zrt_zb, zrt_b, zrt_c, zrt_l, zrt_f, zrt_r, zrt_n, zrt_v, zft_0, zft_1, zft_zb, zft_3, zft_4, zft_5, zft_7r, zft_7n, iI_t, zb_i, zb_0, zb_1, Nat.reduceAdd, Nat.reduceLeDiff, Nat.reduceEqDiff, Nat.reduceSub, Int.reduceNeg, iI_add, iI_sub, iI_mul, iI_neg, iI_n, zbz, zchar_id, zin, zwr_s, zwr_a, zwr_i, if_pos, if_neg, Int.toNat_natCast, Int.natCast_zero, z162, g, zt1, e, f1, zc32]
    have ab := apS_b (sp := sp) (lg := lg) 3600
    rw [st]
    refine Eq.trans hloop ?_
    rw [z162_35]
    clear f5 hL' v c1 hloop st e
    generalize apS sp lg 3600 = ap at *
    generalize apE lg 3600 = ae at *
    simp (disch := first | omega | (simp (disch := omega) only [zwr_s, zwr_a, zwr_i]; omega)) only [zentry, zs0, zs1, zs2, zs3, zg_lo, zg_st, zg_st2, zg_ald, zg_ast, zs_ia, zs_i0, zg_ii, zi_max, zi_min, zi_abi, zi_abf, zi_fb, zi_bf, lget, lst, lst2, lc2, Option.map_some, zso, if_true, if_false, zc1, and_true, true_and, and_self, List.length_nil, List.length_cons, Nat.zero_le, reduceIte, reduceCtorEq, false_and, and_false, Bool.false_eq_true, zca_some, zr0, zr100, Option.bind_some, zb_none, zb_some, zrc, or_true, true_or, eq_self, ne_eq, not_true_eq_false, not_false_eq_true, zrt_i, zrt_zb, zrt_b, zrt_c, zrt_l, zrt_f, zrt_r, zrt_n, zrt_v, zft_0, zft_1, zft_zb, zft_3, zft_4, zft_5, zft_7r, zft_7n, iI_t, zb_i, zb_0, zb_1, Nat.reduceAdd, Nat.reduceLeDiff, Nat.reduceEqDiff, Nat.reduceSub, Int.reduceNeg, iI_add, iI_sub, iI_mul, iI_neg, zbz, zchar_id, zin, zwr_s, zwr_a, zwr_i, if_pos, if_neg, Int.toNat_natCast, Int.natCast_zero, z162, zc32]
  · rw [if_neg g, if_neg g]
    have g0 : D 32 31 = 0 := by omega
    refine ⟨zwr D 32 32 1, ?_, zwr_32, by rw [zwr_s], zwr_32n hO.2.2.1⟩
    rw [zc]
    clear hO hL
    simp (disch := first | omega | (simp (disch := omega) only [zwr_s, zwr_a, zwr_i]; omega)) only [zentry, zs0, zs1, zs2, zs3, zg_lo, zg_st, zg_st2, zg_ald, zg_ast, zs_ia, zs_i0, zcs, zg_ii, zi_max, zi_min, zi_abi, zi_abf, zi_fb, zi_bf, lget, lst, lst2, lc2, Option.map_some, zso, if_true, if_false, zc1, and_true, true_and, and_self, List.length_nil, List.length_cons, Nat.zero_le, reduceIte, reduceCtorEq, false_and, and_false, Bool.false_eq_true, zca_some, zr0, zr100, Option.bind_some, zb_none, zb_some, zrc, or_true, true_or, eq_self, ne_eq, not_true_eq_false, not_false_eq_true, zrt_i, zrt_zb, zrt_b, zrt_c, zrt_l, zrt_f, zrt_r, zrt_n, zrt_v, zft_0, zft_1, zft_zb, zft_3, zft_4, zft_5, zft_7r, zft_7n, iI_t, zb_i, zb_0, zb_1, Nat.reduceAdd, Nat.reduceLeDiff, Nat.reduceEqDiff, Nat.reduceSub, Int.reduceNeg, iI_add, iI_sub, iI_mul, iI_neg, iI_n, zbz, zchar_id, zin, zwr_s, zwr_a, zwr_i, if_pos, if_neg, Int.toNat_natCast, Int.natCast_zero, z162, g0, zc32]

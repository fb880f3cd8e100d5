/-! the reference's answers about secondary events -/
def mHg (D : zD) : Prop := ∀ e : Nat, (e : Int) < D 32 15 → (0 ≤ D 57 e ∧ D 57 e ≤ 3) ∧ ∀ k : Nat, (k : Int) < D 57 e → (D (45 + e) (3 * k) = 0 ∨ D (45 + e) (3 * k) = 1) ∧ (0 ≤ D (45 + e) (3 * k + 1) ∧ D (45 + e) (3 * k + 1) ≤ 900) ∧ (1 ≤ D (45 + e) (3 * k + 2) ∧ D (45 + e) (3 * k + 2) ≤ 900)
def shB (D : zD) (e k : Nat) (st en : Int) : Int := if D (45 + e) (3 * k) = 0 then st + D (45 + e) (3 * k + 1) else en - D (45 + e) (3 * k + 1)
def shL (D : zD) (e k : Nat) (st en : Int) : Int := max st (shB D e k st en)
def shH (D : zD) (e k : Nat) (st en : Int) : Int := min en (shB D e k st en + D (45 + e) (3 * k + 2))
set_option maxRecDepth 20000 in
theorem m152 {e k : Nat} {st en pl b : Int} {h : zH} {D : zD} (he : e < 12) (hk : k < 3) (w : D 65 e = pl) (hp : 0 ≤ pl ∧ pl < 128) (r1 : D 59 pl.toNat = st) (r2 : D 60 pl.toNat = en) (hs : 0 ≤ st ∧ st ≤ 3600) (hn : 0 ≤ en ∧ en ≤ 3600)
    (g0 : D (45 + e) (3 * k) = 0 ∨ D (45 + e) (3 * k) = 1) (g1 : 0 ≤ D (45 + e) (3 * k + 1) ∧ D (45 + e) (3 * k + 1) ≤ 900) (g2 : 1 ≤ D (45 + e) (3 * k + 2) ∧ D (45 + e) (3 * k + 2) ≤ 900) (hb : b = 0 ∨ b = 1) :
    zc 152 7 [.ref 32, .int (Int32.ofInt (e : Int)), .int (Int32.ofInt (k : Int)), .int (Int32.ofInt b)] (zV h D) = some (.inl (some (.int (Int32.ofInt (if b = 1 then shH D e k st en else shL D e k st en)))), zV h D) := by
  have e0 : ((3 : Int) * (k : Int)).toNat = 3 * k := by omega
  have e1 : ((3 : Int) * (k : Int) + 1).toNat = 3 * k + 1 := by omega
  have e2 : ((3 : Int) * (k : Int) + 2).toNat = 3 * k + 2 := by omega
  rw [zc]
  unfold shH shL shB
  rcases hb with rfl | rfl
  · rw [if_neg (by omega)]
    rcases g0 with g0 | g0
    · rw [if_pos g0]
      simp (disch := first | omega | (simp (disch := omega) only [zwr_s, zwr_a, zwr_i]; omega)) only [zentry, zs0, zs1, zs2, zs3, zg_lo, zg_st, zg_st2, zg_ald, zg_ast, zs_ia, zs_i0, zcs, zg_ii, zi_max, zi_min, zi_abi, zi_abf, zi_fb, zi_bf, lget, lst, lst2, lc2, Option.map_some, zso, if_true, if_false, zc1, and_true, true_and, and_self, List.length_nil, List.length_cons, Nat.zero_le, reduceIte, reduceCtorEq, false_and, and_false, Bool.false_eq_true, zca_some, zr0, zr100, Option.bind_some, zb_none, zb_some, zrc, or_true, true_or, eq_self, ne_eq, not_true_eq_false, not_false_eq_true, zrt_i, zrt_zb, zrt_b, zrt_c, zrt_l, zrt_f, zrt_r, zrt_n, zrt_v, zft_0, zft_1, zft_zb, zft_3, zft_4, zft_5, zft_7r, zft_7n, iI_t, zb_i, zb_0, zb_1, Nat.reduceAdd, Nat.reduceLeDiff, Nat.reduceEqDiff, Nat.reduceSub, Int.reduceNeg, iI_add, iI_sub, iI_mul, iI_neg, iI_n, zbz, zchar_id, zin, zwr_s, zwr_a, zwr_i, if_pos, if_neg, Int.toNat_natCast, Int.natCast_zero, z152, w, r1, r2, e0, e1, e2, g0, zc32, zc65, zc59, zc60, zc44, zc44r, zcR_k, zcR_l, zcR_m]
    · rw [if_neg (by omega)]
      simp (disch := first | omega | (simp (disch := omega) only [zwr_s, zwr_a, zwr_i]; omega)) only [zentry, zs0, zs1, zs2, zs3, zg_lo, zg_st, zg_st2, zg_ald, zg_ast, zs_ia, zs_i0, zcs, zg_ii, zi_max, zi_min, zi_abi, zi_abf, zi_fb, zi_bf, lget, lst, lst2, lc2, Option.map_some, zso, if_true, if_false, zc1, and_true, true_and, and_self, List.length_nil, List.length_cons, Nat.zero_le, reduceIte, reduceCtorEq, false_and, and_false, Bool.false_eq_true, zca_some, zr0, zr100, Option.bind_some, zb_none, zb_some, zrc, or_true, true_or, eq_self, ne_eq, not_true_eq_false, not_false_eq_true, zrt_i, zrt_zb, zrt_b, zrt_c, zrt_l, zrt_f, zrt_r, zrt_n, zrt_v, zft_0, zft_1, zft_zb, zft_3, zft_4, zft_5, zft_7r, zft_7n, iI_t, zb_i, zb_0, zb_1, Nat.reduceAdd, Nat.reduceLeDiff, Nat.reduceEqDiff, Nat.reduceSub, Int.reduceNeg, iI_add, iI_sub, iI_mul, iI_neg, iI_n, zbz, zchar_id, zin, zwr_s, zwr_a, zwr_i, if_pos, if_neg, Int.toNat_natCast, Int.natCast_zero, z152, w, r1, r2, e0, e1, e2, g0, zc32, zc65, zc59, zc60, zc44, zc44r, zcR_k, zcR_l, zcR_m]
  · rw [if_pos rfl]
    rcases g0 with g0 | g0
    · rw [if_pos g0]
      simp (disch := first | omega | (simp (disch := omega) only [zwr_s, zwr_a, zwr_i]; omega)) only [zentry, zs0, zs1, zs2, zs3, zg_lo, zg_st, zg_st2, zg_ald, zg_ast, zs_ia, zs_i0, zcs, zg_ii, zi_max, zi_min, zi_abi, zi_abf, zi_fb, zi_bf, lget, lst, lst2, lc2, Option.map_some, zso, if_true, if_false, zc1, and_true, true_and, and_self, List.length_nil, List.length_cons, Nat.zero_le, reduceIte, reduceCtorEq, false_and, and_false, Bool.false_eq_true, zca_some, zr0, zr100, Option.bind_some, zb_none, zb_some, zrc, or_true, true_or, eq_self, ne_eq, not_true_eq_false, not_false_eq_true, zrt_i, zrt_zb, zrt_b, zrt_c, zrt_l, zrt_f, zrt_r, zrt_n, zrt_v, zft_0, zft_1, zft_zb, zft_3, zft_4, zft_5, zft_7r, zft_7n, iI_t, zb_i, zb_0, zb_1, Nat.reduceAdd, Nat.reduceLeDiff, Nat.reduceEqDiff, Nat.reduceSub, Int.reduceNeg, iI_add, iI_sub, iI_mul, iI_neg, iI_n, zbz, zchar_id, zin, zwr_s, zwr_a, zwr_i, if_pos, if_neg, Int.toNat_natCast, Int.natCast_zero, z152, w, r1, r2, e0, e1, e2, g0, zc32, zc65, zc59, zc60, zc44, zc44r, zcR_k, zcR_l, zcR_m]
    · rw [if_neg (by omega)]
      simp (disch := first | omega | (simp (disch := omega) only [zwr_s, zwr_a, zwr_i]; omega)) only [zentry, zs0, zs1, zs2, zs3, zg_lo, zg_st, zg_st2, zg_ald, zg_ast, zs_ia, zs_i0, zcs, zg_ii, zi_max, zi_min, zi_abi, zi_abf, zi_fb, zi_bf, lget, lst, lst2, lc2, Option.map_some, zso, if_true, if_false, zc1, and_true, true_and, and_self, List.length_nil, List.length_cons, Nat.zero_le, reduceIte, reduceCtorEq, false_and, and_false, Bool.false_eq_true, zca_some, zr0, zr100, Option.bind_some, zb_none, zb_some, zrc, or_true, true_or, eq_self, ne_eq, not_true_eq_false, not_false_eq_true, zrt_i, zrt_zb, zrt_b, zrt_c, zrt_l, zrt_f, zrt_r, zrt_n, zrt_v, zft_0, zft_1, zft_zb, zft_3, zft_4, zft_5, zft_7r, zft_7n, iI_t, zb_i, zb_0, zb_1, Nat.reduceAdd, Nat.reduceLeDiff, Nat.reduceEqDiff, Nat.reduceSub, Int.reduceNeg, iI_add, iI_sub, iI_mul, iI_neg, iI_n, zbz, zchar_id, zin, zwr_s, zwr_a, zwr_i, if_pos, if_neg, Int.toNat_natCast, Int.natCast_zero, z152, w, r1, r2, e0, e1, e2, g0, zc32, zc65, zc59, zc60, zc44, zc44r, zcR_k, zcR_l, zcR_m]
/-- whether a secondary event shows -/
noncomputable abbrev shC (D : zD) (s : Int) (e k : Nat) : Prop := (lyF D).2.2.1 e ≠ 1 ∧ plR e (lyF D).2.1 ≠ -1 ∧ shL D e k (rSt D e) (rEn D e) ≤ s ∧ s < shH D e k (rSt D e) (rEn D e)
noncomputable def shK (D : zD) (s : Int) (e : Nat) : Nat → Int
  | 0 => 0
  | k + 1 => shK D s e k + (if shC D s e k then 1 else 0)
noncomputable def shE (D : zD) (s : Int) : Nat → Int
  | 0 => 0
  | e + 1 => shE D s e + shK D s e (D 57 e).toNat
theorem shK_b {D : zD} {s : Int} {e : Nat} : ∀ k, 0 ≤ shK D s e k ∧ shK D s e k ≤ k
  | 0 => ⟨Int.le_refl _, Int.le_refl _⟩
  | k + 1 => by
    have := shK_b (D := D) (s := s) (e := e) k
    unfold shK
    split <;> omega
theorem shE_b {D : zD} {s : Int} (hH : mHg D) : ∀ e : Nat, (e : Int) ≤ D 32 15 → 0 ≤ shE D s e ∧ shE D s e ≤ 3 * e
  | 0, _ => ⟨Int.le_refl _, Int.le_refl _⟩
  | e + 1, he => by
    have := shE_b (s := s) hH e (by omega)
    have h1 := shK_b (D := D) (s := s) (e := e) (D 57 e).toNat
    have h2 := (hH e (by omega)).1
    unfold shE
    omega
theorem rSE_b {D : zD} (hO : mOk D) {p : Nat} (h : 0 ≤ plR p (lyF D).2.1) : 0 ≤ rSt D p ∧ rSt D p < rEn D p ∧ rEn D p ≤ 3600 := by
  have pb := plR_r (n := p) (sp := (lyF D).2.1)
  exact spC_b (lyF_ok hO).1 _ (spK_mem (by omega))
set_option maxRecDepth 20000 in
theorem m153_k {s : Int} {e : Nat} {nm : Int} {h : zH} {D D1 : zD} {x5 : Option Value} (hO : mOk D) (hH : mHg D) (he : (e : Int) < D 32 15) (hs : 0 ≤ s ∧ s < 3600) (hg : gEq D D1) (hr : mRp D1 (lyF D).2.1) (w1 : D1 62 e = (lyF D).2.2.1 e) (w2 : D1 65 e = plR e (lyF D).2.1) (hnm : 0 ≤ nm ∧ nm ≤ 100) : ∃ x5',
    zx 153 48 [some (.ref 32), some (.int (Int32.ofInt s)), some (.int (Int32.ofInt nm)), some (.int (Int32.ofInt (e : Int))), some (.int (Int32.ofInt 0)), x5] [] (zV h D1) = zx 153 128 [some (.ref 32), some (.int (Int32.ofInt s)), some (.int (Int32.ofInt (nm + shK D s e (D 57 e).toNat))), some (.int (Int32.ofInt (e : Int))), some (.int (Int32.ofInt (D 57 e))), x5'] [] (zV h D1) := by
  obtain ⟨c1, c2⟩ := hH e he
  have h15 := hO.2.1.1
  have o57 : D1 57 e = D 57 e := hg 57 e (by omega) (by omega)
  have oR : ∀ i, D1 (45 + e) i = D (45 + e) i := fun i => hg (45 + e) i (by omega) (by omega)
  obtain ⟨b1, -, -⟩ := (lyF_ok hO).2.2.2.2 e
  have pb := plR_r (n := e) (sp := (lyF D).2.1)
  have lb := (lyF_ok hO).2.1
  have key : ∀ n k (x5 : Option Value), k + n = (D 57 e).toNat → ∃ x5', zx 153 48 [some (.ref 32), some (.int (Int32.ofInt s)), some (.int (Int32.ofInt (nm + shK D s e k))), some (.int (Int32.ofInt (e : Int))), some (.int (Int32.ofInt (k : Int))), x5] [] (zV h D1) = zx 153 128 [some (.ref 32), some (.int (Int32.ofInt s)), some (.int (Int32.ofInt (nm + shK D s e (D 57 e).toNat))), some (.int (Int32.ofInt (e : Int))), some (.int (Int32.ofInt (D 57 e))), x5'] [] (zV h D1) := by
    intro n
    induction n with
    | zero =>
      intro k x5 hk
      refine ⟨x5, ?_⟩
      have hk' : (k : Int) = D 57 e := by omega
      rw [show (D 57 e).toNat = k by omega, z153_48]
      clear hr hg hO hH oR c2
      generalize shK D s e k = sk at *
      simp (disch := first | omega | (simp (disch := omega) only [zwr_s, zwr_a, zwr_i]; omega)) only [zentry, zs0, zs1, zs2, zs3, zg_lo, zg_st, zg_st2, zg_ald, zg_ast, zs_ia, zs_i0, zcs, zg_ii, zi_max, zi_min, zi_abi, zi_abf, zi_fb, zi_bf, lget, lst, lst2, lc2, Option.map_some, zso, if_true, if_false, zc1, and_true, true_and, and_self, List.length_nil, List.length_cons, Nat.zero_le, reduceIte, reduceCtorEq, false_and, and_false, Bool.false_eq_true, zca_some, zr0, zr100, Option.bind_some, zb_none, zb_some, zrc, or_true, true_or, eq_self, ne_eq, not_true_eq_false, not_false_eq_true, zrt_i, zrt_zb, zrt_b, zrt_c, zrt_l, zrt_f, zrt_r, zrt_n, zrt_v, zft_0, zft_1, zft_zb, zft_3, zft_4, zft_5, zft_7r, zft_7n, iI_t, zb_i, zb_0, zb_1, Nat.reduceAdd, Nat.reduceLeDiff, Nat.reduceEqDiff, Nat.reduceSub, Int.reduceNeg, iI_add, iI_sub, iI_mul, iI_neg, iI_n, zbz, zchar_id, zin, zwr_s, zwr_a, zwr_i, if_pos, if_neg, Int.toNat_natCast, Int.natCast_zero, z153, hk', o57, zc32, zc57]
    | succ n ih =>
      intro k x5 hk
      obtain ⟨g0, g1, g2⟩ := c2 k (by omega)
      have kb := shK_b (D := D) (s := s) (e := e) k
      by_cases q1 : (lyF D).2.2.1 e = 1
      · obtain ⟨x5', e5⟩ := ih (k + 1) (some (.int (Int32.ofInt 0))) (by omega)
        refine ⟨x5', ?_⟩
        rw [← e5, shK, if_neg (fun z => z.1 q1)]
        conv => lhs; rw [z153_48]
        clear ih e5 hr hg hO hH oR c2
        generalize shK D s e k = sk at *
        simp (disch := first | omega | (simp (disch := omega) only [zwr_s, zwr_a, zwr_i]; omega)) only [zentry, zs0, zs1, zs2, zs3, zg_lo, zg_st, zg_st2, zg_ald, zg_ast, zs_ia, zs_i0, zcs, zg_ii, zi_max, zi_min, zi_abi, zi_abf, zi_fb, zi_bf, lget, lst, lst2, lc2, Option.map_some, zso, if_true, if_false, zc1, and_true, true_and, and_self, List.length_nil, List.length_cons, Nat.zero_le, reduceIte, reduceCtorEq, false_and, and_false, Bool.false_eq_true, zca_some, zr0, zr100, Option.bind_some, zb_none, zb_some, zrc, or_true, true_or, eq_self, ne_eq, not_true_eq_false, not_false_eq_true, zrt_i, zrt_zb, zrt_b, zrt_c, zrt_l, zrt_f, zrt_r, zrt_n, zrt_v, zft_0, zft_1, zft_zb, zft_3, zft_4, zft_5, zft_7r, zft_7n, iI_t, zb_i, zb_0, zb_1, Nat.reduceAdd, Nat.reduceLeDiff, Nat.reduceEqDiff, Nat.reduceSub, Int.reduceNeg, iI_add, iI_sub, iI_mul, iI_neg, iI_n, zbz, zchar_id, zin, zwr_s, zwr_a, zwr_i, if_pos, if_neg, Int.toNat_natCast, Int.natCast_zero, z153, w1, w2, q1, o57, zc32, zc57, zc62, zc65, Int.add_zero]
      · by_cases q2 : plR e (lyF D).2.1 = -1
        · obtain ⟨x5', e5⟩ := ih (k + 1) (some (.int (Int32.ofInt 0))) (by omega)
          refine ⟨x5', ?_⟩
          rw [← e5, shK, if_neg (fun z => z.2.1 q2)]
          conv => lhs; rw [z153_48]
          clear ih e5 hr hg hO hH oR c2
          generalize shK D s e k = sk at *
          generalize (lyF D).2.2.1 e = ba at *
          simp (disch := first | omega | (simp (disch := omega) only [zwr_s, zwr_a, zwr_i]; omega)) only [zentry, zs0, zs1, zs2, zs3, zg_lo, zg_st, zg_st2, zg_ald, zg_ast, zs_ia, zs_i0, zcs, zg_ii, zi_max, zi_min, zi_abi, zi_abf, zi_fb, zi_bf, lget, lst, lst2, lc2, Option.map_some, zso, if_true, if_false, zc1, and_true, true_and, and_self, List.length_nil, List.length_cons, Nat.zero_le, reduceIte, reduceCtorEq, false_and, and_false, Bool.false_eq_true, zca_some, zr0, zr100, Option.bind_some, zb_none, zb_some, zrc, or_true, true_or, eq_self, ne_eq, not_true_eq_false, not_false_eq_true, zrt_i, zrt_zb, zrt_b, zrt_c, zrt_l, zrt_f, zrt_r, zrt_n, zrt_v, zft_0, zft_1, zft_zb, zft_3, zft_4, zft_5, zft_7r, zft_7n, iI_t, zb_i, zb_0, zb_1, Nat.reduceAdd, Nat.reduceLeDiff, Nat.reduceEqDiff, Nat.reduceSub, Int.reduceNeg, iI_add, iI_sub, iI_mul, iI_neg, iI_n, zbz, zchar_id, zin, zwr_s, zwr_a, zwr_i, if_pos, if_neg, Int.toNat_natCast, Int.natCast_zero, z153, w1, w2, q2, o57, zc32, zc57, zc62, zc65, Int.add_zero]
        · obtain ⟨s1, s2, s3⟩ := rSE_b hO (p := e) (by omega)
          have hK := mRp_K hr (plR e (lyF D).2.1).toNat (by omega)
          have e152 : ∀ b : Int, (b = 0 ∨ b = 1) → zc 152 7 [.ref 32, .int (Int32.ofInt (e : Int)), .int (Int32.ofInt (k : Int)), .int (Int32.ofInt b)] (zV h D1) = some (.inl (some (.int (Int32.ofInt (if b = 1 then shH D e k (rSt D e) (rEn D e) else shL D e k (rSt D e) (rEn D e))))), zV h D1) := by
            intro b hb
            have := m152 (h := h) (D := D1) (e := e) (k := k) (st := rSt D e) (en := rEn D e) (b := b) (by omega) (by omega) w2 (by omega) hK.2.2.1 hK.2.2.2 (by omega) (by omega) (by rw [oR]; exact g0) (by rw [oR]; exact g1) (by rw [oR]; exact g2) hb
            unfold shH shL shB at this ⊢
            rw [oR, oR, oR] at this
            exact this
          have eL := e152 0 (Or.inl rfl)
          have eH := e152 1 (Or.inr rfl)
          rw [if_neg (by omega)] at eL
          rw [if_pos rfl] at eH
          have bL : 0 ≤ shL D e k (rSt D e) (rEn D e) ∧ shL D e k (rSt D e) (rEn D e) ≤ 10000 := by unfold shL shB; split <;> omega
          have bH : -10000 ≤ shH D e k (rSt D e) (rEn D e) ∧ shH D e k (rSt D e) (rEn D e) ≤ 10000 := by unfold shH shB; split <;> omega
          by_cases q3 : shL D e k (rSt D e) (rEn D e) ≤ s ∧ s < shH D e k (rSt D e) (rEn D e)
          · obtain ⟨x5', e5⟩ := ih (k + 1) (some (.int (Int32.ofInt 1))) (by omega)
            refine ⟨x5', ?_⟩
            rw [← e5, shK, if_pos ⟨q1, q2, q3⟩]
            conv => lhs; rw [z153_48]
            clear ih e5 hr hg hO hH oR c2 e152 hK
            generalize shK D s e k = sk at *
            generalize (lyF D).2.2.1 e = ba at *
            generalize plR e (lyF D).2.1 = pl at *
            generalize shL D e k (rSt D e) (rEn D e) = lo at *
            generalize shH D e k (rSt D e) (rEn D e) = hi at *
            have ea : nm + (sk + 1) = nm + sk + 1 := by omega
            simp (disch := first | omega | (simp (disch := omega) only [zwr_s, zwr_a, zwr_i]; omega)) only [zentry, zs0, zs1, zs2, zs3, zg_lo, zg_st, zg_st2, zg_ald, zg_ast, zs_ia, zs_i0, zcs, zg_ii, zi_max, zi_min, zi_abi, zi_abf, zi_fb, zi_bf, lget, lst, lst2, lc2, Option.map_some, zso, if_true, if_false, zc1, and_true, true_and, and_self, List.length_nil, List.length_cons, Nat.zero_le, reduceIte, reduceCtorEq, false_and, and_false, Bool.false_eq_true, zca_some, zr0, zr100, Option.bind_some, zb_none, zb_some, zrc, or_true, true_or, eq_self, ne_eq, not_true_eq_false, not_false_eq_true, zrt_i, zrt_zb, zrt_b, zrt_c, zrt_l, zrt_f, zrt_r, zrt_n, zrt_v, zft_0, zft_1, zft_zb, zft_3, zft_4, zft_5, zft_7r, zft_7n, iI_t, zb_i, zb_0, zb_1, Nat.reduceAdd, Nat.reduceLeDiff, Nat.reduceEqDiff, Nat.reduceSub, Int.reduceNeg, iI_add, iI_sub, iI_mul, iI_neg, iI_n, zbz, zchar_id, zin, zwr_s, zwr_a, zwr_i, if_pos, if_neg, Int.toNat_natCast, Int.natCast_zero, z153, w1, w2, o57, zt4, eL, eH, ea, zc32, zc57, zc62, zc65]
          · obtain ⟨x5', e5⟩ := ih (k + 1) (some (.int (Int32.ofInt 0))) (by omega)
            refine ⟨x5', ?_⟩
            rw [← e5, shK, if_neg (fun z => q3 z.2.2)]
            conv => lhs; rw [z153_48]
            clear ih e5 hr hg hO hH oR c2 e152 hK
            generalize shK D s e k = sk at *
            generalize (lyF D).2.2.1 e = ba at *
            generalize plR e (lyF D).2.1 = pl at *
            generalize shL D e k (rSt D e) (rEn D e) = lo at *
            generalize shH D e k (rSt D e) (rEn D e) = hi at *
            by_cases q4 : lo ≤ s
            · simp (disch := first | omega | (simp (disch := omega) only [zwr_s, zwr_a, zwr_i]; omega)) only [zentry, zs0, zs1, zs2, zs3, zg_lo, zg_st, zg_st2, zg_ald, zg_ast, zs_ia, zs_i0, zcs, zg_ii, zi_max, zi_min, zi_abi, zi_abf, zi_fb, zi_bf, lget, lst, lst2, lc2, Option.map_some, zso, if_true, if_false, zc1, and_true, true_and, and_self, List.length_nil, List.length_cons, Nat.zero_le, reduceIte, reduceCtorEq, false_and, and_false, Bool.false_eq_true, zca_some, zr0, zr100, Option.bind_some, zb_none, zb_some, zrc, or_true, true_or, eq_self, ne_eq, not_true_eq_false, not_false_eq_true, zrt_i, zrt_zb, zrt_b, zrt_c, zrt_l, zrt_f, zrt_r, zrt_n, zrt_v, zft_0, zft_1, zft_zb, zft_3, zft_4, zft_5, zft_7r, zft_7n, iI_t, zb_i, zb_0, zb_1, Nat.reduceAdd, Nat.reduceLeDiff, Nat.reduceEqDiff, Nat.reduceSub, Int.reduceNeg, iI_add, iI_sub, iI_mul, iI_neg, iI_n, zbz, zchar_id, zin, zwr_s, zwr_a, zwr_i, if_pos, if_neg, Int.toNat_natCast, Int.natCast_zero, z153, w1, w2, o57, zt4, eL, eH, zc32, zc57, zc62, zc65, Int.add_zero]
            · simp (disch := first | omega | (simp (disch := omega) only [zwr_s, zwr_a, zwr_i]; omega)) only [zentry, zs0, zs1, zs2, zs3, zg_lo, zg_st, zg_st2, zg_ald, zg_ast, zs_ia, zs_i0, zcs, zg_ii, zi_max, zi_min, zi_abi, zi_abf, zi_fb, zi_bf, lget, lst, lst2, lc2, Option.map_some, zso, if_true, if_false, zc1, and_true, true_and, and_self, List.length_nil, List.length_cons, Nat.zero_le, reduceIte, reduceCtorEq, false_and, and_false, Bool.false_eq_true, zca_some, zr0, zr100, Option.bind_some, zb_none, zb_some, zrc, or_true, true_or, eq_self, ne_eq, not_true_eq_false, not_false_eq_true, zrt_i, zrt_zb, zrt_b, zrt_c, zrt_l, zrt_f, zrt_r, zrt_n, zrt_v, zft_0, zft_1, zft_zb, zft_3, zft_4, zft_5, zft_7r, zft_7n, iI_t, zb_i, zb_0, zb_1, Nat.reduceAdd, Nat.reduceLeDiff, Nat.reduceEqDiff, Nat.reduceSub, Int.reduceNeg, iI_add, iI_sub, iI_mul, iI_neg, iI_n, zbz, zchar_id, zin, zwr_s, zwr_a, zwr_i, if_pos, if_neg, Int.toNat_natCast, Int.natCast_zero, z153, w1, w2, o57, zt4, eL, eH, zc32, zc57, zc62, zc65, Int.add_zero]
  obtain ⟨x5', e5⟩ := key (D 57 e).toNat 0 x5 (by omega)
  refine ⟨x5', ?_⟩
  rw [shK, Int.add_zero] at e5
  exact e5
set_option maxRecDepth 20000 in
theorem m153 {s : Int} {h : zH} {D : zD} (hO : mOk D) (hH : mHg D) (hs : iR s) : ∃ D', zc 153 6 [.ref 32, .int (Int32.ofInt s)] (zV h D) = some (.inl (some (.int (Int32.ofInt (if qSec s = 0 then shE D s (D 32 15).toNat else 0)))), zV h D') ∧ mAft D D' (qSec s) := by
  by_cases g : 0 ≤ s ∧ s ≤ 3599
  · have hq : qSec s = 0 := if_pos g
    obtain ⟨D', e, f1, f2, f3, f4, f5, f6⟩ := m138_t (h := h) hO 0
    have h15 := hO.2.1.1
    have o15 : D' 32 15 = D 32 15 := f2 32 15 (by omega) (by omega)
    refine ⟨D', ?_, f2, by rw [hq]; exact f1, f3⟩
    rw [hq, if_pos rfl]
    have key : ∀ n ev (x4 x5 : Option Value), ev + n = (D 32 15).toNat → ∃ x4' x5', zx 153 37 [some (.ref 32), some (.int (Int32.ofInt s)), some (.int (Int32.ofInt (shE D s ev))), some (.int (Int32.ofInt (ev : Int))), x4, x5] [] (zV h D') = zx 153 134 [some (.ref 32), some (.int (Int32.ofInt s)), some (.int (Int32.ofInt (shE D s (D 32 15).toNat))), some (.int (Int32.ofInt (D 32 15))), x4', x5'] [] (zV h D') := by
      intro n
      induction n with
      | zero =>
        intro ev x4 x5 hev
        refine ⟨x4, x5, ?_⟩
        have hk' : (ev : Int) = D 32 15 := by omega
        rw [show (D 32 15).toNat = ev by omega, z153_37]
        clear f2 f3 f5 f6 hO hH e
        generalize shE D s ev = sk at *
        simp (disch := first | omega | (simp (disch := omega) only [zwr_s, zwr_a, zwr_i]; omega)) only [zentry, zs0, zs1, zs2, zs3, zg_lo, zg_st, zg_st2, zg_ald, zg_ast, zs_ia, zs_i0, zcs, zg_ii, zi_max, zi_min, zi_abi, zi_abf, zi_fb, zi_bf, lget, lst, lst2, lc2, Option.map_some, zso, if_true, if_false, zc1, and_true, true_and, and_self, List.length_nil, List.length_cons, Nat.zero_le, reduceIte, reduceCtorEq, false_and, and_false, Bool.false_eq_true, zca_some, zr0, zr100, Option.bind_some, zb_none, zb_some, zrc, or_true, true_or, eq_self, ne_eq, not_true_eq_false, not_false_eq_true, zrt_i, zrt_zb, zrt_b, zrt_c, zrt_l, zrt_f, zrt_r, zrt_n, zrt_v, zft_0, zft_1, zft_zb, zft_3, zft_4, zft_5, zft_7r, zft_7n, iI_t, zb_i, zb_0, zb_1, Nat.reduceAdd, Nat.reduceLeDiff, Nat.reduceEqDiff, Nat.reduceSub, Int.reduceNeg, iI_add, iI_sub, iI_mul, iI_neg, iI_n, zbz, zchar_id, zin, zwr_s, zwr_a, zwr_i, if_pos, if_neg, Int.toNat_natCast, Int.natCast_zero, z153, hk', o15, zc32]
      | succ n ih =>
        intro ev x4 x5 hev
        have eb := shE_b (s := s) hH ev (by omega)
        obtain ⟨w1, -, -, w4⟩ := f6 ev (by omega)
        obtain ⟨x5', ek⟩ := m153_k (h := h) (x5 := x5) hO hH (e := ev) (by omega) (s := s) (by omega) f2 f5 w1 w4 (nm := shE D s ev) (by omega)
        have kb := shK_b (D := D) (s := s) (e := ev) (D 57 ev).toNat
        have c1 := (hH ev (by omega)).1
        obtain ⟨x4'', x5'', ei⟩ := ih (ev + 1) (some (.int (Int32.ofInt (D 57 ev)))) x5' (by omega)
        refine ⟨x4'', x5'', ?_⟩
        rw [← ei, shE]
        conv => lhs; rw [z153_37]
        have e128 : zx 153 128 [some (.ref 32), some (.int (Int32.ofInt s)), some (.int (Int32.ofInt (shE D s ev + shK D s ev (D 57 ev).toNat))), some (.int (Int32.ofInt (ev : Int))), some (.int (Int32.ofInt (D 57 ev))), x5'] [] (zV h D') = zx 153 37 [some (.ref 32), some (.int (Int32.ofInt s)), some (.int (Int32.ofInt (shE D s ev + shK D s ev (D 57 ev).toNat))), some (.int (Int32.ofInt ((ev + 1 : Nat) : Int))), some (.int (Int32.ofInt (D 57 ev))), x5'] [] (zV h D') := by
          clear f2 f3 f5 f6 hO hH e ih ei ek
          generalize shE D s ev = sk at *
          generalize shK D s ev (D 57 ev).toNat = sl at *
          simp (disch := first | omega | (simp (disch := omega) only [zwr_s, zwr_a, zwr_i]; omega)) only [zentry, zs0, zs1, zs2, zs3, zg_lo, zg_st, zg_st2, zg_ald, zg_ast, zs_ia, zs_i0, zcs, zg_ii, zi_max, zi_min, zi_abi, zi_abf, zi_fb, zi_bf, lget, lst, lst2, lc2, Option.map_some, zso, if_true, if_false, zc1, and_true, true_and, and_self, List.length_nil, List.length_cons, Nat.zero_le, reduceIte, reduceCtorEq, false_and, and_false, Bool.false_eq_true, zca_some, zr0, zr100, Option.bind_some, zb_none, zb_some, zrc, or_true, true_or, eq_self, ne_eq, not_true_eq_false, not_false_eq_true, zrt_i, zrt_zb, zrt_b, zrt_c, zrt_l, zrt_f, zrt_r, zrt_n, zrt_v, zft_0, zft_1, zft_zb, zft_3, zft_4, zft_5, zft_7r, zft_7n, iI_t, zb_i, zb_0, zb_1, Nat.reduceAdd, Nat.reduceLeDiff, Nat.reduceEqDiff, Nat.reduceSub, Int.reduceNeg, iI_add, iI_sub, iI_mul, iI_neg, iI_n, zbz, zchar_id, zin, zwr_s, zwr_a, zwr_i, if_pos, if_neg, Int.toNat_natCast, Int.natCast_zero, z153]
        rw [← e128, ← ek]
        clear f2 f3 f5 f6 hO hH e ih ei ek e128
        generalize shE D s ev = sk at *
        simp (disch := first | omega | (simp (disch := omega) only [zwr_s, zwr_a, zwr_i]; omega)) only [zentry, zs0, zs1, zs2, zs3, zg_lo, zg_st, zg_st2, zg_ald, zg_ast, zs_ia, zs_i0, zcs, zg_ii, zi_max, zi_min, zi_abi, zi_abf, zi_fb, zi_bf, lget, lst, lst2, lc2, Option.map_some, zso, if_true, if_false, zc1, and_true, true_and, and_self, List.length_nil, List.length_cons, Nat.zero_le, reduceIte, reduceCtorEq, false_and, and_false, Bool.false_eq_true, zca_some, zr0, zr100, Option.bind_some, zb_none, zb_some, zrc, or_true, true_or, eq_self, ne_eq, not_true_eq_false, not_false_eq_true, zrt_i, zrt_zb, zrt_b, zrt_c, zrt_l, zrt_f, zrt_r, zrt_n, zrt_v, zft_0, zft_1, zft_zb, zft_3, zft_4, zft_5, zft_7r, zft_7n, iI_t, zb_i, zb_0, zb_1, Nat.reduceAdd, Nat.reduceLeDiff, Nat.reduceEqDiff, Nat.reduceSub, Int.reduceNeg, iI_add, iI_sub, iI_mul, iI_neg, iI_n, zbz, zchar_id, zin, zwr_s, zwr_a, zwr_i, if_pos, if_neg, Int.toNat_natCast, Int.natCast_zero, z153, o15, zc32]
    obtain ⟨x4', x5', ek⟩ := key (D 32 15).toNat 0 none none (by omega)
    have st : zc 153 6 [.ref 32, .int (Int32.ofInt s)] (zV h D) = zx 153 37 [some (.ref 32), some (.int (Int32.ofInt s)), some (.int (Int32.ofInt (shE D s 0))), some (.int (Int32.ofInt ((0 : Nat) : Int))), none, none] [] (zV h D') := by
      rw [zc, shE]
      clear f2 f3 f5 f6 hO hH key ek
      simp (disch := first | omega | (simp (disch := omega) only [zwr_s, zwr_a, zwr_i]; omega)) only [zentry, zs0, zs1, zs2, zs3, zg_lo, zg_st, zg_st2, zg_ald, zg_ast, zs_ia, zs_i0, zcs, zg_ii, zi_max, zi_min, zi_abi, zi_abf, zi_fb, zi_bf, lget, lst, lst2, lc2, Option.map_some, zso, if_true, if_false, zc1, and_true, true_and, and_self, List.length_nil, List.length_cons, Nat.zero_le, reduceIte, reduceCtorEq, false_and, and_false, Bool.false_eq_true, zca_some, zr0, zr100, Option.bind_some, zb_none, zb_some, zrc, or_true, true_or, eq_self, ne_eq, not_true_eq_false, not_false_eq_true, zrt_i, zrt_zb, zrt_b, zrt_c, zrt_l, zrt_f, zrt_r, zrt_n, zrt_v, zft_0, zft_1, zft_zb, zft_3, zft_4, zft_5, zft_7r, zft_7n, iI_t, zb_i, zb_0, zb_1, Nat.reduceAdd, Nat.reduceLeDiff, Nat.reduceEqDiff, Nat.reduceSub, Int.reduceNeg, iI_add, iI_sub, iI_mul, iI_neg, iI_n, zbz, zchar_id, zin, zwr_s, zwr_a, zwr_i, if_pos, if_neg, Int.toNat_natCast, Int.natCast_zero, z153, zt1, zt3, m105, e, f1, zc32, zb_t]
    have eb := shE_b (s := s) hH (D 32 15).toNat (by omega)
    rw [st, ek]
    clear f2 f3 f5 f6 hO hH key ek st e
    generalize shE D s (D 32 15).toNat = sk at *
    simp (disch := first | omega | (simp (disch := omega) only [zwr_s, zwr_a, zwr_i]; omega)) only [zentry, zs0, zs1, zs2, zs3, zg_lo, zg_st, zg_st2, zg_ald, zg_ast, zs_ia, zs_i0, zcs, zg_ii, zi_max, zi_min, zi_abi, zi_abf, zi_fb, zi_bf, lget, lst, lst2, lc2, Option.map_some, zso, if_true, if_false, zc1, and_true, true_and, and_self, List.length_nil, List.length_cons, Nat.zero_le, reduceIte, reduceCtorEq, false_and, and_false, Bool.false_eq_true, zca_some, zr0, zr100, Option.bind_some, zb_none, zb_some, zrc, or_true, true_or, eq_self, ne_eq, not_true_eq_false, not_false_eq_true, zrt_i, zrt_zb, zrt_b, zrt_c, zrt_l, zrt_f, zrt_r, zrt_n, zrt_v, zft_0, zft_1, zft_zb, zft_3, zft_4, zft_5, zft_7r, zft_7n, iI_t, zb_i, zb_0, zb_1, Nat.reduceAdd, Nat.reduceLeDiff, Nat.reduceEqDiff, Nat.reduceSub, Int.reduceNeg, iI_add, iI_sub, iI_mul, iI_neg, iI_n, zbz, zchar_id, zin, zwr_s, zwr_a, zwr_i, if_pos, if_neg, Int.toNat_natCast, Int.natCast_zero, z153]
  · have hq : qSec s = 1 := if_neg g
    refine ⟨zwr D 32 32 1, ?_, zwr_32, by rw [hq, zwr_s], zwr_32n hO.2.2.1⟩
    rw [hq, if_neg (by omega), zc]
    clear hO hq hH
    simp (disch := first | omega | (simp (disch := omega) only [zwr_s, zwr_a, zwr_i]; omega)) only [zentry, zs0, zs1, zs2, zs3, zg_lo, zg_st, zg_st2, zg_ald, zg_ast, zs_ia, zs_i0, zcs, zg_ii, zi_max, zi_min, zi_abi, zi_abf, zi_fb, zi_bf, lget, lst, lst2, lc2, Option.map_some, zso, if_true, if_false, zc1, and_true, true_and, and_self, List.length_nil, List.length_cons, Nat.zero_le, reduceIte, reduceCtorEq, false_and, and_false, Bool.false_eq_true, zca_some, zr0, zr100, Option.bind_some, zb_none, zb_some, zrc, or_true, true_or, eq_self, ne_eq, not_true_eq_false, not_false_eq_true, zrt_i, zrt_zb, zrt_b, zrt_c, zrt_l, zrt_f, zrt_r, zrt_n, zrt_v, zft_0, zft_1, zft_zb, zft_3, zft_4, zft_5, zft_7r, zft_7n, iI_t, zb_i, zb_0, zb_1, Nat.reduceAdd, Nat.reduceLeDiff, Nat.reduceEqDiff, Nat.reduceSub, Int.reduceNeg, iI_add, iI_sub, iI_mul, iI_neg, iI_n, zbz, zchar_id, zin, zwr_s, zwr_a, zwr_i, if_pos, if_neg, Int.toNat_natCast, Int.natCast_zero, z153, zt3, m105, zc32, zb_f]
/-- what secondaryStart throws -/
noncomputable def qSs (D : zD) (p i : Int) : Int := if (0 ≤ p ∧ p ≤ D 32 15 - 1) ∧ (0 ≤ i ∧ i ≤ D 57 p.toNat - 1) then (if qAi D p = 0 then (if shL D p.toNat i.toNat (rSt D p.toNat) (rEn D p.toNat) < shH D p.toNat i.toNat (rSt D p.toNat) (rEn D p.toNat) then 0 else 2) else 2) else 1
set_option maxRecDepth 20000 in
theorem m154 {p i : Int} {h : zH} {D : zD} (hO : mOk D) (hH : mHg D) (hp : iR p) (hi : iR i) : ∃ D', zc 154 4 [.ref 32, .int (Int32.ofInt p), .int (Int32.ofInt i)] (zV h D) = some (.inl (some (.int (Int32.ofInt (if qSs D p i = 0 then shL D p.toNat i.toNat (rSt D p.toNat) (rEn D p.toNat) else 0)))), zV h D') ∧ mAft D D' (qSs D p i) := by
  have h15 := hO.2.1.1
  have e114 := m114 (c := p) (h := h) (D := D) hp h15
  by_cases g1 : 0 ≤ p ∧ p ≤ D 32 15 - 1
  · obtain ⟨c1, c2⟩ := hH p.toNat (by omega)
    rw [zb_t g1] at e114
    by_cases g2 : 0 ≤ i ∧ i ≤ D 57 p.toNat - 1
    · have hO0 := zwr_32.ok (zwr_32n (τ := 0) hO.2.2.1) hO
      have hz := zwr_32 (D := D) (τ := 0)
      obtain ⟨D', e, f1, f2⟩ := m140 (h := h) hO0 hp
      have lyz := lyF_cc hz.ce
      have qz : qAi (zwr D 32 32 0) p = qAi D p := by unfold qAi; rw [lyz, zwr_i (by omega)]
      rw [qz] at e f1 f2
      by_cases g3 : qAi D p = 0
      · obtain ⟨-, g4⟩ := qAi_0 g3
        obtain ⟨k1, k2, k3⟩ := f2 (by omega)
        rw [lyz] at k2 k3
        have w := (k3 p.toNat (by rw [zwr_i (by omega)]; omega)).2
        have pb := plR_r (n := p.toNat) (sp := (lyF D).2.1)
        have lb := (lyF_ok hO).2.1
        obtain ⟨s1, s2, s3⟩ := rSE_b hO (p := p.toNat) g4
        have hK := mRp_K k2 (plR p.toNat (lyF D).2.1).toNat (by omega)
        obtain ⟨u0, u1, u2⟩ := c2 i.toNat (by omega)
        have oR : ∀ j, D' (45 + p.toNat) j = D (45 + p.toNat) j := fun j => by rw [f1.1 (45 + p.toNat) j (by omega) (by omega), zwr_a (by omega)]
        have e152 : ∀ b : Int, (b = 0 ∨ b = 1) → zc 152 7 [.ref 32, .int (Int32.ofInt p), .int (Int32.ofInt i), .int (Int32.ofInt b)] (zV h D') = some (.inl (some (.int (Int32.ofInt (if b = 1 then shH D p.toNat i.toNat (rSt D p.toNat) (rEn D p.toNat) else shL D p.toNat i.toNat (rSt D p.toNat) (rEn D p.toNat))))), zV h D') := by
          intro b hb
          have := m152 (h := h) (D := D') (e := p.toNat) (k := i.toNat) (st := rSt D p.toNat) (en := rEn D p.toNat) (b := b) (by omega) (by omega) w (by omega) hK.2.2.1 hK.2.2.2 (by omega) (by omega) (by rw [oR]; exact u0) (by rw [oR]; exact u1) (by rw [oR]; exact u2) hb
          rw [show ((p.toNat : Nat) : Int) = p by omega, show ((i.toNat : Nat) : Int) = i by omega] at this
          unfold shH shL shB at this ⊢
          rw [oR, oR, oR] at this
          exact this
        have eL := e152 0 (Or.inl rfl)
        have eH := e152 1 (Or.inr rfl)
        rw [if_neg (by omega)] at eL
        rw [if_pos rfl] at eH
        have bL : 0 ≤ shL D p.toNat i.toNat (rSt D p.toNat) (rEn D p.toNat) ∧ shL D p.toNat i.toNat (rSt D p.toNat) (rEn D p.toNat) ≤ 10000 := by unfold shL shB; split <;> omega
        have bH : -10000 ≤ shH D p.toNat i.toNat (rSt D p.toNat) (rEn D p.toNat) ∧ shH D p.toNat i.toNat (rSt D p.toNat) (rEn D p.toNat) ≤ 10000 := by unfold shH shB; split <;> omega
        have e104 := m104 (h := h) (D := D') (x := 2)
        rw [zb_t g3] at e
        have f9 := f1.1
        have t9 := f1.2.1
        rw [g3] at t9
        by_cases g5 : shL D p.toNat i.toNat (rSt D p.toNat) (rEn D p.toNat) < shH D p.toNat i.toNat (rSt D p.toNat) (rEn D p.toNat)
        · have hq : qSs D p i = 0 := by unfold qSs; rw [if_pos ⟨g1, g2⟩, if_pos g3, if_pos g5]
          refine ⟨D', ?_, hz.tr f9, by rw [hq]; exact t9, f1.2.2⟩
          rw [hq, if_pos rfl, zc]
          clear hO hH hO0 hz f1 f2 f9 k1 k2 k3 hK oR e152 c2 lyz qz hq
          generalize shL D p.toNat i.toNat (rSt D p.toNat) (rEn D p.toNat) = lo at *
          generalize shH D p.toNat i.toNat (rSt D p.toNat) (rEn D p.toNat) = hi at *
          simp (disch := first | omega | (simp (disch := omega) only [zwr_s, zwr_a, zwr_i]; omega)) only [zentry, zs0, zs1, zs2, zs3, zg_lo, zg_st, zg_st2, zg_ald, zg_ast, zs_ia, zs_i0, zcs, zg_ii, zi_max, zi_min, zi_abi, zi_abf, zi_fb, zi_bf, lget, lst, lst2, lc2, Option.map_some, zso, if_true, if_false, zc1, and_true, true_and, and_self, List.length_nil, List.length_cons, Nat.zero_le, reduceIte, reduceCtorEq, false_and, and_false, Bool.false_eq_true, zca_some, zr0, zr100, Option.bind_some, zb_none, zb_some, zrc, or_true, true_or, eq_self, ne_eq, not_true_eq_false, not_false_eq_true, zrt_i, zrt_zb, zrt_b, zrt_c, zrt_l, zrt_f, zrt_r, zrt_n, zrt_v, zft_0, zft_1, zft_zb, zft_3, zft_4, zft_5, zft_7r, zft_7n, iI_t, zb_i, zb_0, zb_1, Nat.reduceAdd, Nat.reduceLeDiff, Nat.reduceEqDiff, Nat.reduceSub, Int.reduceNeg, iI_add, iI_sub, iI_mul, iI_neg, iI_n, zbz, zchar_id, zin, zwr_s, zwr_a, zwr_i, if_pos, if_neg, Int.toNat_natCast, Int.natCast_zero, z154, zt2, zt3, zt4, m105, e114, e, eL, eH, zc32, zc57, zb_t]
        · have hq : qSs D p i = 2 := by unfold qSs; rw [if_pos ⟨g1, g2⟩, if_pos g3, if_neg g5]
          refine ⟨zwr D' 32 32 2, ?_, (hz.tr f9).tr zwr_32, by rw [hq, zwr_s], zwr_32n f1.2.2⟩
          rw [hq, if_neg (by omega), zc]
          clear hO hH hO0 hz f1 f2 f9 k1 k2 k3 hK oR e152 c2 lyz qz hq
          generalize shL D p.toNat i.toNat (rSt D p.toNat) (rEn D p.toNat) = lo at *
          generalize shH D p.toNat i.toNat (rSt D p.toNat) (rEn D p.toNat) = hi at *
          simp (disch := first | omega | (simp (disch := omega) only [zwr_s, zwr_a, zwr_i]; omega)) only [zentry, zs0, zs1, zs2, zs3, zg_lo, zg_st, zg_st2, zg_ald, zg_ast, zs_ia, zs_i0, zcs, zg_ii, zi_max, zi_min, zi_abi, zi_abf, zi_fb, zi_bf, lget, lst, lst2, lc2, Option.map_some, zso, if_true, if_false, zc1, and_true, true_and, and_self, List.length_nil, List.length_cons, Nat.zero_le, reduceIte, reduceCtorEq, false_and, and_false, Bool.false_eq_true, zca_some, zr0, zr100, Option.bind_some, zb_none, zb_some, zrc, or_true, true_or, eq_self, ne_eq, not_true_eq_false, not_false_eq_true, zrt_i, zrt_zb, zrt_b, zrt_c, zrt_l, zrt_f, zrt_r, zrt_n, zrt_v, zft_0, zft_1, zft_zb, zft_3, zft_4, zft_5, zft_7r, zft_7n, iI_t, zb_i, zb_0, zb_1, Nat.reduceAdd, Nat.reduceLeDiff, Nat.reduceEqDiff, Nat.reduceSub, Int.reduceNeg, iI_add, iI_sub, iI_mul, iI_neg, iI_n, zbz, zchar_id, zin, zwr_s, zwr_a, zwr_i, if_pos, if_neg, Int.toNat_natCast, Int.natCast_zero, z154, zt2, zt3, zt4, m105, e114, e, eL, eH, e104, zc32, zc57, zb_t]
      · have q2 : qAi D p = 2 := by
          unfold qAi at g3 ⊢
          rw [if_pos g1] at g3 ⊢
          split at g3
          · rename_i z
            rw [if_pos z]
          · omega
        have hq : qSs D p i = 2 := by unfold qSs; rw [if_pos ⟨g1, g2⟩, if_neg g3]
        rw [zb_f g3] at e
        have t9 := f1.2.1
        rw [q2] at t9
        refine ⟨D', ?_, hz.tr f1.1, by rw [hq]; exact t9, f1.2.2⟩
        rw [hq, if_neg (by omega), zc]
        clear hO hH hO0 hz f1 f2 c2 lyz qz hq q2 g3
        simp (disch := first | omega | (simp (disch := omega) only [zwr_s, zwr_a, zwr_i]; omega)) only [zentry, zs0, zs1, zs2, zs3, zg_lo, zg_st, zg_st2, zg_ald, zg_ast, zs_ia, zs_i0, zcs, zg_ii, zi_max, zi_min, zi_abi, zi_abf, zi_fb, zi_bf, lget, lst, lst2, lc2, Option.map_some, zso, if_true, if_false, zc1, and_true, true_and, and_self, List.length_nil, List.length_cons, Nat.zero_le, reduceIte, reduceCtorEq, false_and, and_false, Bool.false_eq_true, zca_some, zr0, zr100, Option.bind_some, zb_none, zb_some, zrc, or_true, true_or, eq_self, ne_eq, not_true_eq_false, not_false_eq_true, zrt_i, zrt_zb, zrt_b, zrt_c, zrt_l, zrt_f, zrt_r, zrt_n, zrt_v, zft_0, zft_1, zft_zb, zft_3, zft_4, zft_5, zft_7r, zft_7n, iI_t, zb_i, zb_0, zb_1, Nat.reduceAdd, Nat.reduceLeDiff, Nat.reduceEqDiff, Nat.reduceSub, Int.reduceNeg, iI_add, iI_sub, iI_mul, iI_neg, iI_n, zbz, zchar_id, zin, zwr_s, zwr_a, zwr_i, if_pos, if_neg, Int.toNat_natCast, Int.natCast_zero, z154, zt2, zt3, zt4, m105, e114, e, zc32, zc57, zb_t]
    · have hq : qSs D p i = 1 := by unfold qSs; rw [if_neg (fun z => g2 z.2)]
      refine ⟨zwr D 32 32 1, ?_, zwr_32, by rw [hq, zwr_s], zwr_32n hO.2.2.1⟩
      rw [hq, if_neg (by omega), zc]
      clear hO hH hq c2
      simp (disch := first | omega | (simp (disch := omega) only [zwr_s, zwr_a, zwr_i]; omega)) only [zentry, zs0, zs1, zs2, zs3, zg_lo, zg_st, zg_st2, zg_ald, zg_ast, zs_ia, zs_i0, zcs, zg_ii, zi_max, zi_min, zi_abi, zi_abf, zi_fb, zi_bf, lget, lst, lst2, lc2, Option.map_some, zso, if_true, if_false, zc1, and_true, true_and, and_self, List.length_nil, List.length_cons, Nat.zero_le, reduceIte, reduceCtorEq, false_and, and_false, Bool.false_eq_true, zca_some, zr0, zr100, Option.bind_some, zb_none, zb_some, zrc, or_true, true_or, eq_self, ne_eq, not_true_eq_false, not_false_eq_true, zrt_i, zrt_zb, zrt_b, zrt_c, zrt_l, zrt_f, zrt_r, zrt_n, zrt_v, zft_0, zft_1, zft_zb, zft_3, zft_4, zft_5, zft_7r, zft_7n, iI_t, zb_i, zb_0, zb_1, Nat.reduceAdd, Nat.reduceLeDiff, Nat.reduceEqDiff, Nat.reduceSub, Int.reduceNeg, iI_add, iI_sub, iI_mul, iI_neg, iI_n, zbz, zchar_id, zin, zwr_s, zwr_a, zwr_i, if_pos, if_neg, Int.toNat_natCast, Int.natCast_zero, z154, zt2, zt3, zt4, m105, e114, zc32, zc57, zb_f]
  · have hq : qSs D p i = 1 := by unfold qSs; rw [if_neg (fun z => g1 z.1)]
    rw [zb_f g1] at e114
    refine ⟨zwr D 32 32 1, ?_, zwr_32, by rw [hq, zwr_s], zwr_32n hO.2.2.1⟩
    rw [hq, if_neg (by omega), zc]
    clear hO hH hq
    simp (disch := first | omega | (simp (disch := omega) only [zwr_s, zwr_a, zwr_i]; omega)) only [zentry, zs0, zs1, zs2, zs3, zg_lo, zg_st, zg_st2, zg_ald, zg_ast, zs_ia, zs_i0, zcs, zg_ii, zi_max, zi_min, zi_abi, zi_abf, zi_fb, zi_bf, lget, lst, lst2, lc2, Option.map_some, zso, if_true, if_false, zc1, and_true, true_and, and_self, List.length_nil, List.length_cons, Nat.zero_le, reduceIte, reduceCtorEq, false_and, and_false, Bool.false_eq_true, zca_some, zr0, zr100, Option.bind_some, zb_none, zb_some, zrc, or_true, true_or, eq_self, ne_eq, not_true_eq_false, not_false_eq_true, zrt_i, zrt_zb, zrt_b, zrt_c, zrt_l, zrt_f, zrt_r, zrt_n, zrt_v, zft_0, zft_1, zft_zb, zft_3, zft_4, zft_5, zft_7r, zft_7n, iI_t, zb_i, zb_0, zb_1, Nat.reduceAdd, Nat.reduceLeDiff, Nat.reduceEqDiff, Nat.reduceSub, Int.reduceNeg, iI_add, iI_sub, iI_mul, iI_neg, iI_n, zbz, zchar_id, zin, zwr_s, zwr_a, zwr_i, if_pos, if_neg, Int.toNat_natCast, Int.natCast_zero, z154, zt2, zt3, zt4, m105, e114, zc32, zc57]

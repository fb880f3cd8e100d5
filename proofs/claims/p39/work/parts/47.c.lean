/-! the reference's answers about seconds and levels -/
/-- the index of the span of a second -/
def airIx (s : Int) : zSp → Nat
  | [] => 0
  | x :: r => if x.2.2.1 ≤ s then r.length else airIx s r
theorem airIx_p {s : Int} : ∀ {t : Int} {sp : zSp}, spC t sp → 0 ≤ s → s < t → airIx s sp < sp.length ∧ (spK sp (airIx s sp)).2.2.1 ≤ s ∧ s < (spK sp (airIx s sp)).2.2.2 ∧ ∀ k, k < airIx s sp → (spK sp k).2.2.2 ≤ s
  | t, [], h, h0, h1 => by
    have : t = 0 := h
    omega
  | t, x :: r, ⟨h1, h2, h3⟩, h0, hs => by
    unfold airIx
    by_cases g : x.2.2.1 ≤ s
    · rw [if_pos g]
      refine ⟨Nat.lt_succ_self _, ?_, ?_, fun k hk => ?_⟩
      · rw [spK_cons, if_neg (by omega), if_pos rfl]
        exact g
      · rw [spK_cons, if_neg (by omega), if_pos rfl]
        omega
      · rw [spK_cons, if_pos hk]
        have := spC_b h3 (spK r k) (by
          unfold spK
          rw [List.getD_eq_getElem?_getD, List.getElem?_eq_getElem (by rw [List.length_reverse]; exact hk)]
          exact List.mem_reverse.mp (List.getElem_mem _))
        omega
    · rw [if_neg g]
      obtain ⟨a1, a2, a3, a4⟩ := airIx_p h3 h0 (by omega)
      refine ⟨Nat.lt_succ_of_lt a1, ?_, ?_, fun k hk => ?_⟩
      · rw [spK_cons, if_pos a1]
        exact a2
      · rw [spK_cons, if_pos a1]
        exact a3
      · rw [spK_cons, if_pos (by omega)]
        exact a4 k hk
theorem spK_mem {sp : zSp} {k : Nat} (hk : k < sp.length) : spK sp k ∈ sp := by
  unfold spK
  rw [List.getD_eq_getElem?_getD, List.getElem?_eq_getElem (by rw [List.length_reverse]; exact hk)]
  exact List.mem_reverse.mp (List.getElem_mem _)
set_option maxRecDepth 20000 in
theorem m148 {s : Int} {h : zH} {D : zD} {sp : zSp} (hC : spC 3600 sp) (hl : sp.length ≤ 116) (hr : mRp D sp) (hs : 0 ≤ s ∧ s < 3600) : zc 148 3 [.ref 32, .int (Int32.ofInt s)] (zV h D) = some (.inl (some (.int (Int32.ofInt (spK sp (airIx s sp)).1))), zV h D) := by
  obtain ⟨a1, a2, a3, a4⟩ := airIx_p hC hs.1 hs.2
  have hloop := zloop (k := 148) (pc := 2) (fun i => [some (.ref 32), some (.int (Int32.ofInt s)), some (.int (Int32.ofInt (i : Int)))]) (fun _ => zV h D) (airIx s sp) (fun i hi => by
    have r := (mRp_K hr i (by omega)).2.2.2
    have b := a4 i hi
    have c := spC_b hC _ (spK_mem (sp := sp) (k := i) (by omega))
    conv => lhs; rw [z148_2]
    clear hr hC a4 a2 a3
    generalize spK sp i = sx at *
    simp (disch := first | omega | (simp (disch := omega) only [zwr_s, zwr_a, zwr_i]; omega)) only [zentry, zs0, zs1, zs2, zs3, zg_lo, zg_st, zg_st2, zg_ald, zg_ast, zs_ia, zs_i0, zcs, zg_ii, zi_max, zi_min, zi_abi, zi_abf, zi_fb, zi_bf, lget, lst, lst2, lc2, Option.map_some, zso, if_true, if_false, zc1, and_true, true_and, and_self, List.length_nil, List.length_cons, Nat.zero_le, reduceIte, reduceCtorEq, false_and, and_false, Bool.false_eq_true, zca_some, zr0, zr100, Option.bind_some, zb_none, zb_some, zrc, or_true, true_or, eq_self, ne_eq, not_true_eq_false, not_false_eq_true, zrt_i, zrt_zb, zrt_b, zrt_c, zrt_l, zrt_f, zrt_r, zrt_n, zrt_v, zft_0, zft_1, zft_zb, zft_3, zft_4, zft_5, zft_7r, zft_7n, iI_t, zb_i, zb_0, zb_1, Nat.reduceAdd, Nat.reduceLeDiff, Nat.reduceEqDiff, Nat.reduceSub, Int.reduceNeg, iI_add, iI_sub, iI_mul, iI_neg, iI_n, zbz, zchar_id, zin, zwr_s, zwr_a, zwr_i, if_pos, if_neg, Int.toNat_natCast, Int.natCast_zero, z148, r, zc32, zc60]) (airIx s sp) (Nat.le_refl _)
  obtain ⟨r1, -, -, r4⟩ := mRp_K hr (airIx s sp) a1
  have c := spC_b hC _ (spK_mem (sp := sp) a1)
  have st : zc 148 3 [.ref 32, .int (Int32.ofInt s)] (zV h D) = zx 148 2 [some (.ref 32), some (.int (Int32.ofInt s)), some (.int (Int32.ofInt ((0 : Nat) : Int)))] [] (zV h D) := by
    rw [zc]
    clear hr hC hloop a4
    simp (disch := first | omega | (simp (disch := omega) only [zwr_s, zwr_a, zwr_i]; omega)) only [zentry, zs0, zs1, zs2, zs3, zg_lo, zg_st, zg_st2, zg_ald, zg_ast, zs_ia, zs_i0, zcs, zg_ii, zi_max, zi_min, zi_abi, zi_abf, zi_fb, zi_bf, lget, lst, lst2, lc2, Option.map_some, zso, if_true, if_false, zc1, and_true, true_and, and_self, List.length_nil, List.length_cons, Nat.zero_le, reduceIte, reduceCtorEq, false_and, and_false, Bool.false_eq_true, zca_some, zr0, zr100, Option.bind_some, zb_none, zb_some, zrc, or_true, true_or, eq_self, ne_eq, not_true_eq_false, not_false_eq_true, zrt_i, zrt_zb, zrt_b, zrt_c, zrt_l, zrt_f, zrt_r, zrt_n, zrt_v, zft_0, zft_1, zft_zb, zft_3, zft_4, zft_5, zft_7r, zft_7n, iI_t, zb_i, zb_0, zb_1, Nat.reduceAdd, Nat.reduceLeDiff, Nat.reduceEqDiff, Nat.reduceSub, Int.reduceNeg, iI_add, iI_sub, iI_mul, iI_neg, iI_n, zbz, zchar_id, zin, zwr_s, zwr_a, zwr_i, if_pos, if_neg, Int.toNat_natCast, Int.natCast_zero, z148]
  rw [st]
  refine Eq.trans hloop ?_
  rw [z148_2]
  clear hr hC hloop a4 st
  generalize spK sp (airIx s sp) = sx at *
  generalize airIx s sp = ix at *
  simp (disch := first | omega | (simp (disch := omega) only [zwr_s, zwr_a, zwr_i]; omega)) only [zentry, zs0, zs1, zs2, zs3, zg_lo, zg_st, zg_st2, zg_ald, zg_ast, zs_ia, zs_i0, zcs, zg_ii, zi_max, zi_min, zi_abi, zi_abf, zi_fb, zi_bf, lget, lst, lst2, lc2, Option.map_some, zso, if_true, if_false, zc1, and_true, true_and, and_self, List.length_nil, List.length_cons, Nat.zero_le, reduceIte, reduceCtorEq, false_and, and_false, Bool.false_eq_true, zca_some, zr0, zr100, Option.bind_some, zb_none, zb_some, zrc, or_true, true_or, eq_self, ne_eq, not_true_eq_false, not_false_eq_true, zrt_i, zrt_zb, zrt_b, zrt_c, zrt_l, zrt_f, zrt_r, zrt_n, zrt_v, zft_0, zft_1, zft_zb, zft_3, zft_4, zft_5, zft_7r, zft_7n, iI_t, zb_i, zb_0, zb_1, Nat.reduceAdd, Nat.reduceLeDiff, Nat.reduceEqDiff, Nat.reduceSub, Int.reduceNeg, iI_add, iI_sub, iI_mul, iI_neg, iI_n, zbz, zchar_id, zin, zwr_s, zwr_a, zwr_i, if_pos, if_neg, Int.toNat_natCast, Int.natCast_zero, z148, r1, r4, zc32, zc58, zc60]
def qSec (s : Int) : Int := if 0 ≤ s ∧ s ≤ 3599 then 0 else 1
noncomputable def rAir (D : zD) (s : Int) : Int := (spK (lyF D).2.1 (airIx s (lyF D).2.1)).1
set_option maxRecDepth 20000 in
theorem m149 {s : Int} {h : zH} {D : zD} (hO : mOk D) (hs : iR s) : ∃ D', zc 149 2 [.ref 32, .int (Int32.ofInt s)] (zV h D) = some (.inl (some (.int (Int32.ofInt (if qSec s = 0 then rAir D s else 0)))), zV h D') ∧ mAft D D' (qSec s) := by
  by_cases g : 0 ≤ s ∧ s ≤ 3599
  · have hq : qSec s = 0 := if_pos g
    obtain ⟨D', e, f1, f2, f3, f4, f5, f6⟩ := m138_t (h := h) hO 0
    have e148 := m148 (h := h) (lyF_ok hO).1 (lyF_ok hO).2.1 f5 (s := s) (by omega)
    refine ⟨D', ?_, f2, by rw [hq]; exact f1, f3⟩
    rw [hq, if_pos rfl, zc]
    unfold rAir
    clear hO f1 f2 f3 f4 f5 f6 hq
    generalize (spK (lyF D).2.1 (airIx s (lyF D).2.1)).1 = r at *
    simp (disch := first | omega | (simp (disch := omega) only [zwr_s, zwr_a, zwr_i]; omega)) only [zentry, zs0, zs1, zs2, zs3, zg_lo, zg_st, zg_st2, zg_ald, zg_ast, zs_ia, zs_i0, zcs, zg_ii, zi_max, zi_min, zi_abi, zi_abf, zi_fb, zi_bf, lget, lst, lst2, lc2, Option.map_some, zso, if_true, if_false, zc1, and_true, true_and, and_self, List.length_nil, List.length_cons, Nat.zero_le, reduceIte, reduceCtorEq, false_and, and_false, Bool.false_eq_true, zca_some, zr0, zr100, Option.bind_some, zb_none, zb_some, zrc, or_true, true_or, eq_self, ne_eq, not_true_eq_false, not_false_eq_true, zrt_i, zrt_zb, zrt_b, zrt_c, zrt_l, zrt_f, zrt_r, zrt_n, zrt_v, zft_0, zft_1, zft_zb, zft_3, zft_4, zft_5, zft_7r, zft_7n, iI_t, zb_i, zb_0, zb_1, Nat.reduceAdd, Nat.reduceLeDiff, Nat.reduceEqDiff, Nat.reduceSub, Int.reduceNeg, iI_add, iI_sub, iI_mul, iI_neg, iI_n, zbz, zchar_id, zin, zwr_s, zwr_a, zwr_i, if_pos, if_neg, Int.toNat_natCast, Int.natCast_zero, z149, zt1, zt2, zt3, m105, e, e148, zc32, zb_t]
  · have hq : qSec s = 1 := if_neg g
    refine ⟨zwr D 32 32 1, ?_, zwr_32, by rw [hq, zwr_s], zwr_32n hO.2.2.1⟩
    rw [hq, if_neg (by omega), zc]
    clear hO hq
    simp (disch := first | omega | (simp (disch := omega) only [zwr_s, zwr_a, zwr_i]; omega)) only [zentry, zs0, zs1, zs2, zs3, zg_lo, zg_st, zg_st2, zg_ald, zg_ast, zs_ia, zs_i0, zcs, zg_ii, zi_max, zi_min, zi_abi, zi_abf, zi_fb, zi_bf, lget, lst, lst2, lc2, Option.map_some, zso, if_true, if_false, zc1, and_true, true_and, and_self, List.length_nil, List.length_cons, Nat.zero_le, reduceIte, reduceCtorEq, false_and, and_false, Bool.false_eq_true, zca_some, zr0, zr100, Option.bind_some, zb_none, zb_some, zrc, or_true, true_or, eq_self, ne_eq, not_true_eq_false, not_false_eq_true, zrt_i, zrt_zb, zrt_b, zrt_c, zrt_l, zrt_f, zrt_r, zrt_n, zrt_v, zft_0, zft_1, zft_zb, zft_3, zft_4, zft_5, zft_7r, zft_7n, iI_t, zb_i, zb_0, zb_1, Nat.reduceAdd, Nat.reduceLeDiff, Nat.reduceEqDiff, Nat.reduceSub, Int.reduceNeg, iI_add, iI_sub, iI_mul, iI_neg, iI_n, zbz, zchar_id, zin, zwr_s, zwr_a, zwr_i, if_pos, if_neg, Int.toNat_natCast, Int.natCast_zero, z149, zt3, m105, zc32, zb_f]
set_option maxRecDepth 20000 in
theorem m150 {s : Int} {h : zH} {D : zD} (hO : mOk D) (hs : iR s) : ∃ D', zc 150 2 [.ref 32, .int (Int32.ofInt s)] (zV h D) = some (.inl (some (.int (Int32.ofInt (if qSec s = 0 then rAir D s else 0)))), zV h D') ∧ mAft D D' (qSec s) := by
  obtain ⟨D', e, f⟩ := m149 (h := h) hO hs
  refine ⟨D', ?_, f⟩
  rw [zc]
  clear hO f
  generalize (if qSec s = 0 then rAir D s else 0) = r at *
  simp (disch := first | omega | (simp (disch := omega) only [zwr_s, zwr_a, zwr_i]; omega)) only [zentry, zs0, zs1, zs2, zs3, zg_lo, zg_st, zg_st2, zg_ald, zg_ast, zs_ia, zs_i0, zcs, zg_ii, zi_max, zi_min, zi_abi, zi_abf, zi_fb, zi_bf, lget, lst, lst2, lc2, Option.map_some, zso, if_true, if_false, zc1, and_true, true_and, and_self, List.length_nil, List.length_cons, Nat.zero_le, reduceIte, reduceCtorEq, false_and, and_false, Bool.false_eq_true, zca_some, zr0, zr100, Option.bind_some, zb_none, zb_some, zrc, or_true, true_or, eq_self, ne_eq, not_true_eq_false, not_false_eq_true, zrt_i, zrt_zb, zrt_b, zrt_c, zrt_l, zrt_f, zrt_r, zrt_n, zrt_v, zft_0, zft_1, zft_zb, zft_3, zft_4, zft_5, zft_7r, zft_7n, iI_t, zb_i, zb_0, zb_1, Nat.reduceAdd, Nat.reduceLeDiff, Nat.reduceEqDiff, Nat.reduceSub, Int.reduceNeg, iI_add, iI_sub, iI_mul, iI_neg, iI_n, zbz, zchar_id, zin, zwr_s, zwr_a, zwr_i, if_pos, if_neg, Int.toNat_natCast, Int.natCast_zero, z150, zt2, e, zc32]
/-- the seconds of slate in the first k spans -/
def slS (sp : zSp) : Nat → Int
  | 0 => 0
  | k + 1 => slS sp k + (if (spK sp k).1 = -1 then (spK sp k).2.2.2 - (spK sp k).2.2.1 else 0)
/-- the seconds of the first k spans -/
def lnS (sp : zSp) : Nat → Int
  | 0 => 0
  | k + 1 => lnS sp k + ((spK sp k).2.2.2 - (spK sp k).2.2.1)
theorem lnS_c {x : Int × Int × Int × Int} {r : zSp} : ∀ k, k ≤ r.length → lnS (x :: r) k = lnS r k
  | 0, _ => rfl
  | k + 1, h => by
    unfold lnS
    rw [lnS_c k (by omega), spK_cons, if_pos (by omega)]
theorem lnS_t : ∀ {t : Int} {sp : zSp}, spC t sp → lnS sp sp.length = t
  | t, [], h => by
    have : t = 0 := h
    exact this.symm
  | t, x :: r, ⟨h1, h2, h3⟩ => by
    rw [List.length_cons, lnS, lnS_c _ (Nat.le_refl _), lnS_t h3, spK_cons, if_neg (by omega), if_pos rfl]
    omega
theorem lnS_m {t : Int} {sp : zSp} (h : spC t sp) : ∀ n k, k + n = sp.length → 0 ≤ lnS sp k ∧ lnS sp k ≤ t
  | 0, k, hk => by
    have e := lnS_t h
    rw [show sp.length = k by omega] at e
    rw [e]
    exact ⟨spC_nn h, Int.le_refl _⟩
  | n + 1, k, hk => by
    have ih := lnS_m h n (k + 1) (by omega)
    have b := spC_b h _ (spK_mem (sp := sp) (k := k) (by omega))
    rw [lnS] at ih
    have h0 : ∀ j, j ≤ sp.length → 0 ≤ lnS sp j := by
      intro j
      induction j with
      | zero => intro _; exact Int.le_refl _
      | succ j ihj =>
        intro hj
        have := ihj (by omega)
        have b := spC_b h _ (spK_mem (sp := sp) (k := j) (by omega))
        rw [lnS]
        omega
    exact ⟨h0 k (by omega), by omega⟩
theorem slS_b {t : Int} {sp : zSp} (h : spC t sp) : ∀ k, k ≤ sp.length → 0 ≤ slS sp k ∧ slS sp k ≤ lnS sp k
  | 0, _ => ⟨Int.le_refl _, Int.le_refl _⟩
  | k + 1, hk => by
    have := slS_b h k (by omega)
    have b := spC_b h _ (spK_mem (sp := sp) (k := k) (by omega))
    unfold slS lnS
    split <;> omega
set_option maxRecDepth 20000 in
theorem m151 {h : zH} {D : zD} (hO : mOk D) : ∃ D', zc 151 3 [.ref 32] (zV h D) = some (.inl (some (.int (Int32.ofInt (slS (lyF D).2.1 (lyF D).2.1.length)))), zV h D') ∧ mAft D D' 0 := by
  obtain ⟨D', e, f1, f2, f3, f4, f5, f6⟩ := m138_t (h := h) hO 0
  obtain ⟨c1, c2, c3, -⟩ := lyF_ok hO
  have h7 := hO.1.1
  refine ⟨D', ?_, f2, f1, f3⟩
  clear hO f1 f2 f3 f6
  generalize (lyF D).2.1 = sp at *
  have hloop := zloop (k := 151) (pc := 13) (fun i => [some (.ref 32), some (.int (Int32.ofInt (slS sp i))), some (.int (Int32.ofInt (i : Int)))]) (fun _ => zV h D') sp.length (fun i hi => by
    obtain ⟨r1, -, r3, r4⟩ := mRp_K f5 i hi
    have b := spC_b c1 _ (spK_mem (sp := sp) hi)
    have v := c3 _ (spK_mem (sp := sp) hi)
    have s1 := slS_b c1 i (by omega)
    have s2 := lnS_m c1 (sp.length - i) i (by omega)
    conv => lhs; rw [z151_13]
    rw [slS]
    clear f5 c1 c3 e
    generalize spK sp i = sx at *
    generalize slS sp i = sl at *
    by_cases g : sx.1 = -1
    · rw [if_pos g]
      simp (disch := first | omega | (simp (disch := omega) only [zwr_s, zwr_a, zwr_i]; omega)) only [zentry, zs0, zs1, zs2, zs3, zg_lo, zg_st, zg_st2, zg_ald, zg_ast, zs_ia, zs_i0, zcs, zg_ii, zi_max, zi_min, zi_abi, zi_abf, zi_fb, zi_bf, lget, lst, lst2, lc2, Option.map_some, zso, if_true, if_false, zc1, and_true, true_and, and_self, List.length_nil, List.length_cons, Nat.zero_le, reduceIte, reduceCtorEq, false_and, and_false, Bool.false_eq_true, zca_some, zr0, zr100, Option.bind_some, zb_none, zb_some, zrc, or_true, true_or, eq_self, ne_eq, not_true_eq_false, not_false_eq_true, zrt_i, zrt_zb, zrt_b, zrt_c, zrt_l, zrt_f, zrt_r, zrt_n, zrt_v, zft_0, zft_1, zft_zb, zft_3, zft_4, zft_5, zft_7r, zft_7n, iI_t, zb_i, zb_0, zb_1, Nat.reduceAdd, Nat.reduceLeDiff, Nat.reduceEqDiff, Nat.reduceSub, Int.reduceNeg, iI_add, iI_sub, iI_mul, iI_neg, iI_n, zbz, zchar_id, zin, zwr_s, zwr_a, zwr_i, if_pos, if_neg, Int.toNat_natCast, Int.natCast_zero, z151, r1, r3, r4, f4, g, zc32, zc58, zc59, zc60]
    · rw [if_neg g]
      simp (disch := first | omega | (simp (disch := omega) only [zwr_s, zwr_a, zwr_i]; omega)) only [zentry, zs0, zs1, zs2, zs3, zg_lo, zg_st, zg_st2, zg_ald, zg_ast, zs_ia, zs_i0, zcs, zg_ii, zi_max, zi_min, zi_abi, zi_abf, zi_fb, zi_bf, lget, lst, lst2, lc2, Option.map_some, zso, if_true, if_false, zc1, and_true, true_and, and_self, List.length_nil, List.length_cons, Nat.zero_le, reduceIte, reduceCtorEq, false_and, and_false, Bool.false_eq_true, zca_some, zr0, zr100, Option.bind_some, zb_none, zb_some, zrc, or_true, true_or, eq_self, ne_eq, not_true_eq_false, not_false_eq_true, zrt_i, zrt_zb, zrt_b, zrt_c, zrt_l, zrt_f, zrt_r, zrt_n, zrt_v, zft_0, zft_1, zft_zb, zft_3, zft_4, zft_5, zft_7r, zft_7n, iI_t, zb_i, zb_0, zb_1, Nat.reduceAdd, Nat.reduceLeDiff, Nat.reduceEqDiff, Nat.reduceSub, Int.reduceNeg, iI_add, iI_sub, iI_mul, iI_neg, iI_n, zbz, zchar_id, zin, zwr_s, zwr_a, zwr_i, if_pos, if_neg, Int.toNat_natCast, Int.natCast_zero, z151, r1, r3, r4, f4, g, zc32, zc58, zc59, zc60]) sp.length (Nat.le_refl _)
  have st : zc 151 3 [.ref 32] (zV h D) = zx 151 13 [some (.ref 32), some (.int (Int32.ofInt 0)), some (.int (Int32.ofInt ((0 : Nat) : Int)))] [] (zV h D') := by
    rw [zc]
    clear hloop f5 c1 c3 f4
    simp (disch := first | omega | (simp (disch := omega) only [zwr_s, zwr_a, zwr_i]; omega)) only [zentry, zs0, zs1, zs2, zs3, zg_lo, zg_st, zg_st2, zg_ald, zg_ast, zs_ia, zs_i0, zcs, zg_ii, zi_max, zi_min, zi_abi, zi_abf, zi_fb, zi_bf, lget, lst, lst2, lc2, Option.map_some, zso, if_true, if_false, zc1, and_true, true_and, and_self, List.length_nil, List.length_cons, Nat.zero_le, reduceIte, reduceCtorEq, false_and, and_false, Bool.false_eq_true, zca_some, zr0, zr100, Option.bind_some, zb_none, zb_some, zrc, or_true, true_or, eq_self, ne_eq, not_true_eq_false, not_false_eq_true, zrt_i, zrt_zb, zrt_b, zrt_c, zrt_l, zrt_f, zrt_r, zrt_n, zrt_v, zft_0, zft_1, zft_zb, zft_3, zft_4, zft_5, zft_7r, zft_7n, iI_t, zb_i, zb_0, zb_1, Nat.reduceAdd, Nat.reduceLeDiff, Nat.reduceEqDiff, Nat.reduceSub, Int.reduceNeg, iI_add, iI_sub, iI_mul, iI_neg, iI_n, zbz, zchar_id, zin, zwr_s, zwr_a, zwr_i, if_pos, if_neg, Int.toNat_natCast, Int.natCast_zero, z151, zt1, e, zc32]
  rw [st]
  refine Eq.trans hloop ?_
  rw [z151_13]
  clear hloop f5 c1 c3 st e
  generalize slS sp sp.length = sl at *
  simp (disch := first | omega | (simp (disch := omega) only [zwr_s, zwr_a, zwr_i]; omega)) only [zentry, zs0, zs1, zs2, zs3, zg_lo, zg_st, zg_st2, zg_ald, zg_ast, zs_ia, zs_i0, zcs, zg_ii, zi_max, zi_min, zi_abi, zi_abf, zi_fb, zi_bf, lget, lst, lst2, lc2, Option.map_some, zso, if_true, if_false, zc1, and_true, true_and, and_self, List.length_nil, List.length_cons, Nat.zero_le, reduceIte, reduceCtorEq, false_and, and_false, Bool.false_eq_true, zca_some, zr0, zr100, Option.bind_some, zb_none, zb_some, zrc, or_true, true_or, eq_self, ne_eq, not_true_eq_false, not_false_eq_true, zrt_i, zrt_zb, zrt_b, zrt_c, zrt_l, zrt_f, zrt_r, zrt_n, zrt_v, zft_0, zft_1, zft_zb, zft_3, zft_4, zft_5, zft_7r, zft_7n, iI_t, zb_i, zb_0, zb_1, Nat.reduceAdd, Nat.reduceLeDiff, Nat.reduceEqDiff, Nat.reduceSub, Int.reduceNeg, iI_add, iI_sub, iI_mul, iI_neg, iI_n, zbz, zchar_id, zin, zwr_s, zwr_a, zwr_i, if_pos, if_neg, Int.toNat_natCast, Int.natCast_zero, z151, f4, zc32]
/-- the levels' sum of the first k spans, exactly and in float; the seconds that count -/
def mnZ (D : zD) (sp : zSp) : Nat → Int
  | 0 => 0
  | k + 1 => if (spK sp k).1 = -1 then mnZ D sp k else mnZ D sp k + D 34 (spK sp k).1.toNat * ((spK sp k).2.2.2 - (spK sp k).2.2.1)
def mnV (D : zD) (sp : zSp) : Nat → UInt32
  | 0 => FP.fconst0
  | k + 1 => if (spK sp k).1 = -1 then mnV D sp k else FP.fadd (mnV D sp k) (FP.i2f (Int32.ofInt (D 34 (spK sp k).1.toNat * ((spK sp k).2.2.2 - (spK sp k).2.2.1))))
def mnN (sp : zSp) : Nat → Int
  | 0 => 0
  | k + 1 => if (spK sp k).1 = -1 then mnN sp k else mnN sp k + ((spK sp k).2.2.2 - (spK sp k).2.2.1)
theorem mul_c {x y : Int} (hx : -60 ≤ x ∧ x ≤ 0) (hy : 0 ≤ y) : -60 * y ≤ x * y ∧ x * y ≤ 0 := by
  have h1 := Int.mul_le_mul_of_nonneg_right hx.1 hy
  have h2 := Int.mul_le_mul_of_nonneg_right hx.2 hy
  rw [Int.zero_mul] at h2
  exact ⟨h1, h2⟩
theorem mnV_p {D : zD} (hC : mCl D) {sp : zSp} (h : spC 3600 sp) (hv : spV D sp) : ∀ k, k ≤ sp.length → FP.Core.FInt (mnZ D sp k) (mnV D sp k) ∧ (-60 * lnS sp k ≤ mnZ D sp k ∧ mnZ D sp k ≤ 0) ∧ (0 ≤ mnN sp k ∧ mnN sp k ≤ lnS sp k)
  | 0, _ => ⟨fl_0, ⟨by simp [lnS, mnZ], Int.le_refl _⟩, Int.le_refl _, Int.le_refl _⟩
  | k + 1, hk => by
    obtain ⟨h1, h2, h3⟩ := mnV_p hC h hv k (by omega)
    have b := spC_b h _ (spK_mem (sp := sp) (k := k) (by omega))
    have v := hv _ (spK_mem (sp := sp) (k := k) (by omega))
    have s2 := lnS_m h (sp.length - (k + 1)) (k + 1) (by omega)
    rw [lnS] at s2
    unfold mnZ mnV mnN
    rw [lnS]
    by_cases g : (spK sp k).1 = -1
    · rw [if_pos g, if_pos g, if_pos g]
      exact ⟨h1, by omega, by omega⟩
    · rw [if_neg g, if_neg g, if_neg g]
      have hl := (hC.2.2 (spK sp k).1.toNat (by omega)).2.1
      have hm := mul_c (y := (spK sp k).2.2.2 - (spK sp k).2.2.1) hl (by omega)
      have hd : (spK sp k).2.2.2 - (spK sp k).2.2.1 ≤ 3600 := by omega
      generalize D 34 (spK sp k).1.toNat * ((spK sp k).2.2.2 - (spK sp k).2.2.1) = pr at *
      exact ⟨fl_add h1 (fl_i2f (by omega)) (by omega), by omega, by omega⟩

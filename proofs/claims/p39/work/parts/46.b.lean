/-! the reference lays out: the level now, a gap -/
/-- the level of the latest event that is laid out -/
def lyLev (D : zD) : zSp → Int
  | [] => -23
  | x :: r => if x.2.1 = -1 then lyLev D r else D 34 x.1.toNat
theorem lyLev_b {D : zD} (hD : mCl D) : ∀ {sp : zSp}, (∀ x ∈ sp, x.2.1 = -1 ∨ (0 ≤ x.1 ∧ x.1 < D 32 7)) → -60 ≤ lyLev D sp ∧ lyLev D sp ≤ 0
  | [], _ => by unfold lyLev; omega
  | x :: r, h => by
    unfold lyLev
    split
    · exact lyLev_b hD fun y hy => h y (List.mem_cons_of_mem _ hy)
    · rename_i g
      rcases h x List.mem_cons_self with h1 | h1
      · exact absurd h1 g
      · exact (hD.2.2 x.1.toNat (by omega)).2.1
set_option maxRecDepth 20000 in
theorem m134_l {h : zH} {D : zD} : ∀ (sp : zSp), sp.length ≤ 128 → mRp D sp → spB sp → (∀ x ∈ sp, x.2.1 = -1 ∨ 0 ≤ x.1) →
    zx 134 7 [some (.ref 32), some (.int (Int32.ofInt ((sp.length : Int) - 1)))] [] (zV h D) = some (.inl (some (.int (Int32.ofInt (lyLev D sp)))), zV h D)
  | [], _, _, _, _ => by
    have e : (([] : zSp).length : Int) - 1 = -1 := by simp
    rw [e, z134_7]
    unfold lyLev
    simp (disch := first | omega | (simp (disch := omega) only [zwr_s, zwr_a, zwr_i]; omega)) only [zentry, zs0, zs1, zs2, zs3, zg_lo, zg_st, zg_st2, zg_ald, zg_ast, zs_ia, zs_i0, zcs, zg_ii, zi_max, zi_min, zi_abi, zi_abf, zi_fb, zi_bf, lget, lst, lst2, lc2, Option.map_some, zso, if_true, if_false, zc1, and_true, true_and, and_self, List.length_nil, List.length_cons, Nat.zero_le, reduceIte, reduceCtorEq, false_and, and_false, Bool.false_eq_true, zca_some, zr0, zr100, Option.bind_some, zb_none, zb_some, zrc, or_true, true_or, eq_self, ne_eq, not_true_eq_false, not_false_eq_true, zrt_i, zrt_zb, zrt_b, zrt_c, zrt_l, zrt_f, zrt_r, zrt_n, zrt_v, zft_0, zft_1, zft_zb, zft_3, zft_4, zft_5, zft_7r, zft_7n, iI_t, zb_i, zb_0, zb_1, Nat.reduceAdd, Nat.reduceLeDiff, Nat.reduceEqDiff, Nat.reduceSub, Int.reduceNeg, iI_add, iI_sub, iI_mul, iI_neg, iI_n, zbz, zchar_id, zin, zwr_s, zwr_a, zwr_i, if_pos, if_neg, Int.toNat_natCast, Int.natCast_zero, z134]
  | x :: r, hl, hr, hb, hc => by
    obtain ⟨⟨r1, r2, r3, r4⟩, hr'⟩ := hr
    obtain ⟨b1, b2, b3, b4⟩ := hb x List.mem_cons_self
    have hc1 := hc x List.mem_cons_self
    rw [List.length_cons] at hl
    have ih := m134_l (h := h) r (by omega) hr' (fun y hy => hb y (List.mem_cons_of_mem _ hy)) (fun y hy => hc y (List.mem_cons_of_mem _ hy))
    have e : ((x :: r).length : Int) - 1 = r.length := by rw [List.length_cons]; omega
    have e2 : (r.length : Int) + -1 = r.length - 1 := by omega
    rw [e]
    conv => lhs; rw [z134_7]
    unfold lyLev
    generalize r.length = n at *
    clear hb hr' hc
    by_cases g : x.2.1 = -1
    · rw [if_pos g, ← ih]
      simp (disch := first | omega | (simp (disch := omega) only [zwr_s, zwr_a, zwr_i]; omega)) only [zentry, zs0, zs1, zs2, zs3, zg_lo, zg_st, zg_st2, zg_ald, zg_ast, zs_ia, zs_i0, zcs, zg_ii, zi_max, zi_min, zi_abi, zi_abf, zi_fb, zi_bf, lget, lst, lst2, lc2, Option.map_some, zso, if_true, if_false, zc1, and_true, true_and, and_self, List.length_nil, List.length_cons, Nat.zero_le, reduceIte, reduceCtorEq, false_and, and_false, Bool.false_eq_true, zca_some, zr0, zr100, Option.bind_some, zb_none, zb_some, zrc, or_true, true_or, eq_self, ne_eq, not_true_eq_false, not_false_eq_true, zrt_i, zrt_zb, zrt_b, zrt_c, zrt_l, zrt_f, zrt_r, zrt_n, zrt_v, zft_0, zft_1, zft_zb, zft_3, zft_4, zft_5, zft_7r, zft_7n, iI_t, zb_i, zb_0, zb_1, Nat.reduceAdd, Nat.reduceLeDiff, Nat.reduceEqDiff, Nat.reduceSub, Int.reduceNeg, iI_add, iI_sub, iI_mul, iI_neg, iI_n, zbz, zchar_id, zin, zwr_s, zwr_a, zwr_i, if_pos, if_neg, Int.toNat_natCast, Int.natCast_zero, z134, r1, r2, g, e2, zc32, zc58, zc61, zc34]
    · rw [if_neg g]
      have h0 : 0 ≤ x.1 := by omega
      simp (disch := first | omega | (simp (disch := omega) only [zwr_s, zwr_a, zwr_i]; omega)) only [zentry, zs0, zs1, zs2, zs3, zg_lo, zg_st, zg_st2, zg_ald, zg_ast, zs_ia, zs_i0, zcs, zg_ii, zi_max, zi_min, zi_abi, zi_abf, zi_fb, zi_bf, lget, lst, lst2, lc2, Option.map_some, zso, if_true, if_false, zc1, and_true, true_and, and_self, List.length_nil, List.length_cons, Nat.zero_le, reduceIte, reduceCtorEq, false_and, and_false, Bool.false_eq_true, zca_some, zr0, zr100, Option.bind_some, zb_none, zb_some, zrc, or_true, true_or, eq_self, ne_eq, not_true_eq_false, not_false_eq_true, zrt_i, zrt_zb, zrt_b, zrt_c, zrt_l, zrt_f, zrt_r, zrt_n, zrt_v, zft_0, zft_1, zft_zb, zft_3, zft_4, zft_5, zft_7r, zft_7n, iI_t, zb_i, zb_0, zb_1, Nat.reduceAdd, Nat.reduceLeDiff, Nat.reduceEqDiff, Nat.reduceSub, Int.reduceNeg, iI_add, iI_sub, iI_mul, iI_neg, iI_n, zbz, zchar_id, zin, zwr_s, zwr_a, zwr_i, if_pos, if_neg, Int.toNat_natCast, Int.natCast_zero, z134, r1, r2, g, zc32, zc58, zc61, zc34]
set_option maxRecDepth 20000 in
theorem m134 {h : zH} {D : zD} {sp : zSp} (h21 : D 32 21 = sp.length) (hl : sp.length ≤ 128) (hr : mRp D sp) (hb : spB sp) (hc : ∀ x ∈ sp, x.2.1 = -1 ∨ 0 ≤ x.1) :
    zc 134 2 [.ref 32] (zV h D) = some (.inl (some (.int (Int32.ofInt (lyLev D sp)))), zV h D) := by
  have e := m134_l (h := h) sp hl hr hb hc
  rw [zc, ← e]
  clear hr hb hc e
  simp (disch := first | omega | (simp (disch := omega) only [zwr_s, zwr_a, zwr_i]; omega)) only [zentry, zs0, zs1, zs2, zs3, zg_lo, zg_st, zg_st2, zg_ald, zg_ast, zs_ia, zs_i0, zcs, zg_ii, zi_max, zi_min, zi_abi, zi_abf, zi_fb, zi_bf, lget, lst, lst2, lc2, Option.map_some, zso, if_true, if_false, zc1, and_true, true_and, and_self, List.length_nil, List.length_cons, Nat.zero_le, reduceIte, reduceCtorEq, false_and, and_false, Bool.false_eq_true, zca_some, zr0, zr100, Option.bind_some, zb_none, zb_some, zrc, or_true, true_or, eq_self, ne_eq, not_true_eq_false, not_false_eq_true, zrt_i, zrt_zb, zrt_b, zrt_c, zrt_l, zrt_f, zrt_r, zrt_n, zrt_v, zft_0, zft_1, zft_zb, zft_3, zft_4, zft_5, zft_7r, zft_7n, iI_t, zb_i, zb_0, zb_1, Nat.reduceAdd, Nat.reduceLeDiff, Nat.reduceEqDiff, Nat.reduceSub, Int.reduceNeg, iI_add, iI_sub, iI_mul, iI_neg, iI_n, zbz, zchar_id, zin, zwr_s, zwr_a, zwr_i, if_pos, if_neg, Int.toNat_natCast, Int.natCast_zero, z134, h21, zc32]
/-- the pieces of a choice, one behind the other -/
def lyPs (D : zD) (m : Nat) : Nat → Nat → Int → zSp → zSp
  | 0, _, _, sp => sp
  | n + 1, c, t, sp => if m.testBit c = true then lyPs D m n (c + 1) (t + D 33 c) (((c : Int), -1, t, t + D 33 c) :: sp) else lyPs D m n (c + 1) t sp
noncomputable def lyGap (D : zD) (f t : Int) (sp : zSp) : zSp := if bestM D (t - f) (lyLev D sp) = 0 then (-1, -1, f, t) :: sp else lyPs D (bestM D (t - f) (lyLev D sp)) (D 32 7).toNat 0 f sp
/-- the cells behind the pieces of a choice -/
def mPs (D0 : zD) (m : Nat) : Nat → Nat → Int → zD → zD
  | 0, _, _, D => D
  | n + 1, c, t, D => if m.testBit c = true then mPs D0 m n (c + 1) (t + D0 33 c) (mLays D c (-1) t (t + D0 33 c)) else mPs D0 m n (c + 1) t D
set_option maxRecDepth 20000 in
theorem m135_l {D0 : zD} {m : Nat} {fi ti : Int32} {h : zH} (hD : mCl D0) (hm : m < 4096) : ∀ (n c : Nat) (t : Int) (D : zD), (c : Int) + n = D0 32 7 → D 32 7 = D0 32 7 → D 32 26 = m → (∀ i, D 33 i = D0 33 i) → 0 ≤ D 32 21 ∧ D 32 21 + n ≤ 128 → 0 ≤ t ∧ t ≤ 100000 + 900 * c →
    zx 135 28 [some (.ref 32), some (.int fi), some (.int ti), some (.int (Int32.ofInt t)), some (.int (Int32.ofInt (c : Int)))] [] (zV h D) = some (.inl none, zV h (mPs D0 m n c t D))
  | 0, c, t, D, hn, h7, h26, h33, h21, ht => by
    have hcc : (c : Int) = D0 32 7 := by omega
    have := hD.1
    rw [z135_28]
    unfold mPs
    clear hD
    simp (disch := first | omega | (simp (disch := omega) only [zwr_s, zwr_a, zwr_i]; omega)) only [zentry, zs0, zs1, zs2, zs3, zg_lo, zg_st, zg_st2, zg_ald, zg_ast, zs_ia, zs_i0, zcs, zg_ii, zi_max, zi_min, zi_abi, zi_abf, zi_fb, zi_bf, lget, lst, lst2, lc2, Option.map_some, zso, if_true, if_false, zc1, and_true, true_and, and_self, List.length_nil, List.length_cons, Nat.zero_le, reduceIte, reduceCtorEq, false_and, and_false, Bool.false_eq_true, zca_some, zr0, zr100, Option.bind_some, zb_none, zb_some, zrc, or_true, true_or, eq_self, ne_eq, not_true_eq_false, not_false_eq_true, zrt_i, zrt_zb, zrt_b, zrt_c, zrt_l, zrt_f, zrt_r, zrt_n, zrt_v, zft_0, zft_1, zft_zb, zft_3, zft_4, zft_5, zft_7r, zft_7n, iI_t, zb_i, zb_0, zb_1, Nat.reduceAdd, Nat.reduceLeDiff, Nat.reduceEqDiff, Nat.reduceSub, Int.reduceNeg, iI_add, iI_sub, iI_mul, iI_neg, iI_n, zbz, zchar_id, zin, zwr_s, zwr_a, zwr_i, if_pos, if_neg, Int.toNat_natCast, Int.natCast_zero, z135, hcc, h7, zc32]
  | n + 1, c, t, D, hn, h7, h26, h33, h21, ht => by
    have hb := bt_shr hm (show c < 12 by have := hD.1; omega)
    have hl := (hD.2.2 c (by omega)).1
    have hD1 := hD.1
    have o7 : mLays D c (-1) t (t + D0 33 c) 32 7 = D 32 7 := mLays_o (by omega) (by omega) (by omega) (by omega)
    have o26 : mLays D c (-1) t (t + D0 33 c) 32 26 = D 32 26 := mLays_o (by omega) (by omega) (by omega) (by omega)
    have o33 : ∀ i, mLays D c (-1) t (t + D0 33 c) 33 i = D 33 i := fun i => mLays_o (by omega) (by omega) (by omega) (by omega)
    have o21 : mLays D c (-1) t (t + D0 33 c) 32 21 = D 32 21 + 1 := by unfold mLays; rw [zwr_s]
    have ih1 := m135_l (fi := fi) (ti := ti) (h := h) hD hm n (c + 1) (t + D0 33 c) (mLays D c (-1) t (t + D0 33 c)) (by omega) (by rw [o7, h7]) (by rw [o26, h26]) (fun i => by rw [o33, h33]) (by rw [o21]; omega) (by omega)
    have ih2 := m135_l (fi := fi) (ti := ti) (h := h) hD hm n (c + 1) t D (by omega) h7 h26 h33 (by omega) (by omega)
    have e132 := m132 (c := (c : Int)) (ev := -1) (s := t) (en := t + D0 33 c) (h := h) (D := D) (by omega) (by omega)
    have h33c := h33 c
    have o33c := o33 c
    conv => lhs; rw [z135_28]
    unfold mPs
    clear hD h33 o33
    by_cases g : m.testBit c = true
    · simp only [g, if_true] at hb ⊢
      rw [← ih1]
      simp (disch := first | omega | (simp (disch := omega) only [zwr_s, zwr_a, zwr_i]; omega)) only [zentry, zs0, zs1, zs2, zs3, zg_lo, zg_st, zg_st2, zg_ald, zg_ast, zs_ia, zs_i0, zcs, zg_ii, zi_max, zi_min, zi_abi, zi_abf, zi_fb, zi_bf, lget, lst, lst2, lc2, Option.map_some, zso, if_true, if_false, zc1, and_true, true_and, and_self, List.length_nil, List.length_cons, Nat.zero_le, reduceIte, reduceCtorEq, false_and, and_false, Bool.false_eq_true, zca_some, zr0, zr100, Option.bind_some, zb_none, zb_some, zrc, or_true, true_or, eq_self, ne_eq, not_true_eq_false, not_false_eq_true, zrt_i, zrt_zb, zrt_b, zrt_c, zrt_l, zrt_f, zrt_r, zrt_n, zrt_v, zft_0, zft_1, zft_zb, zft_3, zft_4, zft_5, zft_7r, zft_7n, iI_t, zb_i, zb_0, zb_1, Nat.reduceAdd, Nat.reduceLeDiff, Nat.reduceEqDiff, Nat.reduceSub, Int.reduceNeg, iI_add, iI_sub, iI_mul, iI_neg, iI_n, zbz, zchar_id, zin, zwr_s, zwr_a, zwr_i, if_pos, if_neg, Int.toNat_natCast, Int.natCast_zero, z135, hb, h7, h26, h33c, o33c, zt5, e132, zc32, zc33]
    · simp only [g, if_false] at hb ⊢
      rw [if_neg (by simp), ← ih2]
      simp (disch := first | omega | (simp (disch := omega) only [zwr_s, zwr_a, zwr_i]; omega)) only [zentry, zs0, zs1, zs2, zs3, zg_lo, zg_st, zg_st2, zg_ald, zg_ast, zs_ia, zs_i0, zcs, zg_ii, zi_max, zi_min, zi_abi, zi_abf, zi_fb, zi_bf, lget, lst, lst2, lc2, Option.map_some, zso, if_true, if_false, zc1, and_true, true_and, and_self, List.length_nil, List.length_cons, Nat.zero_le, reduceIte, reduceCtorEq, false_and, and_false, Bool.false_eq_true, zca_some, zr0, zr100, Option.bind_some, zb_none, zb_some, zrc, or_true, true_or, eq_self, ne_eq, not_true_eq_false, not_false_eq_true, zrt_i, zrt_zb, zrt_b, zrt_c, zrt_l, zrt_f, zrt_r, zrt_n, zrt_v, zft_0, zft_1, zft_zb, zft_3, zft_4, zft_5, zft_7r, zft_7n, iI_t, zb_i, zb_0, zb_1, Nat.reduceAdd, Nat.reduceLeDiff, Nat.reduceEqDiff, Nat.reduceSub, Int.reduceNeg, iI_add, iI_sub, iI_mul, iI_neg, iI_n, zbz, zchar_id, zin, zwr_s, zwr_a, zwr_i, if_pos, if_neg, Int.toNat_natCast, Int.natCast_zero, z135, hb, h7, h26, zc32, zc33]
noncomputable def mGap (D : zD) (f t : Int) (sp : zSp) : zD := if bestM D (t - f) (lyLev D sp) = 0 then mLays (mFl D (t - f) (lyLev D sp)) (-1) (-1) f t else mPs D (bestM D (t - f) (lyLev D sp)) (D 32 7).toNat 0 f (mFl D (t - f) (lyLev D sp))
set_option maxRecDepth 20000 in
theorem m135 {f t : Int} {h : zH} {D : zD} {sp : zSp} (hD : mCl D) (hn : FP.Core.fIsNaN (mLst D) = false) (h21 : D 32 21 = sp.length) (hl : sp.length ≤ 116) (hr : mRp D sp) (hb : spB sp) (hc : ∀ x ∈ sp, x.2.1 = -1 ∨ (0 ≤ x.1 ∧ x.1 < D 32 7)) (hf : 0 ≤ f ∧ f ≤ 100000) (hg : 1 ≤ t - f ∧ t - f ≤ 3600) :
    zc 135 5 [.ref 32, .int (Int32.ofInt f), .int (Int32.ofInt t)] (zV h D) = some (.inl none, zV h (mGap D f t sp)) := by
  have hlv := lyLev_b hD hc
  have e134 := m134 (h := h) h21 (by omega) hr hb (fun x hx => (hc x hx).imp id fun q => q.1)
  have e125 := m125 (h := h) hD hg hlv hn
  have o21 : mFl D (t - f) (lyLev D sp) 32 21 = D 32 21 := mFl_o (by omega)
  have o7 : mFl D (t - f) (lyLev D sp) 32 7 = D 32 7 := mFl_o (by omega)
  rw [zc]
  unfold mGap
  by_cases g : bestM D (t - f) (lyLev D sp) = 0
  · rw [zb_f (by omega)] at e125
    rw [if_pos g]
    have e132 := m132 (c := -1) (ev := -1) (s := f) (en := t) (h := h) (D := mFl D (t - f) (lyLev D sp)) (by omega) (by omega)
    clear hD hn hr hb hc
    generalize mFl D (t - f) (lyLev D sp) = D1 at *
    generalize lyLev D sp = lv at *
    simp (disch := first | omega | (simp (disch := omega) only [zwr_s, zwr_a, zwr_i]; omega)) only [zentry, zs0, zs1, zs2, zs3, zg_lo, zg_st, zg_st2, zg_ald, zg_ast, zs_ia, zs_i0, zcs, zg_ii, zi_max, zi_min, zi_abi, zi_abf, zi_fb, zi_bf, lget, lst, lst2, lc2, Option.map_some, zso, if_true, if_false, zc1, and_true, true_and, and_self, List.length_nil, List.length_cons, Nat.zero_le, reduceIte, reduceCtorEq, false_and, and_false, Bool.false_eq_true, zca_some, zr0, zr100, Option.bind_some, zb_none, zb_some, zrc, or_true, true_or, eq_self, ne_eq, not_true_eq_false, not_false_eq_true, zrt_i, zrt_zb, zrt_b, zrt_c, zrt_l, zrt_f, zrt_r, zrt_n, zrt_v, zft_0, zft_1, zft_zb, zft_3, zft_4, zft_5, zft_7r, zft_7n, iI_t, zb_i, zb_0, zb_1, Nat.reduceAdd, Nat.reduceLeDiff, Nat.reduceEqDiff, Nat.reduceSub, Int.reduceNeg, iI_add, iI_sub, iI_mul, iI_neg, iI_n, zbz, zchar_id, zin, zwr_s, zwr_a, zwr_i, if_pos, if_neg, Int.toNat_natCast, Int.natCast_zero, z135, zt1, zt3, zt5, e134, e125, e132, zc32]
  · have hb9 := bestM_12 hD (bestM_B hD hg hlv hn)
    rw [zb_t (by omega)] at e125
    rw [if_neg g]
    have R := m135_l (fi := Int32.ofInt f) (ti := Int32.ofInt t) (h := h) hD hb9 (D 32 7).toNat 0 f (mFl D (t - f) (lyLev D sp)) (by have := hD.1; omega) o7 mFl_c (fun i => mFl_o (by omega)) (by have := hD.1; omega) (by omega)
    refine Eq.trans ?_ R
    clear hD hn hr hb hc R
    generalize mFl D (t - f) (lyLev D sp) = D1 at *
    generalize lyLev D sp = lv at *
    simp (disch := first | omega | (simp (disch := omega) only [zwr_s, zwr_a, zwr_i]; omega)) only [zentry, zs0, zs1, zs2, zs3, zg_lo, zg_st, zg_st2, zg_ald, zg_ast, zs_ia, zs_i0, zcs, zg_ii, zi_max, zi_min, zi_abi, zi_abf, zi_fb, zi_bf, lget, lst, lst2, lc2, Option.map_some, zso, if_true, if_false, zc1, and_true, true_and, and_self, List.length_nil, List.length_cons, Nat.zero_le, reduceIte, reduceCtorEq, false_and, and_false, Bool.false_eq_true, zca_some, zr0, zr100, Option.bind_some, zb_none, zb_some, zrc, or_true, true_or, eq_self, ne_eq, not_true_eq_false, not_false_eq_true, zrt_i, zrt_zb, zrt_b, zrt_c, zrt_l, zrt_f, zrt_r, zrt_n, zrt_v, zft_0, zft_1, zft_zb, zft_3, zft_4, zft_5, zft_7r, zft_7n, iI_t, zb_i, zb_0, zb_1, Nat.reduceAdd, Nat.reduceLeDiff, Nat.reduceEqDiff, Nat.reduceSub, Int.reduceNeg, iI_add, iI_sub, iI_mul, iI_neg, iI_n, zbz, zchar_id, zin, zwr_s, zwr_a, zwr_i, if_pos, if_neg, Int.toNat_natCast, Int.natCast_zero, z135, zt1, zt3, zt5, e134, e125, zc32]

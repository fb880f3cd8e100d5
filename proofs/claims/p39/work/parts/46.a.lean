/-! the layout, as lists: spans, the last one first: clip, event, start, end -/
abbrev zSp : Type := List (Int × Int × Int × Int)
/-- the reference's cells hold the spans -/
def mRp (D : zD) : zSp → Prop
  | [] => True
  | x :: r => (D 58 r.length = x.1 ∧ D 61 r.length = x.2.1 ∧ D 59 r.length = x.2.2.1 ∧ D 60 r.length = x.2.2.2) ∧ mRp D r
theorem mRp_c {D D' : zD} : ∀ {sp : zSp}, (∀ k, k < sp.length → D' 58 k = D 58 k ∧ D' 61 k = D 61 k ∧ D' 59 k = D 59 k ∧ D' 60 k = D 60 k) → mRp D sp → mRp D' sp
  | [], _, _ => trivial
  | x :: r, h, ⟨⟨h1, h2, h3, h4⟩, hr⟩ => by
    obtain ⟨g1, g2, g3, g4⟩ := h r.length (Nat.lt_succ_self _)
    exact ⟨⟨by rw [g1, h1], by rw [g2, h2], by rw [g3, h3], by rw [g4, h4]⟩, mRp_c (fun k hk => h k (Nat.lt_succ_of_lt hk)) hr⟩
def mLays (D : zD) (c ev s en : Int) : zD :=
  zwr (if ev = -1 then zwr (zwr (zwr (zwr D 58 (D 32 21).toNat c) 61 (D 32 21).toNat ev) 59 (D 32 21).toNat s) 60 (D 32 21).toNat en
    else zwr (zwr (zwr (zwr (zwr D 58 (D 32 21).toNat c) 61 (D 32 21).toNat ev) 59 (D 32 21).toNat s) 60 (D 32 21).toNat en) 65 ev.toNat (D 32 21)) 32 21 (D 32 21 + 1)
set_option maxRecDepth 20000 in
theorem m132 {c ev s en : Int} {h : zH} {D : zD} (h21 : 0 ≤ D 32 21 ∧ D 32 21 < 128) (hev : ev = -1 ∨ (0 ≤ ev ∧ ev < 12)) :
    zc 132 5 [.ref 32, .int (Int32.ofInt c), .int (Int32.ofInt ev), .int (Int32.ofInt s), .int (Int32.ofInt en)] (zV h D) = some (.inl none, zV h (mLays D c ev s en)) := by
  rw [zc]
  unfold mLays
  by_cases g : ev = -1
  · rw [if_pos g]
    simp (disch := first | omega | (simp (disch := omega) only [zwr_s, zwr_a, zwr_i]; omega)) only [zentry, zs0, zs1, zs2, zs3, zg_lo, zg_st, zg_st2, zg_ald, zg_ast, zs_ia, zs_i0, zcs, zg_ii, zi_max, zi_min, zi_abi, zi_abf, zi_fb, zi_bf, lget, lst, lst2, lc2, Option.map_some, zso, if_true, if_false, zc1, and_true, true_and, and_self, List.length_nil, List.length_cons, Nat.zero_le, reduceIte, reduceCtorEq, false_and, and_false, Bool.false_eq_true, zca_some, zr0, zr100, Option.bind_some, zb_none, zb_some, zrc, or_true, true_or, eq_self, ne_eq, not_true_eq_false, not_false_eq_true, zrt_i, zrt_zb, zrt_b, zrt_c, zrt_l, zrt_f, zrt_r, zrt_n, zrt_v, zft_0, zft_1, zft_zb, zft_3, zft_4, zft_5, zft_7r, zft_7n, iI_t, zb_i, zb_0, zb_1, Nat.reduceAdd, Nat.reduceLeDiff, Nat.reduceEqDiff, Nat.reduceSub, Int.reduceNeg, iI_add, iI_sub, iI_mul, iI_neg, iI_n, zbz, zchar_id, zin, zwr_s, zwr_a, zwr_i, if_pos, if_neg, Int.toNat_natCast, Int.natCast_zero, z132, zin, zc32, zc58, zc59, zc60, zc61, zc65, zwr_s, zwr_a, zwr_i, if_pos, if_neg]
  · rw [if_neg g]
    simp (disch := first | omega | (simp (disch := omega) only [zwr_s, zwr_a, zwr_i]; omega)) only [zentry, zs0, zs1, zs2, zs3, zg_lo, zg_st, zg_st2, zg_ald, zg_ast, zs_ia, zs_i0, zcs, zg_ii, zi_max, zi_min, zi_abi, zi_abf, zi_fb, zi_bf, lget, lst, lst2, lc2, Option.map_some, zso, if_true, if_false, zc1, and_true, true_and, and_self, List.length_nil, List.length_cons, Nat.zero_le, reduceIte, reduceCtorEq, false_and, and_false, Bool.false_eq_true, zca_some, zr0, zr100, Option.bind_some, zb_none, zb_some, zrc, or_true, true_or, eq_self, ne_eq, not_true_eq_false, not_false_eq_true, zrt_i, zrt_zb, zrt_b, zrt_c, zrt_l, zrt_f, zrt_r, zrt_n, zrt_v, zft_0, zft_1, zft_zb, zft_3, zft_4, zft_5, zft_7r, zft_7n, iI_t, zb_i, zb_0, zb_1, Nat.reduceAdd, Nat.reduceLeDiff, Nat.reduceEqDiff, Nat.reduceSub, Int.reduceNeg, iI_add, iI_sub, iI_mul, iI_neg, iI_n, zbz, zchar_id, zin, zwr_s, zwr_a, zwr_i, if_pos, if_neg, Int.toNat_natCast, Int.natCast_zero, z132, zin, zc32, zc58, zc59, zc60, zc61, zc65, zwr_s, zwr_a, zwr_i, if_pos, if_neg]
theorem mLays_rp {D : zD} {c ev s en : Int} {sp : zSp} (h21 : D 32 21 = sp.length) (h : mRp D sp) : mRp (mLays D c ev s en) ((c, ev, s, en) :: sp) ∧ mLays D c ev s en 32 21 = sp.length + 1 := by
  have e : (D 32 21).toNat = sp.length := by omega
  refine ⟨⟨?_, mRp_c (fun k hk => ?_) h⟩, ?_⟩
  · unfold mLays
    rw [e]
    split <;> simp [zwr]
  · unfold mLays
    rw [e]
    have : ¬ k = sp.length := by omega
    split <;> simp [zwr, this]
  · unfold mLays
    simp [zwr, h21]
theorem mLays_o {D : zD} {c ev s en : Int} {a i : Nat} (h : a < 58 ∨ 61 < a) (h1 : a = 32 → i ≠ 21) (h2 : a = 65 → (i : Int) ≠ ev) (hev : ev = -1 ∨ 0 ≤ ev) : mLays D c ev s en a i = D a i := by
  unfold mLays
  rw [zwr_e, if_neg (by omega)]
  split
  · rw [zwr_a (by omega), zwr_a (by omega), zwr_a (by omega), zwr_a (by omega)]
  · rw [zwr_e, if_neg (by omega), zwr_a (by omega), zwr_a (by omega), zwr_a (by omega), zwr_a (by omega)]
theorem mLays_p {D : zD} {c ev s en : Int} (hev : 0 ≤ ev) : mLays D c ev s en 65 ev.toNat = D 32 21 := by
  unfold mLays
  rw [zwr_a (by omega), if_neg (by omega), zwr_s]
/-- what is laid out at or behind a place is cut away -/
def lyCut (t : Int) : zSp → zSp
  | [] => []
  | x :: r => if t ≤ x.2.2.1 then lyCut t r else if t < x.2.2.2 then (x.1, x.2.1, x.2.2.1, t) :: r else x :: r
/-- the event that is cut short by it, or -1 -/
def lyCe (t : Int) : zSp → Int
  | [] => -1
  | x :: r => if t ≤ x.2.2.1 then lyCe t r else if t < x.2.2.2 then x.2.1 else -1
def mCut (t : Int) : zSp → zD → zD
  | [], D => D
  | x :: r, D => if t ≤ x.2.2.1 then mCut t r (if x.2.1 = -1 then zwr D 32 21 r.length else zwr (zwr D 32 21 r.length) 65 x.2.1.toNat (-1))
    else if t < x.2.2.2 then (if x.2.1 = -1 then zwr D 60 r.length t else zwr (zwr D 60 r.length t) 63 x.2.1.toNat 1) else D
/-- the spans' values are in their bounds -/
def spB (sp : zSp) : Prop := ∀ x ∈ sp, (-1 ≤ x.1 ∧ x.1 < 12) ∧ (-1 ≤ x.2.1 ∧ x.2.1 < 12) ∧ (0 ≤ x.2.2.1 ∧ x.2.2.1 ≤ 100000) ∧ (0 ≤ x.2.2.2 ∧ x.2.2.2 ≤ 100000)
set_option maxRecDepth 20000 in
theorem m133_l {t : Int} {h : zH} (ht : 0 ≤ t ∧ t ≤ 100000) : ∀ (sp : zSp) (D : zD), D 32 21 = sp.length → sp.length ≤ 128 → mRp D sp → spB sp →
    zx 133 0 [some (.ref 32), some (.int (Int32.ofInt t))] [] (zV h D) = some (.inl none, zV h (mCut t sp D))
  | [], D, h21, hlen, hr, hb => by
    have h21 : D 32 21 = 0 := h21
    rw [z133_0]
    unfold mCut
    simp (disch := first | omega | (simp (disch := omega) only [zwr_s, zwr_a, zwr_i]; omega)) only [zentry, zs0, zs1, zs2, zs3, zg_lo, zg_st, zg_st2, zg_ald, zg_ast, zs_ia, zs_i0, zcs, zg_ii, zi_max, zi_min, zi_abi, zi_abf, zi_fb, zi_bf, lget, lst, lst2, lc2, Option.map_some, zso, if_true, if_false, zc1, and_true, true_and, and_self, List.length_nil, List.length_cons, Nat.zero_le, reduceIte, reduceCtorEq, false_and, and_false, Bool.false_eq_true, zca_some, zr0, zr100, Option.bind_some, zb_none, zb_some, zrc, or_true, true_or, eq_self, ne_eq, not_true_eq_false, not_false_eq_true, zrt_i, zrt_zb, zrt_b, zrt_c, zrt_l, zrt_f, zrt_r, zrt_n, zrt_v, zft_0, zft_1, zft_zb, zft_3, zft_4, zft_5, zft_7r, zft_7n, iI_t, zb_i, zb_0, zb_1, Nat.reduceAdd, Nat.reduceLeDiff, Nat.reduceEqDiff, Nat.reduceSub, Int.reduceNeg, iI_add, iI_sub, iI_mul, iI_neg, iI_n, zbz, zchar_id, zin, zwr_s, zwr_a, zwr_i, if_pos, if_neg, Int.toNat_natCast, Int.natCast_zero, z133, h21, zc32, if_pos, if_neg]
  | x :: r, D, h21, hlen, hr, hb => by
    obtain ⟨⟨r1, r2, r3, r4⟩, hr'⟩ := hr
    obtain ⟨b1, b2, b3, b4⟩ := hb x List.mem_cons_self
    have hb' : spB r := fun y hy => hb y (List.mem_cons_of_mem _ hy)
    rw [List.length_cons] at h21 hlen
    have h21 : D 32 21 = (r.length : Int) + 1 := h21
    have e1 : (r.length : Int) + 1 - 1 = r.length := by omega
    have ih1 := m133_l (h := h) ht r (zwr D 32 21 r.length) (by rw [zwr_s]) (by omega) (mRp_c (fun k _ => ⟨zwr_a (by omega), zwr_a (by omega), zwr_a (by omega), zwr_a (by omega)⟩) hr') hb'
    have ih2 := m133_l (h := h) ht r (zwr (zwr D 32 21 r.length) 65 x.2.1.toNat (-1)) (by rw [zwr_a (by omega), zwr_s]) (by omega) (mRp_c (fun k _ => ⟨by rw [zwr_a (by omega), zwr_a (by omega)], by rw [zwr_a (by omega), zwr_a (by omega)], by rw [zwr_a (by omega), zwr_a (by omega)], by rw [zwr_a (by omega), zwr_a (by omega)]⟩) hr') hb'
    conv => lhs; rw [z133_0]
    unfold mCut
    generalize hn : r.length = n at *
    clear hb hb' hr' hn
    by_cases g1 : t ≤ x.2.2.1
    · rw [if_pos g1]
      by_cases g2 : x.2.1 = -1
      · rw [if_pos g2, ← ih1]
        simp (disch := first | omega | (simp (disch := omega) only [zwr_s, zwr_a, zwr_i]; omega)) only [zentry, zs0, zs1, zs2, zs3, zg_lo, zg_st, zg_st2, zg_ald, zg_ast, zs_ia, zs_i0, zcs, zg_ii, zi_max, zi_min, zi_abi, zi_abf, zi_fb, zi_bf, lget, lst, lst2, lc2, Option.map_some, zso, if_true, if_false, zc1, and_true, true_and, and_self, List.length_nil, List.length_cons, Nat.zero_le, reduceIte, reduceCtorEq, false_and, and_false, Bool.false_eq_true, zca_some, zr0, zr100, Option.bind_some, zb_none, zb_some, zrc, or_true, true_or, eq_self, ne_eq, not_true_eq_false, not_false_eq_true, zrt_i, zrt_zb, zrt_b, zrt_c, zrt_l, zrt_f, zrt_r, zrt_n, zrt_v, zft_0, zft_1, zft_zb, zft_3, zft_4, zft_5, zft_7r, zft_7n, iI_t, zb_i, zb_0, zb_1, Nat.reduceAdd, Nat.reduceLeDiff, Nat.reduceEqDiff, Nat.reduceSub, Int.reduceNeg, iI_add, iI_sub, iI_mul, iI_neg, iI_n, zbz, zchar_id, zin, zwr_s, zwr_a, zwr_i, if_pos, if_neg, Int.toNat_natCast, Int.natCast_zero, z133, h21, e1, r1, r2, r3, r4, g2, zin, zc32, zc58, zc59, zc60, zc61, zc65, Int.toNat_natCast, zwr_s, zwr_a, zwr_i, if_pos, if_neg]
      · rw [if_neg g2, ← ih2]
        simp (disch := first | omega | (simp (disch := omega) only [zwr_s, zwr_a, zwr_i]; omega)) only [zentry, zs0, zs1, zs2, zs3, zg_lo, zg_st, zg_st2, zg_ald, zg_ast, zs_ia, zs_i0, zcs, zg_ii, zi_max, zi_min, zi_abi, zi_abf, zi_fb, zi_bf, lget, lst, lst2, lc2, Option.map_some, zso, if_true, if_false, zc1, and_true, true_and, and_self, List.length_nil, List.length_cons, Nat.zero_le, reduceIte, reduceCtorEq, false_and, and_false, Bool.false_eq_true, zca_some, zr0, zr100, Option.bind_some, zb_none, zb_some, zrc, or_true, true_or, eq_self, ne_eq, not_true_eq_false, not_false_eq_true, zrt_i, zrt_zb, zrt_b, zrt_c, zrt_l, zrt_f, zrt_r, zrt_n, zrt_v, zft_0, zft_1, zft_zb, zft_3, zft_4, zft_5, zft_7r, zft_7n, iI_t, zb_i, zb_0, zb_1, Nat.reduceAdd, Nat.reduceLeDiff, Nat.reduceEqDiff, Nat.reduceSub, Int.reduceNeg, iI_add, iI_sub, iI_mul, iI_neg, iI_n, zbz, zchar_id, zin, zwr_s, zwr_a, zwr_i, if_pos, if_neg, Int.toNat_natCast, Int.natCast_zero, z133, h21, e1, r1, r2, r3, r4, g2, zin, zc32, zc58, zc59, zc60, zc61, zc65, Int.toNat_natCast, zwr_s, zwr_a, zwr_i, if_pos, if_neg]
    · rw [if_neg g1]
      by_cases g3 : t < x.2.2.2
      · rw [if_pos g3]
        by_cases g2 : x.2.1 = -1
        · rw [if_pos g2]
          simp (disch := first | omega | (simp (disch := omega) only [zwr_s, zwr_a, zwr_i]; omega)) only [zentry, zs0, zs1, zs2, zs3, zg_lo, zg_st, zg_st2, zg_ald, zg_ast, zs_ia, zs_i0, zcs, zg_ii, zi_max, zi_min, zi_abi, zi_abf, zi_fb, zi_bf, lget, lst, lst2, lc2, Option.map_some, zso, if_true, if_false, zc1, and_true, true_and, and_self, List.length_nil, List.length_cons, Nat.zero_le, reduceIte, reduceCtorEq, false_and, and_false, Bool.false_eq_true, zca_some, zr0, zr100, Option.bind_some, zb_none, zb_some, zrc, or_true, true_or, eq_self, ne_eq, not_true_eq_false, not_false_eq_true, zrt_i, zrt_zb, zrt_b, zrt_c, zrt_l, zrt_f, zrt_r, zrt_n, zrt_v, zft_0, zft_1, zft_zb, zft_3, zft_4, zft_5, zft_7r, zft_7n, iI_t, zb_i, zb_0, zb_1, Nat.reduceAdd, Nat.reduceLeDiff, Nat.reduceEqDiff, Nat.reduceSub, Int.reduceNeg, iI_add, iI_sub, iI_mul, iI_neg, iI_n, zbz, zchar_id, zin, zwr_s, zwr_a, zwr_i, if_pos, if_neg, Int.toNat_natCast, Int.natCast_zero, z133, h21, e1, r1, r2, r3, r4, g2, zin, zc32, zc58, zc59, zc60, zc61, zc63, Int.toNat_natCast, zwr_s, zwr_a, zwr_i, if_pos, if_neg]
        · rw [if_neg g2]
          simp (disch := first | omega | (simp (disch := omega) only [zwr_s, zwr_a, zwr_i]; omega)) only [zentry, zs0, zs1, zs2, zs3, zg_lo, zg_st, zg_st2, zg_ald, zg_ast, zs_ia, zs_i0, zcs, zg_ii, zi_max, zi_min, zi_abi, zi_abf, zi_fb, zi_bf, lget, lst, lst2, lc2, Option.map_some, zso, if_true, if_false, zc1, and_true, true_and, and_self, List.length_nil, List.length_cons, Nat.zero_le, reduceIte, reduceCtorEq, false_and, and_false, Bool.false_eq_true, zca_some, zr0, zr100, Option.bind_some, zb_none, zb_some, zrc, or_true, true_or, eq_self, ne_eq, not_true_eq_false, not_false_eq_true, zrt_i, zrt_zb, zrt_b, zrt_c, zrt_l, zrt_f, zrt_r, zrt_n, zrt_v, zft_0, zft_1, zft_zb, zft_3, zft_4, zft_5, zft_7r, zft_7n, iI_t, zb_i, zb_0, zb_1, Nat.reduceAdd, Nat.reduceLeDiff, Nat.reduceEqDiff, Nat.reduceSub, Int.reduceNeg, iI_add, iI_sub, iI_mul, iI_neg, iI_n, zbz, zchar_id, zin, zwr_s, zwr_a, zwr_i, if_pos, if_neg, Int.toNat_natCast, Int.natCast_zero, z133, h21, e1, r1, r2, r3, r4, g2, zin, zc32, zc58, zc59, zc60, zc61, zc63, Int.toNat_natCast, zwr_s, zwr_a, zwr_i, if_pos, if_neg]
      · rw [if_neg g3]
        simp (disch := first | omega | (simp (disch := omega) only [zwr_s, zwr_a, zwr_i]; omega)) only [zentry, zs0, zs1, zs2, zs3, zg_lo, zg_st, zg_st2, zg_ald, zg_ast, zs_ia, zs_i0, zcs, zg_ii, zi_max, zi_min, zi_abi, zi_abf, zi_fb, zi_bf, lget, lst, lst2, lc2, Option.map_some, zso, if_true, if_false, zc1, and_true, true_and, and_self, List.length_nil, List.length_cons, Nat.zero_le, reduceIte, reduceCtorEq, false_and, and_false, Bool.false_eq_true, zca_some, zr0, zr100, Option.bind_some, zb_none, zb_some, zrc, or_true, true_or, eq_self, ne_eq, not_true_eq_false, not_false_eq_true, zrt_i, zrt_zb, zrt_b, zrt_c, zrt_l, zrt_f, zrt_r, zrt_n, zrt_v, zft_0, zft_1, zft_zb, zft_3, zft_4, zft_5, zft_7r, zft_7n, iI_t, zb_i, zb_0, zb_1, Nat.reduceAdd, Nat.reduceLeDiff, Nat.reduceEqDiff, Nat.reduceSub, Int.reduceNeg, iI_add, iI_sub, iI_mul, iI_neg, iI_n, zbz, zchar_id, zin, zwr_s, zwr_a, zwr_i, if_pos, if_neg, Int.toNat_natCast, Int.natCast_zero, z133, h21, e1, r1, r2, r3, r4, zin, zc32, zc58, zc59, zc60, zc61, zc63, Int.toNat_natCast, zwr_s, zwr_a, zwr_i, if_pos, if_neg]
theorem m133 {t : Int} {h : zH} {sp : zSp} {D : zD} (ht : 0 ≤ t ∧ t ≤ 100000) (h21 : D 32 21 = sp.length) (hl : sp.length ≤ 128) (hr : mRp D sp) (hb : spB sp) :
    zc 133 2 [.ref 32, .int (Int32.ofInt t)] (zV h D) = some (.inl none, zV h (mCut t sp D)) := by
  rw [zc]
  exact m133_l ht sp D h21 hl hr hb

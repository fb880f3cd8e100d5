/-! the reference lays out: an event, the day -/
theorem smB_b {S : zD} {ba : Nat → Int} {e : Nat} : ∀ n, 0 ≤ smB S ba e n ∧ smB S ba e n ≤ n
  | 0 => by simp [smB]
  | n + 1 => by
    have := smB_b (S := S) (ba := ba) (e := e) n
    unfold smB
    split <;> omega
set_option maxRecDepth 20000 in
theorem m136_l {e : Nat} {h : zH} {D : zD} (he : e < 12) (hb : ∀ n, n < e → D 62 n = 0 ∨ D 62 n = 1) (hr : ∀ n, n ≤ e → 0 ≤ D 40 n ∧ D 40 n < 12) :
    zx 136 4 [some (.ref 32), some (.int (Int32.ofInt (e : Int))), some (.int (Int32.ofInt 0)), some (.int (Int32.ofInt 0))] [] (zV h D) =
    zx 136 47 [some (.ref 32), some (.int (Int32.ofInt (e : Int))), some (.int (Int32.ofInt (smB D (D 62) e e))), some (.int (Int32.ofInt (e : Int)))] [] (zV h D) := by
  have hloop := zloop (k := 136) (pc := 4) (fun i => [some (.ref 32), some (.int (Int32.ofInt (e : Int))), some (.int (Int32.ofInt (smB D (D 62) e i))), some (.int (Int32.ofInt (i : Int)))]) (fun _ => zV h D) e (fun i hi => by
    have b := hb i hi
    have r1 := hr i (by omega)
    have r2 := hr e (Nat.le_refl _)
    have sb := smB_b (S := D) (ba := D 62) (e := e) i
    conv => lhs; rw [z136_4]
    rw [smB]
    clear hb hr
    by_cases g1 : D 62 i = 0
    · by_cases g2 : D 40 i = D 40 e
      · rw [if_pos ⟨g1, g2⟩]
        generalize smB D (D 62) e i = sm at *
        simp (disch := first | omega | (simp (disch := omega) only [zwr_s, zwr_a, zwr_i]; omega)) only [zentry, zs0, zs1, zs2, zs3, zg_lo, zg_st, zg_st2, zg_ald, zg_ast, zs_ia, zs_i0, zcs, zg_ii, zi_max, zi_min, zi_abi, zi_abf, zi_fb, zi_bf, lget, lst, lst2, lc2, Option.map_some, zso, if_true, if_false, zc1, and_true, true_and, and_self, List.length_nil, List.length_cons, Nat.zero_le, reduceIte, reduceCtorEq, false_and, and_false, Bool.false_eq_true, zca_some, zr0, zr100, Option.bind_some, zb_none, zb_some, zrc, or_true, true_or, eq_self, ne_eq, not_true_eq_false, not_false_eq_true, zrt_i, zrt_zb, zrt_b, zrt_c, zrt_l, zrt_f, zrt_r, zrt_n, zrt_v, zft_0, zft_1, zft_zb, zft_3, zft_4, zft_5, zft_7r, zft_7n, iI_t, zb_i, zb_0, zb_1, Nat.reduceAdd, Nat.reduceLeDiff, Nat.reduceEqDiff, Nat.reduceSub, Int.reduceNeg, iI_add, iI_sub, iI_mul, iI_neg, iI_n, zbz, zchar_id, zin, zwr_s, zwr_a, zwr_i, if_pos, if_neg, Int.toNat_natCast, Int.natCast_zero, z136, g1, g2, zc32, zc62, zc40]
      · rw [if_neg (fun q => g2 q.2)]
        generalize smB D (D 62) e i = sm at *
        simp (disch := first | omega | (simp (disch := omega) only [zwr_s, zwr_a, zwr_i]; omega)) only [zentry, zs0, zs1, zs2, zs3, zg_lo, zg_st, zg_st2, zg_ald, zg_ast, zs_ia, zs_i0, zcs, zg_ii, zi_max, zi_min, zi_abi, zi_abf, zi_fb, zi_bf, lget, lst, lst2, lc2, Option.map_some, zso, if_true, if_false, zc1, and_true, true_and, and_self, List.length_nil, List.length_cons, Nat.zero_le, reduceIte, reduceCtorEq, false_and, and_false, Bool.false_eq_true, zca_some, zr0, zr100, Option.bind_some, zb_none, zb_some, zrc, or_true, true_or, eq_self, ne_eq, not_true_eq_false, not_false_eq_true, zrt_i, zrt_zb, zrt_b, zrt_c, zrt_l, zrt_f, zrt_r, zrt_n, zrt_v, zft_0, zft_1, zft_zb, zft_3, zft_4, zft_5, zft_7r, zft_7n, iI_t, zb_i, zb_0, zb_1, Nat.reduceAdd, Nat.reduceLeDiff, Nat.reduceEqDiff, Nat.reduceSub, Int.reduceNeg, iI_add, iI_sub, iI_mul, iI_neg, iI_n, zbz, zchar_id, zin, zwr_s, zwr_a, zwr_i, if_pos, if_neg, Int.toNat_natCast, Int.natCast_zero, z136, g1, g2, zc32, zc62, zc40]
    · rw [if_neg (fun q => g1 q.1)]
      generalize smB D (D 62) e i = sm at *
      simp (disch := first | omega | (simp (disch := omega) only [zwr_s, zwr_a, zwr_i]; omega)) only [zentry, zs0, zs1, zs2, zs3, zg_lo, zg_st, zg_st2, zg_ald, zg_ast, zs_ia, zs_i0, zcs, zg_ii, zi_max, zi_min, zi_abi, zi_abf, zi_fb, zi_bf, lget, lst, lst2, lc2, Option.map_some, zso, if_true, if_false, zc1, and_true, true_and, and_self, List.length_nil, List.length_cons, Nat.zero_le, reduceIte, reduceCtorEq, false_and, and_false, Bool.false_eq_true, zca_some, zr0, zr100, Option.bind_some, zb_none, zb_some, zrc, or_true, true_or, eq_self, ne_eq, not_true_eq_false, not_false_eq_true, zrt_i, zrt_zb, zrt_b, zrt_c, zrt_l, zrt_f, zrt_r, zrt_n, zrt_v, zft_0, zft_1, zft_zb, zft_3, zft_4, zft_5, zft_7r, zft_7n, iI_t, zb_i, zb_0, zb_1, Nat.reduceAdd, Nat.reduceLeDiff, Nat.reduceEqDiff, Nat.reduceSub, Int.reduceNeg, iI_add, iI_sub, iI_mul, iI_neg, iI_n, zbz, zchar_id, zin, zwr_s, zwr_a, zwr_i, if_pos, if_neg, Int.toNat_natCast, Int.natCast_zero, z136, g1, zc32, zc62, zc40]) e (Nat.le_refl _)
  refine Eq.trans hloop ?_
  rw [z136_4]
  clear hb hr hloop
  generalize smB D (D 62) e e = sm at *
  simp (disch := first | omega | (simp (disch := omega) only [zwr_s, zwr_a, zwr_i]; omega)) only [zentry, zs0, zs1, zs2, zs3, zg_lo, zg_st, zg_st2, zg_ald, zg_ast, zs_ia, zs_i0, zcs, zg_ii, zi_max, zi_min, zi_abi, zi_abf, zi_fb, zi_bf, lget, lst, lst2, lc2, Option.map_some, zso, if_true, if_false, zc1, and_true, true_and, and_self, List.length_nil, List.length_cons, Nat.zero_le, reduceIte, reduceCtorEq, false_and, and_false, Bool.false_eq_true, zca_some, zr0, zr100, Option.bind_some, zb_none, zb_some, zrc, or_true, true_or, eq_self, ne_eq, not_true_eq_false, not_false_eq_true, zrt_i, zrt_zb, zrt_b, zrt_c, zrt_l, zrt_f, zrt_r, zrt_n, zrt_v, zft_0, zft_1, zft_zb, zft_3, zft_4, zft_5, zft_7r, zft_7n, iI_t, zb_i, zb_0, zb_1, Nat.reduceAdd, Nat.reduceLeDiff, Nat.reduceEqDiff, Nat.reduceSub, Int.reduceNeg, iI_add, iI_sub, iI_mul, iI_neg, iI_n, zbz, zchar_id, zin, zwr_s, zwr_a, zwr_i, if_pos, if_neg, Int.toNat_natCast, Int.natCast_zero, z136]
set_option maxRecDepth 20000 in
theorem m136 {e : Nat} {h : zH} {D : zD} (he : e < 12) (hb : ∀ n, n < e → D 62 n = 0 ∨ D 62 n = 1) (hr : ∀ n, n ≤ e → 0 ≤ D 40 n ∧ D 40 n < D 32 7) (hC : mCl D) (h35 : ∀ i, -1000000 ≤ D 35 i ∧ D 35 i ≤ 1000000) :
    zc 136 4 [.ref 32, .int (Int32.ofInt (e : Int))] (zV h D) = some (.inl (some (.int (Int32.ofInt (zb (lyBar D (D 62) e))))), zV h D) := by
  have h7 := hC.1
  have re := hr e (Nat.le_refl _)
  have L := m136_l (h := h) he hb (fun n hn => ⟨(hr n hn).1, by have := (hr n hn).2; omega⟩)
  obtain ⟨-, -, c3, c4, -⟩ := hC.2.2 (D 40 e).toNat (by omega)
  have h16 := hC.2.1
  have e122 := m122 (c := D 40 e) (h := h) (D := D) (by omega) (by omega) (by omega) (by omega)
  have sb := smB_b (S := D) (ba := D 62) (e := e) e
  have p35 := h35 (D 40 e).toNat
  rw [zc]
  unfold lyBar
  clear hr hb hC h35
  generalize smB D (D 62) e e = sm at *
  by_cases g1 : D 36 (D 40 e).toNat ≤ D 32 16 ∧ D 32 16 ≤ D 37 (D 40 e).toNat
  · rw [zb_t g1] at e122
    by_cases g2 : D 35 (D 40 e).toNat ≤ sm
    · rw [zb_t (Or.inr g2)]
      simp (disch := first | omega | (simp (disch := omega) only [zwr_s, zwr_a, zwr_i]; omega)) only [zentry, zs0, zs1, zs2, zs3, zg_lo, zg_st, zg_st2, zg_ald, zg_ast, zs_ia, zs_i0, zcs, zg_ii, zi_max, zi_min, zi_abi, zi_abf, zi_fb, zi_bf, lget, lst, lst2, lc2, Option.map_some, zso, if_true, if_false, zc1, and_true, true_and, and_self, List.length_nil, List.length_cons, Nat.zero_le, reduceIte, reduceCtorEq, false_and, and_false, Bool.false_eq_true, zca_some, zr0, zr100, Option.bind_some, zb_none, zb_some, zrc, or_true, true_or, eq_self, ne_eq, not_true_eq_false, not_false_eq_true, zrt_i, zrt_zb, zrt_b, zrt_c, zrt_l, zrt_f, zrt_r, zrt_n, zrt_v, zft_0, zft_1, zft_zb, zft_3, zft_4, zft_5, zft_7r, zft_7n, iI_t, zb_i, zb_0, zb_1, Nat.reduceAdd, Nat.reduceLeDiff, Nat.reduceEqDiff, Nat.reduceSub, Int.reduceNeg, iI_add, iI_sub, iI_mul, iI_neg, iI_n, zbz, zchar_id, zin, zwr_s, zwr_a, zwr_i, if_pos, if_neg, Int.toNat_natCast, Int.natCast_zero, z136, L, e122, zt2, zc32, zc35, zc40]
    · rw [zb_f (by omega)]
      simp (disch := first | omega | (simp (disch := omega) only [zwr_s, zwr_a, zwr_i]; omega)) only [zentry, zs0, zs1, zs2, zs3, zg_lo, zg_st, zg_st2, zg_ald, zg_ast, zs_ia, zs_i0, zcs, zg_ii, zi_max, zi_min, zi_abi, zi_abf, zi_fb, zi_bf, lget, lst, lst2, lc2, Option.map_some, zso, if_true, if_false, zc1, and_true, true_and, and_self, List.length_nil, List.length_cons, Nat.zero_le, reduceIte, reduceCtorEq, false_and, and_false, Bool.false_eq_true, zca_some, zr0, zr100, Option.bind_some, zb_none, zb_some, zrc, or_true, true_or, eq_self, ne_eq, not_true_eq_false, not_false_eq_true, zrt_i, zrt_zb, zrt_b, zrt_c, zrt_l, zrt_f, zrt_r, zrt_n, zrt_v, zft_0, zft_1, zft_zb, zft_3, zft_4, zft_5, zft_7r, zft_7n, iI_t, zb_i, zb_0, zb_1, Nat.reduceAdd, Nat.reduceLeDiff, Nat.reduceEqDiff, Nat.reduceSub, Int.reduceNeg, iI_add, iI_sub, iI_mul, iI_neg, iI_n, zbz, zchar_id, zin, zwr_s, zwr_a, zwr_i, if_pos, if_neg, Int.toNat_natCast, Int.natCast_zero, z136, L, e122, zt2, zc32, zc35, zc40]
  · rw [zb_f g1] at e122
    rw [zb_t (Or.inl g1)]
    simp (disch := first | omega | (simp (disch := omega) only [zwr_s, zwr_a, zwr_i]; omega)) only [zentry, zs0, zs1, zs2, zs3, zg_lo, zg_st, zg_st2, zg_ald, zg_ast, zs_ia, zs_i0, zcs, zg_ii, zi_max, zi_min, zi_abi, zi_abf, zi_fb, zi_bf, lget, lst, lst2, lc2, Option.map_some, zso, if_true, if_false, zc1, and_true, true_and, and_self, List.length_nil, List.length_cons, Nat.zero_le, reduceIte, reduceCtorEq, false_and, and_false, Bool.false_eq_true, zca_some, zr0, zr100, Option.bind_some, zb_none, zb_some, zrc, or_true, true_or, eq_self, ne_eq, not_true_eq_false, not_false_eq_true, zrt_i, zrt_zb, zrt_b, zrt_c, zrt_l, zrt_f, zrt_r, zrt_n, zrt_v, zft_0, zft_1, zft_zb, zft_3, zft_4, zft_5, zft_7r, zft_7n, iI_t, zb_i, zb_0, zb_1, Nat.reduceAdd, Nat.reduceLeDiff, Nat.reduceEqDiff, Nat.reduceSub, Int.reduceNeg, iI_add, iI_sub, iI_mul, iI_neg, iI_n, zbz, zchar_id, zin, zwr_s, zwr_a, zwr_i, if_pos, if_neg, Int.toNat_natCast, Int.natCast_zero, z136, L, e122, zt2, zc32, zc35, zc40]
/-- the cells behind an event -/
noncomputable def mEv (D : zD) (e : Nat) (t : Int) (sp : zSp) : Int × zD :=
  if t < lySt D e t then (lySt D e t + lyLn D e, mLays (mGap D t (lySt D e t) sp) (D 40 e) e (lySt D e t) (lySt D e t + lyLn D e))
  else if D 43 e = 99 then (lySt D e t + lyLn D e, mLays (mCut (lySt D e t) sp D) (D 40 e) e (lySt D e t) (lySt D e t + lyLn D e))
  else if D 43 e = 106 then (if lySt D e t + lyLn D e ≤ t then (t, D) else (lySt D e t + lyLn D e, mLays (zwr D 64 e (zb (lySt D e t < t))) (D 40 e) e t (lySt D e t + lyLn D e)))
  else (t + lyLn D e, mLays D (D 40 e) e t (t + lyLn D e))
set_option maxRecDepth 20000 in
theorem m137 {e : Nat} {t : Int} {h : zH} {D : zD} {sp : zSp} (he : e < 12) (hC : mCl D) (hE : mEvs D) (heE : (e : Int) < D 32 15) (hn : FP.Core.fIsNaN (mLst D) = false) (h21 : D 32 21 = sp.length) (hr : mRp D sp) (hI : lyI D e t sp) :
    zc 137 6 [.ref 32, .int (Int32.ofInt (e : Int)), .int (Int32.ofInt t)] (zV h D) = some (.inl (some (.int (Int32.ofInt (mEv D e t sp).1))), zV h (mEv D e t sp).2) := by
  obtain ⟨v1, v2, v3, v4⟩ := hE.2.1 e heE
  have hl := (hC.2.2 (D 40 e).toNat (by omega)).1
  have hb := lyI_B hE hC (by omega) hI
  have hv := lyI_v hI
  obtain ⟨i1, i2, i3, i4, i5⟩ := id hI
  have t0 := spC_nn i1
  have h7 := hC.1
  have hln : lyLn D e = D 33 (D 40 e).toNat + D 42 e := rfl
  rw [zc]
  by_cases g0 : D 43 e = 102
  · have hst : lySt D e t = t := if_pos g0
    unfold mEv
    rw [hst, if_neg (by omega), if_neg (by omega), if_neg (by omega), hln]
    have e132 := m132 (c := D 40 e) (ev := (e : Int)) (s := t) (en := t + (D 33 (D 40 e).toNat + D 42 e)) (h := h) (D := D) (by omega) (by omega)
    clear hC hE hn hr hI hb hv i1 i3 i4 i5
    simp (disch := first | omega | (simp (disch := omega) only [zwr_s, zwr_a, zwr_i]; omega)) only [zentry, zs0, zs1, zs2, zs3, zg_lo, zg_st, zg_st2, zg_ald, zg_ast, zs_ia, zs_i0, zcs, zg_ii, zi_max, zi_min, zi_abi, zi_abf, zi_fb, zi_bf, lget, lst, lst2, lc2, Option.map_some, zso, if_true, if_false, zc1, and_true, true_and, and_self, List.length_nil, List.length_cons, Nat.zero_le, reduceIte, reduceCtorEq, false_and, and_false, Bool.false_eq_true, zca_some, zr0, zr100, Option.bind_some, zb_none, zb_some, zrc, or_true, true_or, eq_self, ne_eq, not_true_eq_false, not_false_eq_true, zrt_i, zrt_zb, zrt_b, zrt_c, zrt_l, zrt_f, zrt_r, zrt_n, zrt_v, zft_0, zft_1, zft_zb, zft_3, zft_4, zft_5, zft_7r, zft_7n, iI_t, zb_i, zb_0, zb_1, Nat.reduceAdd, Nat.reduceLeDiff, Nat.reduceEqDiff, Nat.reduceSub, Int.reduceNeg, iI_add, iI_sub, iI_mul, iI_neg, iI_n, zbz, zchar_id, zin, zwr_s, zwr_a, zwr_i, if_pos, if_neg, Int.toNat_natCast, Int.natCast_zero, z137_b0, z137_b1, z137_b2, g0, e132, zt5, zc32, zc33, zc40, zc42, zc43]
  · have hst : lySt D e t = D 41 e := if_neg g0
    have v4 := v4 g0
    unfold mEv
    rw [hst, hln]
    by_cases g1 : t < D 41 e
    · rw [if_pos g1]
      have e135 := m135 (h := h) (f := t) (t := D 41 e) hC hn h21 (by omega) hr hb hv (by omega) (by omega)
      have o21 := (mGap_rp (f := t) (t := D 41 e) h21 hr).2
      have glen := (lyGap_p hC hE.2.2.2 hn (f := t) (t := D 41 e) (by omega) i1 i4).2.1
      have e132 := m132 (c := D 40 e) (ev := (e : Int)) (s := D 41 e) (en := D 41 e + (D 33 (D 40 e).toNat + D 42 e)) (h := h) (D := mGap D t (D 41 e) sp) (by omega) (by omega)
      have o40 : mGap D t (D 41 e) sp 40 e = D 40 e := mGap_o (by omega) (by omega)
      clear hC hE hn hr hI hb hv i1 i3 i4 i5 glen
      generalize mGap D t (D 41 e) sp = D1 at *
      simp (disch := first | omega | (simp (disch := omega) only [zwr_s, zwr_a, zwr_i]; omega)) only [zentry, zs0, zs1, zs2, zs3, zg_lo, zg_st, zg_st2, zg_ald, zg_ast, zs_ia, zs_i0, zcs, zg_ii, zi_max, zi_min, zi_abi, zi_abf, zi_fb, zi_bf, lget, lst, lst2, lc2, Option.map_some, zso, if_true, if_false, zc1, and_true, true_and, and_self, List.length_nil, List.length_cons, Nat.zero_le, reduceIte, reduceCtorEq, false_and, and_false, Bool.false_eq_true, zca_some, zr0, zr100, Option.bind_some, zb_none, zb_some, zrc, or_true, true_or, eq_self, ne_eq, not_true_eq_false, not_false_eq_true, zrt_i, zrt_zb, zrt_b, zrt_c, zrt_l, zrt_f, zrt_r, zrt_n, zrt_v, zft_0, zft_1, zft_zb, zft_3, zft_4, zft_5, zft_7r, zft_7n, iI_t, zb_i, zb_0, zb_1, Nat.reduceAdd, Nat.reduceLeDiff, Nat.reduceEqDiff, Nat.reduceSub, Int.reduceNeg, iI_add, iI_sub, iI_mul, iI_neg, iI_n, zbz, zchar_id, zin, zwr_s, zwr_a, zwr_i, if_pos, if_neg, Int.toNat_natCast, Int.natCast_zero, z137_b0, z137_b1, z137_b2, e132, e135, o40, zt5, zt3, zc32, zc33, zc40, zc41, zc42, zc43]
    · rw [if_neg g1]
      by_cases g2 : D 43 e = 99
      · rw [if_pos g2]
        have e133 := m133 (h := h) (t := D 41 e) (by omega) h21 (by omega) hr hb
        have o21 := (mCut_rp (t := D 41 e) sp D h21 hr).2
        have clen := lyCut_l (t := D 41 e) (sp := sp)
        have e132 := m132 (c := D 40 e) (ev := (e : Int)) (s := D 41 e) (en := D 41 e + (D 33 (D 40 e).toNat + D 42 e)) (h := h) (D := mCut (D 41 e) sp D) (by omega) (by omega)
        have o40 : mCut (D 41 e) sp D 40 e = D 40 e := mCut_o (by omega) (by omega) (by omega) (by omega) sp D
        clear hC hE hn hr hI hb hv i1 i4 i5
        generalize mCut (D 41 e) sp D = D1 at *
        simp (disch := first | omega | (simp (disch := omega) only [zwr_s, zwr_a, zwr_i]; omega)) only [zentry, zs0, zs1, zs2, zs3, zg_lo, zg_st, zg_st2, zg_ald, zg_ast, zs_ia, zs_i0, zcs, zg_ii, zi_max, zi_min, zi_abi, zi_abf, zi_fb, zi_bf, lget, lst, lst2, lc2, Option.map_some, zso, if_true, if_false, zc1, and_true, true_and, and_self, List.length_nil, List.length_cons, Nat.zero_le, reduceIte, reduceCtorEq, false_and, and_false, Bool.false_eq_true, zca_some, zr0, zr100, Option.bind_some, zb_none, zb_some, zrc, or_true, true_or, eq_self, ne_eq, not_true_eq_false, not_false_eq_true, zrt_i, zrt_zb, zrt_b, zrt_c, zrt_l, zrt_f, zrt_r, zrt_n, zrt_v, zft_0, zft_1, zft_zb, zft_3, zft_4, zft_5, zft_7r, zft_7n, iI_t, zb_i, zb_0, zb_1, Nat.reduceAdd, Nat.reduceLeDiff, Nat.reduceEqDiff, Nat.reduceSub, Int.reduceNeg, iI_add, iI_sub, iI_mul, iI_neg, iI_n, zbz, zchar_id, zin, zwr_s, zwr_a, zwr_i, if_pos, if_neg, Int.toNat_natCast, Int.natCast_zero, z137_b0, z137_b1, z137_b2, g2, e132, e133, o40, zt5, zt2, zc32, zc33, zc40, zc41, zc42, zc43]
      · rw [if_neg g2]
        by_cases g3 : D 43 e = 106
        · rw [if_pos g3]
          by_cases g4 : D 41 e + (D 33 (D 40 e).toNat + D 42 e) ≤ t
          · rw [if_pos g4]
            clear hC hE hn hr hI hb hv i1 i3 i4 i5
            simp (disch := first | omega | (simp (disch := omega) only [zwr_s, zwr_a, zwr_i]; omega)) only [zentry, zs0, zs1, zs2, zs3, zg_lo, zg_st, zg_st2, zg_ald, zg_ast, zs_ia, zs_i0, zcs, zg_ii, zi_max, zi_min, zi_abi, zi_abf, zi_fb, zi_bf, lget, lst, lst2, lc2, Option.map_some, zso, if_true, if_false, zc1, and_true, true_and, and_self, List.length_nil, List.length_cons, Nat.zero_le, reduceIte, reduceCtorEq, false_and, and_false, Bool.false_eq_true, zca_some, zr0, zr100, Option.bind_some, zb_none, zb_some, zrc, or_true, true_or, eq_self, ne_eq, not_true_eq_false, not_false_eq_true, zrt_i, zrt_zb, zrt_b, zrt_c, zrt_l, zrt_f, zrt_r, zrt_n, zrt_v, zft_0, zft_1, zft_zb, zft_3, zft_4, zft_5, zft_7r, zft_7n, iI_t, zb_i, zb_0, zb_1, Nat.reduceAdd, Nat.reduceLeDiff, Nat.reduceEqDiff, Nat.reduceSub, Int.reduceNeg, iI_add, iI_sub, iI_mul, iI_neg, iI_n, zbz, zchar_id, zin, zwr_s, zwr_a, zwr_i, if_pos, if_neg, Int.toNat_natCast, Int.natCast_zero, z137_b0, z137_b1, z137_b2, g2, g3, zt5, zt2, zc32, zc33, zc40, zc41, zc42, zc43]
          · rw [if_neg g4]
            have e132 : ∀ z : Int, zc 132 5 [.ref 32, .int (Int32.ofInt (D 40 e)), .int (Int32.ofInt (e : Int)), .int (Int32.ofInt t), .int (Int32.ofInt (D 41 e + (D 33 (D 40 e).toNat + D 42 e)))] (zV h (zwr D 64 e z)) = some (.inl none, zV h (mLays (zwr D 64 e z) (D 40 e) e t (D 41 e + (D 33 (D 40 e).toNat + D 42 e)))) := fun z => m132 (by rw [zwr_a (by omega)]; omega) (by omega)
            clear hC hE hn hr hI hb hv i1 i3 i4 i5
            by_cases g5 : D 41 e < t
            · rw [zb_t g5]
              simp (disch := first | omega | (simp (disch := omega) only [zwr_s, zwr_a, zwr_i]; omega)) only [zentry, zs0, zs1, zs2, zs3, zg_lo, zg_st, zg_st2, zg_ald, zg_ast, zs_ia, zs_i0, zcs, zg_ii, zi_max, zi_min, zi_abi, zi_abf, zi_fb, zi_bf, lget, lst, lst2, lc2, Option.map_some, zso, if_true, if_false, zc1, and_true, true_and, and_self, List.length_nil, List.length_cons, Nat.zero_le, reduceIte, reduceCtorEq, false_and, and_false, Bool.false_eq_true, zca_some, zr0, zr100, Option.bind_some, zb_none, zb_some, zrc, or_true, true_or, eq_self, ne_eq, not_true_eq_false, not_false_eq_true, zrt_i, zrt_zb, zrt_b, zrt_c, zrt_l, zrt_f, zrt_r, zrt_n, zrt_v, zft_0, zft_1, zft_zb, zft_3, zft_4, zft_5, zft_7r, zft_7n, iI_t, zb_i, zb_0, zb_1, Nat.reduceAdd, Nat.reduceLeDiff, Nat.reduceEqDiff, Nat.reduceSub, Int.reduceNeg, iI_add, iI_sub, iI_mul, iI_neg, iI_n, zbz, zchar_id, zin, zwr_s, zwr_a, zwr_i, if_pos, if_neg, Int.toNat_natCast, Int.natCast_zero, z137_b0, z137_b1, z137_b2, g2, g3, e132, zt5, zt2, zc32, zc33, zc40, zc41, zc42, zc43, zc64]
            · rw [zb_f g5]
              simp (disch := first | omega | (simp (disch := omega) only [zwr_s, zwr_a, zwr_i]; omega)) only [zentry, zs0, zs1, zs2, zs3, zg_lo, zg_st, zg_st2, zg_ald, zg_ast, zs_ia, zs_i0, zcs, zg_ii, zi_max, zi_min, zi_abi, zi_abf, zi_fb, zi_bf, lget, lst, lst2, lc2, Option.map_some, zso, if_true, if_false, zc1, and_true, true_and, and_self, List.length_nil, List.length_cons, Nat.zero_le, reduceIte, reduceCtorEq, false_and, and_false, Bool.false_eq_true, zca_some, zr0, zr100, Option.bind_some, zb_none, zb_some, zrc, or_true, true_or, eq_self, ne_eq, not_true_eq_false, not_false_eq_true, zrt_i, zrt_zb, zrt_b, zrt_c, zrt_l, zrt_f, zrt_r, zrt_n, zrt_v, zft_0, zft_1, zft_zb, zft_3, zft_4, zft_5, zft_7r, zft_7n, iI_t, zb_i, zb_0, zb_1, Nat.reduceAdd, Nat.reduceLeDiff, Nat.reduceEqDiff, Nat.reduceSub, Int.reduceNeg, iI_add, iI_sub, iI_mul, iI_neg, iI_n, zbz, zchar_id, zin, zwr_s, zwr_a, zwr_i, if_pos, if_neg, Int.toNat_natCast, Int.natCast_zero, z137_b0, z137_b1, z137_b2, g2, g3, e132, zt5, zt2, zc32, zc33, zc40, zc41, zc42, zc43, zc64]
        · rw [if_neg g3]
          have e132 := m132 (c := D 40 e) (ev := (e : Int)) (s := t) (en := t + (D 33 (D 40 e).toNat + D 42 e)) (h := h) (D := D) (by omega) (by omega)
          clear hC hE hn hr hI hb hv i1 i3 i4 i5
          simp (disch := first | omega | (simp (disch := omega) only [zwr_s, zwr_a, zwr_i]; omega)) only [zentry, zs0, zs1, zs2, zs3, zg_lo, zg_st, zg_st2, zg_ald, zg_ast, zs_ia, zs_i0, zcs, zg_ii, zi_max, zi_min, zi_abi, zi_abf, zi_fb, zi_bf, lget, lst, lst2, lc2, Option.map_some, zso, if_true, if_false, zc1, and_true, true_and, and_self, List.length_nil, List.length_cons, Nat.zero_le, reduceIte, reduceCtorEq, false_and, and_false, Bool.false_eq_true, zca_some, zr0, zr100, Option.bind_some, zb_none, zb_some, zrc, or_true, true_or, eq_self, ne_eq, not_true_eq_false, not_false_eq_true, zrt_i, zrt_zb, zrt_b, zrt_c, zrt_l, zrt_f, zrt_r, zrt_n, zrt_v, zft_0, zft_1, zft_zb, zft_3, zft_4, zft_5, zft_7r, zft_7n, iI_t, zb_i, zb_0, zb_1, Nat.reduceAdd, Nat.reduceLeDiff, Nat.reduceEqDiff, Nat.reduceSub, Int.reduceNeg, iI_add, iI_sub, iI_mul, iI_neg, iI_n, zbz, zchar_id, zin, zwr_s, zwr_a, zwr_i, if_pos, if_neg, Int.toNat_natCast, Int.natCast_zero, z137_b0, z137_b1, z137_b2, g2, g3, e132, zt5, zt2, zc32, zc33, zc40, zc41, zc42, zc43]

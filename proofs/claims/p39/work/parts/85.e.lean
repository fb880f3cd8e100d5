/-! the law's isFilled(o, gap, level) is true -/
theorem faR_s {m : Nat} : ∀ {n c : Nat} {l : Int} {q : Nat}, faR m n c l = some q → c ≤ q ∧ q < c + n ∧ m.testBit q = true
  | 0, _, _, _, h => nomatch h
  | n + 1, c, l, q, h => by
    unfold faR at h
    split at h
    · rename_i g
      split at h
      · cases h
        exact ⟨Nat.le_refl _, by omega, g⟩
      · have := faR_s h
        exact ⟨by omega, by omega, this.2.2⟩
    · have := faR_s h
      exact ⟨by omega, by omega, this.2.2⟩
theorem faR_n {m : Nat} : ∀ {n c : Nat} {l : Int} {q q' : Nat}, 0 ≤ l → faR m n c l = some q → faR m n c (l + 1) = some q' → q < q'
  | 0, _, _, _, _, _, h, _ => nomatch h
  | n + 1, c, l, q, q', hl, h, h' => by
    unfold faR at h h'
    by_cases g : m.testBit c = true
    · rw [if_pos g] at h h'
      rw [if_neg (show ¬ l + 1 = 0 by omega)] at h'
      by_cases g2 : l = 0
      · rw [if_pos g2] at h
        cases h
        have := faR_s h'
        omega
      · rw [if_neg g2] at h
        rw [show l + 1 - 1 = l - 1 + 1 by omega] at h'
        exact faR_n (by omega) h h'
    · rw [if_neg g] at h h'
      exact faR_n hl h h'
theorem faR_p {m : Nat} : ∀ {n c : Nat} {l : Int}, 0 ≤ l → (l < popB n (m / 2 ^ c) → ∃ q, faR m n c l = some q) ∧ ((popB n (m / 2 ^ c) : Int) ≤ l → faR m n c l = none)
  | 0, c, l, hl => ⟨fun q => by have e : popB 0 (m / 2 ^ c) = 0 := rfl; rw [e] at q; omega, fun _ => rfl⟩
  | n + 1, c, l, hl => by
    have hp : popB (n + 1) (m / 2 ^ c) = m / 2 ^ c % 2 + popB n (m / 2 ^ (c + 1)) := by rw [popB, tb_half]
    have hb := tb_div m c
    rw [hp]
    unfold faR
    by_cases g : m.testBit c = true
    · rw [if_pos g]
      have g2 : m / 2 ^ c % 2 = 1 := by
        rw [g] at hb
        simpa using hb.symm
      by_cases g3 : l = 0
      · rw [if_pos g3]
        exact ⟨fun _ => ⟨c, rfl⟩, fun q => by omega⟩
      · rw [if_neg g3]
        have ih := faR_p (m := m) (n := n) (c := c + 1) (l := l - 1) (by omega)
        exact ⟨fun q => ih.1 (by omega), fun q => ih.2 (by omega)⟩
    · rw [if_neg g]
      have g2 : m / 2 ^ c % 2 = 0 := by
        have : m.testBit c = false := by
          cases q : m.testBit c with
          | false => rfl
          | true => exact absurd q g
        rw [this] at hb
        have := hb.symm
        simp at this
        omega
      have ih := faR_p (m := m) (n := n) (c := c + 1) (l := l) hl
      exact ⟨fun q => ih.1 (by omega), fun q => ih.2 (by omega)⟩
theorem subC_b {D : zD} {m : Nat} : ∀ (n c : Nat), subC (clsF D c n) (m / 2 ^ c) = true → ∀ i, c ≤ i → i < c + n → m.testBit i = true → zflag D i = true
  | 0, c, _, i, h1, h2, _ => by omega
  | n + 1, c, h, i, h1, h2, hb => by
    rw [clsF] at h
    obtain ⟨s1, s2⟩ := subC_s h
    rw [tb_half] at s1
    by_cases g : i = c
    · subst g
      have ht := tb_div m i
      rw [hb] at ht
      cases q : zflag D i with
      | true => rfl
      | false =>
        have z := s2 q
        rw [z] at ht
        simp at ht
    · exact subC_b n (c + 1) s1 i (by omega) (by omega) hb
theorem best_m {D : zD} (hO : mOk D) {gap lev : Int} (h : mAsT D gap lev = 0) : mch (clsD D) gap (bestM D gap lev) ∧ bestM D gap lev ≠ 0 ∧ popB 12 (bestM D gap lev) = popB (D 32 7).toNat (bestM D gap lev) := by
  have ok := mAsT_0 h
  have hb := bestM_B hO.1 ok.1.1 ok.1.2 hO.2.2.1
  have h0 : bestM D gap lev ≠ 0 := by
    intro q
    unfold mAsT at h
    rw [if_pos ok.1, if_pos q] at h
    omega
  rcases hb with ⟨q, -⟩ | ⟨q, -⟩
  · exact absurd q h0
  · refine ⟨q, h0, ?_⟩
    have h1 := (mch_lt hO.1 q).1
    have h2 := clsD_len hO.1.1
    have h3 : (clsD D).length ≤ 12 := by have := hO.1.1; omega
    have := popB_ext (clsD D).length (12 - (clsD D).length) _ h1
    rw [show (clsD D).length + (12 - (clsD D).length) = 12 by omega] at this
    rw [this, h2]
theorem mFa_p {D : zD} (hO : mOk D) {gap lev l : Int} (h : mAsT D gap lev = 0) (hl : 0 ≤ l) : (l < popB 12 (bestM D gap lev) → ∃ q, mFa D gap lev l = some q ∧ mPlT D (q : Int) = 2 ∧ (q : Int) < 12) ∧ ((popB 12 (bestM D gap lev) : Int) ≤ l → mFa D gap lev l = none) := by
  obtain ⟨b1, b2, b3⟩ := best_m hO h
  rw [b3]
  have f := faR_p (m := bestM D gap lev) (n := (D 32 7).toNat) (c := 0) (l := l) hl
  rw [Nat.pow_zero, Nat.div_one] at f
  refine ⟨fun q => ?_, f.2⟩
  obtain ⟨x, hx⟩ := f.1 q
  have s := faR_s hx
  have hz := subC_b (D := D) (m := bestM D gap lev) (D 32 7).toNat 0 (by rw [Nat.pow_zero, Nat.div_one]; exact b1.1) x s.1 s.2.1 s.2.2
  have h38 := ((zflag_d (d := D 32 16) rfl).mp hz).1
  have h7 := hO.1.1
  refine ⟨x, hx, ?_, by omega⟩
  unfold mPlT
  rw [if_pos ⟨by omega, by omega⟩, Int.toNat_natCast, if_pos h38]
abbrev fl3 (g l M bf k : Int) (x6 : Option Value) : zL := [some (.ref 3), some (.int (Int32.ofInt g)), some (.int (Int32.ofInt l)), some (.int (Int32.ofInt M)), some (.int (Int32.ofInt bf)), some (.int (Int32.ofInt k)), x6]
section WRP
variable {L : Nat} {xs : Nat → Int32} {c : Nat} {G : zD}
set_option maxRecDepth 20000 in
set_option maxRecDepth 20000 in
theorem fl_1 {gap lev bf : Int} {k n q : Nat} {x6 : Option Value} {H : zH} (hg : iR gap) (hl : iR lev) (h : mAsT G gap lev = 0) (hk : (k : Int) < popB 12 (bestM G gap lev)) (hq : mFa G gap lev (k : Int) = some q) (hq2 : mPlT G (q : Int) = 2) (hq3 : (q : Int) < 12) (hb : -1 ≤ bf ∧ bf < (q : Int)) (p : St L xs c n G H) : ∃ H1, zx 242 14 (fl3 gap lev (popB 12 (bestM G gap lev) : Int) bf (k : Int) x6) [] H = zx 242 14 (fl3 gap lev (popB 12 (bestM G gap lev) : Int) (q : Int) ((k : Int) + 1) (some (.int (Int32.ofInt (q : Int))))) [] H1 ∧ St L xs c (n + 2) G H1 := by
  have pl := popB_le 12 (bestM G gap lev)
  have hm : (popB 12 (bestM G gap lev) : Int) ≤ 12 := by omega
  obtain ⟨H1, e1, p1⟩ := w232c (gap := gap) (lev := lev) (ix := (k : Int)) p hg hl ⟨by omega, by omega⟩
  obtain ⟨H2, e2, p2⟩ := w223a (x := (q : Int)) p1 ⟨by omega, by omega⟩
  have t0 : mFaT G gap lev (k : Int) = 0 := by
    unfold mFaT
    rw [if_pos h, hq]
  have v0 : mFaV G gap lev (k : Int) = (q : Int) := by
    unfold mFaV
    rw [if_pos h, hq]
  rw [wv0 t0, v0] at e1
  rw [wv2 hq2] at e2
  refine ⟨H2, ?_, p2⟩
  clear p p1 p2 t0 v0 hq hq2 h pl
  generalize (popB 12 (bestM G gap lev) : Int) = M at *
  generalize (q : Int) = q at *
  rw [z242_14]
  simp (disch := first | omega | (simp (disch := omega) only [zwr_s, zwr_a, zwr_i, zn_put, zn_new, zn_fil, zn_chg, zV_n]; omega)) only [zentry, zs0, zs1, zs2, zs3, zg_lo, zg_st, zg_st2, zg_ald, zg_ast, zs_ia, zs_i0, zg_ii, zi_max, zi_min, zi_abi, zi_abf, zi_fb, zi_bf, lget, lst, lst2, lc2, Option.map_some, zso, if_true, if_false, zc1, and_true, true_and, and_self, List.length_nil, List.length_cons, Nat.zero_le, reduceIte, reduceCtorEq, false_and, and_false, Bool.false_eq_true, zca_some, zr0, zr100, Option.bind_some, zb_none, zb_some, zrc, or_true, true_or, eq_self, ne_eq, not_true_eq_false, not_false_eq_true, zrt_i, zrt_zb, zrt_b, zrt_c, zrt_l, zrt_f, zrt_r, zrt_n, zrt_v, zft_0, zft_1, zft_zb, zft_3, zft_4, zft_5, zft_7r, zft_7n, iI_t, zb_i, zb_0, zb_1, Nat.reduceAdd, Nat.reduceLeDiff, Nat.reduceEqDiff, Nat.reduceSub, Int.reduceNeg, iI_add, iI_sub, iI_mul, iI_neg, zbz, zchar_id, zin, zwr_s, zwr_a, zwr_i, if_pos, if_neg, Int.toNat_natCast, Int.natCast_zero, Int.reduceToNat, z242, zt3, zt4, e1, e2]
theorem fl_l {gap lev : Int} (hg : iR gap) (hl : iR lev) (h : mAsT G gap lev = 0) : ∀ (m k n : Nat) (bf : Int) (x6 : Option Value) (H : zH), k + m = popB 12 (bestM G gap lev) → (-1 ≤ bf ∧ ∀ q : Nat, mFa G gap lev (k : Int) = some q → bf < q) → St L xs c n G H → ∃ (bf1 : Int) (y6 : Option Value) (H1 : zH), zx 242 14 (fl3 gap lev (popB 12 (bestM G gap lev) : Int) bf (k : Int) x6) [] H = zx 242 14 (fl3 gap lev (popB 12 (bestM G gap lev) : Int) bf1 (popB 12 (bestM G gap lev) : Int) y6) [] H1 ∧ St L xs c (n + 2 * m) G H1
  | 0, k, n, bf, x6, H, hk, hb, p => ⟨bf, x6, H, by rw [← hk]; rfl, p⟩
  | m + 1, k, n, bf, x6, H, hk, hb, p => by
    obtain ⟨q, hq, hq2, hq3⟩ := (mFa_p p.ok.1 h (l := (k : Int)) (by omega)).1 (by omega)
    obtain ⟨H1, e1, p1⟩ := fl_1 (x6 := x6) hg hl h (by omega) hq hq2 hq3 ⟨hb.1, hb.2 q hq⟩ p
    obtain ⟨bf1, y6, H2, e2, p2⟩ := fl_l hg hl h m (k + 1) _ (q : Int) _ H1 (by omega) ⟨by omega, fun q' h' => Int.ofNat_lt.mpr (faR_n (by omega) hq h')⟩ p1
    exact ⟨bf1, y6, H2, e1.trans e2, p2.le (by omega)⟩
theorem of_m2 : (Op.cmpValue (FP.fcmp (UInt32.ofNat 3221225472) (UInt32.ofNat 3221225472)) .l).toInt = 0 := by decide +kernel
set_option maxRecDepth 20000 in
set_option maxRecDepth 20000 in
theorem w242 {gap lev : Int} {n : Nat} {H : zH} (hg : 1 ≤ gap ∧ gap ≤ 3600) (hl : -60 ≤ lev ∧ lev ≤ 0) (p : St L xs c n G H) : ∃ H1, zc 242 7 [.ref 3, .int (Int32.ofInt gap), .int (Int32.ofInt lev)] H = some (.inl (some (.int (Int32.ofInt 1))), H1) ∧ St L xs c (n + 40) G H1 := by
  have hg' : iR gap := ⟨by omega, by omega⟩
  have hl' : iR lev := ⟨by omega, by omega⟩
  obtain ⟨H1, e1, p1⟩ := w232a (gap := gap) (lev := lev) p hg' hl'
  by_cases h : mAsT G gap lev = 0
  · have b := best_m p.ok.1 h
    have pl := popB_le 12 (bestM G gap lev)
    have pn : popB 12 (bestM G gap lev) ≠ 0 := fun w => b.2.1 (popB_z 12 _ (mch_lt p.ok.1.1 b.1).2.1 w)
    rw [wv0 h, if_pos h] at e1
    obtain ⟨bf, y6, H2, e2, p2⟩ := fl_l hg' hl' h (popB 12 (bestM G gap lev)) 0 _ (-1) none H1 (by omega) ⟨Int.le_refl _, fun q _ => by omega⟩ p1
    obtain ⟨H3, e3, p3⟩ := w232b (gap := gap) (lev := lev) p2 hg' hl'
    obtain ⟨w, H4, e4, p4, hw⟩ := w233 p3 hg' hl'
    obtain ⟨H5, e5, p5⟩ := w232c (gap := gap) (lev := lev) (ix := (popB 12 (bestM G gap lev) : Int)) p4 hg' hl' ⟨by omega, by omega⟩
    have t2 : mFaT G gap lev (popB 12 (bestM G gap lev) : Int) = 2 := by
      unfold mFaT
      rw [if_pos h, (mFa_p p.ok.1 h (by omega)).2 (Int.le_refl _)]
    rw [wv0 h, if_pos h] at e3
    rw [wv2 t2] at e5
    have hw2 : ¬ (Op.cmpValue (FP.fcmp w FP.fconst0) .l).toInt < 0 := by
      rcases hw with ⟨-, w1, w2⟩ | ⟨w1, -⟩ | ⟨w1, -⟩
      · have n0 : FP.Core.fIsNaN FP.fconst0 = false := by decide +kernel
        have f0 : FP.Core.fkey FP.fconst0 = 0 := by decide +kernel
        rw [fl_lt w1 n0]
        omega
      · omega
      · omega
    refine ⟨H5, ?_, p5.le (by omega)⟩
    have hM : 1 ≤ (popB 12 (bestM G gap lev) : Int) ∧ (popB 12 (bestM G gap lev) : Int) ≤ 12 := by omega
    have f0 : zc 242 7 [.ref 3, .int (Int32.ofInt gap), .int (Int32.ofInt lev)] H = zx 242 14 (fl3 gap lev (popB 12 (bestM G gap lev) : Int) (-1) ((0 : Nat) : Int) none) [] H1 := by
      show _ = zx 242 14 (fl3 gap lev (popB 12 (bestM G gap lev) : Int) (-1) 0 none) [] H1
      clear e2 e3 e4 e5 p p1 p2 p3 p4 p5 b t2 h hw
      generalize (popB 12 (bestM G gap lev) : Int) = M at *
      rw [zc]
      simp (disch := first | omega | (simp (disch := omega) only [zwr_s, zwr_a, zwr_i, zn_put, zn_new, zn_fil, zn_chg, zV_n]; omega)) only [zentry, zs0, zs1, zs2, zs3, zg_lo, zg_st, zg_st2, zg_ald, zg_ast, zs_ia, zs_i0, zg_ii, zi_max, zi_min, zi_abi, zi_abf, zi_fb, zi_bf, lget, lst, lst2, lc2, Option.map_some, zso, if_true, if_false, zc1, and_true, true_and, and_self, List.length_nil, List.length_cons, Nat.zero_le, reduceIte, reduceCtorEq, false_and, and_false, Bool.false_eq_true, zca_some, zr0, zr100, Option.bind_some, zb_none, zb_some, zrc, or_true, true_or, eq_self, ne_eq, not_true_eq_false, not_false_eq_true, zrt_i, zrt_zb, zrt_b, zrt_c, zrt_l, zrt_f, zrt_r, zrt_n, zrt_v, zft_0, zft_1, zft_zb, zft_3, zft_4, zft_5, zft_7r, zft_7n, iI_t, zb_i, zb_0, zb_1, Nat.reduceAdd, Nat.reduceLeDiff, Nat.reduceEqDiff, Nat.reduceSub, Int.reduceNeg, iI_add, iI_sub, iI_mul, iI_neg, zbz, zchar_id, zin, zwr_s, zwr_a, zwr_i, if_pos, if_neg, Int.toNat_natCast, Int.natCast_zero, Int.reduceToNat, z242, zt4, e1]
    rw [f0, e2]
    clear f0 e1 e2 p p1 p2 p3 p4 p5 b t2 h hw pl pn
    generalize (popB 12 (bestM G gap lev) : Int) = M at *
    generalize hv : Op.cmpValue (FP.fcmp w FP.fconst0) .l = v at *
    rw [z242_14]
    simp (disch := first | omega | (simp (disch := omega) only [zwr_s, zwr_a, zwr_i, zn_put, zn_new, zn_fil, zn_chg, zV_n]; omega)) only [zentry, zs0, zs1, zs2, zs3, zg_lo, zg_st, zg_st2, zg_ald, zg_ast, zs_ia, zs_i0, zg_ii, zi_max, zi_min, zi_abi, zi_abf, zi_fb, zi_bf, lget, lst, lst2, lc2, Option.map_some, zso, if_true, if_false, zc1, and_true, true_and, and_self, List.length_nil, List.length_cons, Nat.zero_le, reduceIte, reduceCtorEq, false_and, and_false, Bool.false_eq_true, zca_some, zr0, zr100, Option.bind_some, zb_none, zb_some, zrc, or_true, true_or, eq_self, ne_eq, not_true_eq_false, not_false_eq_true, zrt_i, zrt_zb, zrt_b, zrt_c, zrt_l, zrt_f, zrt_r, zrt_n, zrt_v, zft_0, zft_1, zft_zb, zft_3, zft_4, zft_5, zft_7r, zft_7n, iI_t, zb_i, zb_0, zb_1, Nat.reduceAdd, Nat.reduceLeDiff, Nat.reduceEqDiff, Nat.reduceSub, Int.reduceNeg, iI_add, iI_sub, iI_mul, iI_neg, zbz, zchar_id, zin, zwr_s, zwr_a, zwr_i, if_pos, if_neg, Int.toNat_natCast, Int.natCast_zero, Int.reduceToNat, z242, zt3, zt4, e3, e4, e5, hv, hw2]
  · have h2 : mAsT G gap lev = 2 := by
      unfold mAsT at h ⊢
      rw [if_pos ⟨hg, hl⟩] at h ⊢
      split at h
      · rename_i q
        rw [if_pos q]
      · exact absurd rfl h
    rw [wv2 h2] at e1
    obtain ⟨H2, e2, p2⟩ := w232b (gap := gap) (lev := lev) p1 hg' hl'
    obtain ⟨w, H3, e3, p3, hw⟩ := w233 p2 hg' hl'
    rw [wv2 h2] at e2
    have ew : w = UInt32.ofNat 3221225472 := by
      rcases hw with ⟨w1, -⟩ | ⟨w1, -⟩ | ⟨-, w1⟩
      · omega
      · omega
      · exact w1
    subst ew
    have h1 := of_m2
    refine ⟨H3, ?_, p3.le (by omega)⟩
    clear p p1 p2 p3 hw h h2
    generalize hv : Op.cmpValue (FP.fcmp (UInt32.ofNat 3221225472) (UInt32.ofNat 3221225472)) .l = v at *
    have f0 : zc 242 7 [.ref 3, .int (Int32.ofInt gap), .int (Int32.ofInt lev)] H = zx 242 14 (fl3 gap lev (-1002) (-1) 0 none) [] H1 := by
      clear e2 e3
      rw [zc]
      simp (disch := first | omega | (simp (disch := omega) only [zwr_s, zwr_a, zwr_i, zn_put, zn_new, zn_fil, zn_chg, zV_n]; omega)) only [zentry, zs0, zs1, zs2, zs3, zg_lo, zg_st, zg_st2, zg_ald, zg_ast, zs_ia, zs_i0, zg_ii, zi_max, zi_min, zi_abi, zi_abf, zi_fb, zi_bf, lget, lst, lst2, lc2, Option.map_some, zso, if_true, if_false, zc1, and_true, true_and, and_self, List.length_nil, List.length_cons, Nat.zero_le, reduceIte, reduceCtorEq, false_and, and_false, Bool.false_eq_true, zca_some, zr0, zr100, Option.bind_some, zb_none, zb_some, zrc, or_true, true_or, eq_self, ne_eq, not_true_eq_false, not_false_eq_true, zrt_i, zrt_zb, zrt_b, zrt_c, zrt_l, zrt_f, zrt_r, zrt_n, zrt_v, zft_0, zft_1, zft_zb, zft_3, zft_4, zft_5, zft_7r, zft_7n, iI_t, zb_i, zb_0, zb_1, Nat.reduceAdd, Nat.reduceLeDiff, Nat.reduceEqDiff, Nat.reduceSub, Int.reduceNeg, iI_add, iI_sub, iI_mul, iI_neg, zbz, zchar_id, zin, zwr_s, zwr_a, zwr_i, if_pos, if_neg, Int.toNat_natCast, Int.natCast_zero, Int.reduceToNat, z242, zt4, e1]
    rw [f0, z242_14]
    clear f0 e1
    simp (disch := first | omega | (simp (disch := omega) only [zwr_s, zwr_a, zwr_i, zn_put, zn_new, zn_fil, zn_chg, zV_n]; omega)) only [zentry, zs0, zs1, zs2, zs3, zg_lo, zg_st, zg_st2, zg_ald, zg_ast, zs_ia, zs_i0, zg_ii, zi_max, zi_min, zi_abi, zi_abf, zi_fb, zi_bf, lget, lst, lst2, lc2, Option.map_some, zso, if_true, if_false, zc1, and_true, true_and, and_self, List.length_nil, List.length_cons, Nat.zero_le, reduceIte, reduceCtorEq, false_and, and_false, Bool.false_eq_true, zca_some, zr0, zr100, Option.bind_some, zb_none, zb_some, zrc, or_true, true_or, eq_self, ne_eq, not_true_eq_false, not_false_eq_true, zrt_i, zrt_zb, zrt_b, zrt_c, zrt_l, zrt_f, zrt_r, zrt_n, zrt_v, zft_0, zft_1, zft_zb, zft_3, zft_4, zft_5, zft_7r, zft_7n, iI_t, zb_i, zb_0, zb_1, Nat.reduceAdd, Nat.reduceLeDiff, Nat.reduceEqDiff, Nat.reduceSub, Int.reduceNeg, iI_add, iI_sub, iI_mul, iI_neg, zbz, zchar_id, zin, zwr_s, zwr_a, zwr_i, if_pos, if_neg, Int.toNat_natCast, Int.natCast_zero, Int.reduceToNat, z242, zt3, zt4, e2, e3, hv, h1]
end WRP

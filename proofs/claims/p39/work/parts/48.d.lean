/-! the reference moves an event: the whole -/
def mPut (D D0 : zD) (p t : Nat) : zD := zwr (zwr (zwr (zwr (zwr D 40 t (D0 40 p)) 41 t (D0 41 p)) 42 t (D0 42 p)) 43 t (D0 43 p)) 57 t (D0 57 p)
set_option maxRecDepth 20000 in
theorem m117_2 {p t : Int} {q : Nat} {by_ e9 : Int} {h3 : zH} {D D0 : zD} (hp : 0 ≤ p ∧ p < 12) (ht : 0 ≤ t ∧ t < 12) (hq : 70 ≤ q) (h43 : 0 ≤ D0 43 p.toNat ∧ D0 43 p.toNat ≤ 65535)
    (k1 : zk h3 q = 20) (k2 : zl h3 q = 5) (k3 : zk h3 (q + 1) = 20) (k4 : zl h3 (q + 1) = 9) (v0 : zm h3 q 0 = .int (Int32.ofInt (D0 40 p.toNat))) (v1 : zm h3 q 1 = .int (Int32.ofInt (D0 41 p.toNat))) (v2 : zm h3 q 2 = .int (Int32.ofInt (D0 42 p.toNat))) (v3 : zm h3 q 3 = .int (Int32.ofInt (D0 43 p.toNat))) (v4 : zm h3 q 4 = .int (Int32.ofInt (D0 57 p.toNat))) (vr : ∀ k, k < 9 → zm h3 (q + 1) k = .int (Int32.ofInt (D0 (45 + p.toNat) k))) :
    zx 117 161 [some (.ref 32), some (.int (Int32.ofInt p)), some (.int (Int32.ofInt t)), some (.ref q), some (.ref (q + 1)), some (.int (Int32.ofInt by_)), some (.int (Int32.ofInt e9))] [] (zV h3 D) = some (.inl (some (.int (Int32.ofInt (((t - p).natAbs : Nat) : Int)))), zV h3 (mBk (mPut D D0 p.toNat t.toNat) D0 p.toNat t.toNat 9)) := by
  have w1 : ∀ D, zk (zV h3 D) q = 20 := fun D => by rw [zV_k (by omega), k1]
  have w2 : ∀ D, zl (zV h3 D) q = 5 := fun D => by rw [zV_l (by omega), k2]
  have w3 : ∀ D, zk (zV h3 D) (q + 1) = 20 := fun D => by rw [zV_k (by omega), k3]
  have w4 : ∀ D, zl (zV h3 D) (q + 1) = 9 := fun D => by rw [zV_l (by omega), k4]
  have u0 : ∀ D, zm (zV h3 D) q 0 = .int (Int32.ofInt (D0 40 p.toNat)) := fun D => by rw [zV_m (by omega), v0]
  have u1 : ∀ D, zm (zV h3 D) q 1 = .int (Int32.ofInt (D0 41 p.toNat)) := fun D => by rw [zV_m (by omega), v1]
  have u2 : ∀ D, zm (zV h3 D) q 2 = .int (Int32.ofInt (D0 42 p.toNat)) := fun D => by rw [zV_m (by omega), v2]
  have u3 : ∀ D, zm (zV h3 D) q 3 = .int (Int32.ofInt (D0 43 p.toNat)) := fun D => by rw [zV_m (by omega), v3]
  have u4 : ∀ D, zm (zV h3 D) q 4 = .int (Int32.ofInt (D0 57 p.toNat)) := fun D => by rw [zV_m (by omega), v4]
  have ur : ∀ D k, k < 9 → zm (zV h3 D) (q + 1) k = .int (Int32.ofInt (D0 (45 + p.toNat) k)) := fun D k hk => by rw [zV_m (by omega), vr k hk]
  have st : zx 117 161 [some (.ref 32), some (.int (Int32.ofInt p)), some (.int (Int32.ofInt t)), some (.ref q), some (.ref (q + 1)), some (.int (Int32.ofInt by_)), some (.int (Int32.ofInt e9))] [] (zV h3 D) = zx 117 210 [some (.ref 32), some (.int (Int32.ofInt p)), some (.int (Int32.ofInt t)), some (.ref q), some (.ref (q + 1)), some (.int (Int32.ofInt by_)), some (.int (Int32.ofInt ((0 : Nat) : Int)))] [] (zV h3 (mPut D D0 p.toNat t.toNat)) := by
    unfold mPut
    clear k1 k2 k3 k4 v0 v1 v2 v3 v4 vr ur w3 w4
    simp (disch := first | omega | (simp (disch := omega) only [zwr_s, zwr_a, zwr_i, zn_put, zn_new, zn_fil, zn_chg, zV_n]; omega)) only [zentry, zs0, zs1, zs2, zs3, zg_lo, zg_st, zg_st2, zg_ald, zg_ast, zs_ia, zs_i0, zcs, zg_ii, zi_max, zi_min, zi_abi, zi_abf, zi_fb, zi_bf, lget, lst, lst2, lc2, Option.map_some, zso, if_true, if_false, zc1, and_true, true_and, and_self, List.length_nil, List.length_cons, Nat.zero_le, reduceIte, reduceCtorEq, false_and, and_false, Bool.false_eq_true, zca_some, zr0, zr100, Option.bind_some, zb_none, zb_some, zrc, or_true, true_or, eq_self, ne_eq, not_true_eq_false, not_false_eq_true, zrt_i, zrt_zb, zrt_b, zrt_c, zrt_l, zrt_f, zrt_r, zrt_n, zrt_v, zft_0, zft_1, zft_zb, zft_3, zft_4, zft_5, zft_7r, zft_7n, iI_t, zb_i, zb_0, zb_1, Nat.reduceAdd, Nat.reduceLeDiff, Nat.reduceEqDiff, Nat.reduceSub, Int.reduceNeg, iI_add, iI_sub, iI_mul, iI_neg, iI_n, zbz, zchar_id, zin, zwr_s, zwr_a, zwr_i, if_pos, if_neg, Int.toNat_natCast, Int.natCast_zero, Int.reduceToNat, z117_b0, z117_b1, z117_b2, w1, w2, u0, u1, u2, u3, u4, zc32, zc40, zc41, zc42, zc43, zc57]
  rw [st]
  have hloop := zloop (k := 117) (pc := 210) (fun i => [some (.ref 32), some (.int (Int32.ofInt p)), some (.int (Int32.ofInt t)), some (.ref q), some (.ref (q + 1)), some (.int (Int32.ofInt by_)), some (.int (Int32.ofInt (i : Int)))]) (fun i => zV h3 (mBk (mPut D D0 p.toNat t.toNat) D0 p.toNat t.toNat i)) 9 (fun i hi => by
    have uri := ur (mBk (mPut D D0 p.toNat t.toNat) D0 p.toNat t.toNat i) i hi
    conv => lhs; rw [z117_210]
    rw [← mBk_s]
    clear k1 k2 k3 k4 v0 v1 v2 v3 v4 vr ur st u0 u1 u2 u3 u4
    generalize mBk (mPut D D0 p.toNat t.toNat) D0 p.toNat t.toNat i = D1 at *
    simp (disch := first | omega | (simp (disch := omega) only [zwr_s, zwr_a, zwr_i, zn_put, zn_new, zn_fil, zn_chg, zV_n]; omega)) only [zentry, zs0, zs1, zs2, zs3, zg_lo, zg_st, zg_st2, zg_ald, zg_ast, zs_ia, zs_i0, zcs, zg_ii, zi_max, zi_min, zi_abi, zi_abf, zi_fb, zi_bf, lget, lst, lst2, lc2, Option.map_some, zso, if_true, if_false, zc1, and_true, true_and, and_self, List.length_nil, List.length_cons, Nat.zero_le, reduceIte, reduceCtorEq, false_and, and_false, Bool.false_eq_true, zca_some, zr0, zr100, Option.bind_some, zb_none, zb_some, zrc, or_true, true_or, eq_self, ne_eq, not_true_eq_false, not_false_eq_true, zrt_i, zrt_zb, zrt_b, zrt_c, zrt_l, zrt_f, zrt_r, zrt_n, zrt_v, zft_0, zft_1, zft_zb, zft_3, zft_4, zft_5, zft_7r, zft_7n, iI_t, zb_i, zb_0, zb_1, Nat.reduceAdd, Nat.reduceLeDiff, Nat.reduceEqDiff, Nat.reduceSub, Int.reduceNeg, iI_add, iI_sub, iI_mul, iI_neg, iI_n, zbz, zchar_id, zin, zwr_s, zwr_a, zwr_i, if_pos, if_neg, Int.toNat_natCast, Int.natCast_zero, Int.reduceToNat, z117_b0, z117_b1, z117_b2, w3, w4, uri, zc32, zc44, zc44r, zcR_k, zcR_l, zcR_m, zcR_p]) 9 (Nat.le_refl _)
  rw [mBk_0] at hloop
  refine Eq.trans hloop ?_
  rw [z117_210]
  clear k1 k2 k3 k4 v0 v1 v2 v3 v4 vr ur st u0 u1 u2 u3 u4 hloop
  generalize mBk (mPut D D0 p.toNat t.toNat) D0 p.toNat t.toNat 9 = D1 at *
  simp (disch := first | omega | (simp (disch := omega) only [zwr_s, zwr_a, zwr_i, zn_put, zn_new, zn_fil, zn_chg, zV_n]; omega)) only [zentry, zs0, zs1, zs2, zs3, zg_lo, zg_st, zg_st2, zg_ald, zg_ast, zs_ia, zs_i0, zg_ii, zi_max, zi_min, zi_abi, zi_abf, zi_fb, zi_bf, lget, lst, lst2, lc2, Option.map_some, zso, if_true, if_false, zc1, and_true, true_and, and_self, List.length_nil, List.length_cons, Nat.zero_le, reduceIte, reduceCtorEq, false_and, and_false, Bool.false_eq_true, zca_some, zr0, zr100, Option.bind_some, zb_none, zb_some, zrc, or_true, true_or, eq_self, ne_eq, not_true_eq_false, not_false_eq_true, zrt_i, zrt_zb, zrt_b, zrt_c, zrt_l, zrt_f, zrt_r, zrt_n, zrt_v, zft_0, zft_1, zft_zb, zft_3, zft_4, zft_5, zft_7r, zft_7n, iI_t, zb_i, zb_0, zb_1, Nat.reduceAdd, Nat.reduceLeDiff, Nat.reduceEqDiff, Nat.reduceSub, Int.reduceNeg, iI_add, iI_sub, iI_mul, iI_neg, zbz, zchar_id, zin, zwr_s, zwr_a, zwr_i, if_pos, if_neg, Int.toNat_natCast, Int.natCast_zero, Int.reduceToNat, z117_b0, z117_b1, z117_b2, zc32]
theorem mBk_mv {D : zD} {p t : Nat} (hp : p < 12) (ht : t < 12) {D1 : zD} (h1 : D1 = if p < t then mSD D p t else mSU D t p) : mBk (mPut (zwr D1 32 32 0) D p t) D p t 9 = zwr (mMvD D p t) 32 32 0 := by
  funext a i
  unfold mBk
  by_cases h2 : a = 45 + t ∧ i < 9
  · rw [if_pos h2, zwr_a (by omega)]
    unfold mMvD
    rw [if_neg (by omega), if_pos h2]
  · rw [if_neg h2]
    unfold mPut
    by_cases h3 : (a = 40 ∨ a = 41 ∨ a = 42 ∨ a = 43 ∨ a = 57) ∧ i = t
    · rw [zwr_a (D := mMvD D p t) (by omega)]
      unfold mMvD
      rw [if_pos h3]
      obtain ⟨h4, rfl⟩ := h3
      rcases h4 with rfl | rfl | rfl | rfl | rfl
      · rw [zwr_a (by omega), zwr_a (by omega), zwr_a (by omega), zwr_a (by omega), zwr_s]
      · rw [zwr_a (by omega), zwr_a (by omega), zwr_a (by omega), zwr_s]
      · rw [zwr_a (by omega), zwr_a (by omega), zwr_s]
      · rw [zwr_a (by omega), zwr_s]
      · rw [zwr_s]
    · rw [zwr_e, if_neg (by omega), zwr_e, if_neg (by omega), zwr_e, if_neg (by omega), zwr_e, if_neg (by omega), zwr_e, if_neg (by omega), zwr_e, zwr_e]
      by_cases h5 : a = 32 ∧ i = 32
      · rw [if_pos h5, if_pos h5]
      · rw [if_neg h5, if_neg h5]
        unfold mMvD
        rw [if_neg h3, if_neg h2, h1]
        split <;> rfl
def qMv (D : zD) (p t : Int) : Int := if (0 ≤ p ∧ p ≤ D 32 15 - 1) ∧ (0 ≤ t ∧ t ≤ D 32 15 - 1) then 0 else 1
set_option maxRecDepth 20000 in
theorem m117 {p t : Int} {h : zH} {D : zD} (hp : iR p) (ht : iR t) (h15 : 0 ≤ D 32 15 ∧ D 32 15 ≤ 12) (h43 : m43 D) (hn : 70 ≤ zn h) :
    ∃ h', zc 117 7 [.ref 32, .int (Int32.ofInt p), .int (Int32.ofInt t)] (zV h D) = some (.inl (some (.int (Int32.ofInt (if qMv D p t = 0 then (((t - p).natAbs : Nat) : Int) else 0)))), zV h' (if qMv D p t = 0 then zwr (mMvD D p.toNat t.toNat) 32 32 0 else zwr D 32 32 1)) ∧ zExt h h' 2 14 := by
  have e114 := m114 (c := p) (h := h) (D := D) hp h15
  have e115 := m114 (c := t) (h := h) (D := D) ht h15
  by_cases g : (0 ≤ p ∧ p ≤ D 32 15 - 1) ∧ (0 ≤ t ∧ t ≤ D 32 15 - 1)
  · have hq : qMv D p t = 0 := if_pos g
    rw [zb_t g.1] at e114
    rw [zb_t g.2] at e115
    rw [hq, if_pos rfl, if_pos rfl]
    have st : zc 117 7 [.ref 32, .int (Int32.ofInt p), .int (Int32.ofInt t)] (zV h D) = zx 117 34 [some (.ref 32), some (.int (Int32.ofInt p)), some (.int (Int32.ofInt t)), none, none, none, none] [] (zV h (zwr D 32 32 0)) := by
      rw [zc]
      clear h43 hq
      simp (disch := first | omega | (simp (disch := omega) only [zwr_s, zwr_a, zwr_i, zn_put, zn_new, zn_fil, zn_chg, zV_n]; omega)) only [zentry, zs0, zs1, zs2, zs3, zg_lo, zg_st, zg_st2, zg_ald, zg_ast, zs_ia, zs_i0, zcs, zg_ii, zi_max, zi_min, zi_abi, zi_abf, zi_fb, zi_bf, lget, lst, lst2, lc2, Option.map_some, zso, if_true, if_false, zc1, and_true, true_and, and_self, List.length_nil, List.length_cons, Nat.zero_le, reduceIte, reduceCtorEq, false_and, and_false, Bool.false_eq_true, zca_some, zr0, zr100, Option.bind_some, zb_none, zb_some, zrc, or_true, true_or, eq_self, ne_eq, not_true_eq_false, not_false_eq_true, zrt_i, zrt_zb, zrt_b, zrt_c, zrt_l, zrt_f, zrt_r, zrt_n, zrt_v, zft_0, zft_1, zft_zb, zft_3, zft_4, zft_5, zft_7r, zft_7n, iI_t, zb_i, zb_0, zb_1, Nat.reduceAdd, Nat.reduceLeDiff, Nat.reduceEqDiff, Nat.reduceSub, Int.reduceNeg, iI_add, iI_sub, iI_mul, iI_neg, iI_n, zbz, zchar_id, zin, zwr_s, zwr_a, zwr_i, if_pos, if_neg, Int.toNat_natCast, Int.natCast_zero, Int.reduceToNat, z117_b0, z117_b1, z117_b2, zt2, e114, e115, zc32]
    have h43' : m43 (zwr D 32 32 0) := fun j => by rw [zwr_a (by omega)]; exact h43 j
    obtain ⟨h3, e1, x3, ⟨k1, k2, k3, k4⟩, ⟨v0, v1, v2, v3, v4⟩, vr⟩ := m117_1 (h := h) (D := zwr D 32 32 0) (p := p) (t := t) (by omega) hn
    refine ⟨h3, ?_, x3⟩
    rw [st, e1]
    rw [zwr_a (by omega)] at v0 v1 v2 v3 v4
    have vr' : ∀ k, k < 9 → zm h3 (zn h + 1) k = .int (Int32.ofInt (D (45 + p.toNat) k)) := fun k hk => by rw [vr k hk, zwr_a (by omega)]
    by_cases gl : p < t
    · have e2 := m117_u (p := p) (t := t) (x3 := some (.ref (zn h))) (x4 := some (.ref (zn h + 1))) (h := h3) (D := zwr D 32 32 0) (by omega) (by omega) h43' gl
      have e3 := m117_2 (p := p) (t := t) (by_ := 1) (e9 := t) (q := zn h) (h3 := h3) (D := mSD (zwr D 32 32 0) p.toNat t.toNat) (D0 := D) (by omega) (by omega) hn (h43 _) k1 k2 k3 k4 v0 v1 v2 v3 v4 vr'
      rw [mSD_zw, mBk_mv (by omega) (by omega) (by rw [if_pos (by omega)])] at e3
      rw [mSD_zw] at e2
      rw [← e3, ← e2]
      clear e1 e2 e3 vr vr' h43 h43' st x3 v0 v1 v2 v3 v4 k1 k2 k3 k4
      simp (disch := first | omega | (simp (disch := omega) only [zwr_s, zwr_a, zwr_i, zn_put, zn_new, zn_fil, zn_chg, zV_n]; omega)) only [zentry, zs0, zs1, zs2, zs3, zg_lo, zg_st, zg_st2, zg_ald, zg_ast, zs_ia, zs_i0, zg_ii, zi_max, zi_min, zi_abi, zi_abf, zi_fb, zi_bf, lget, lst, lst2, lc2, Option.map_some, zso, if_true, if_false, zc1, and_true, true_and, and_self, List.length_nil, List.length_cons, Nat.zero_le, reduceIte, reduceCtorEq, false_and, and_false, Bool.false_eq_true, zca_some, zr0, zr100, Option.bind_some, zb_none, zb_some, zrc, or_true, true_or, eq_self, ne_eq, not_true_eq_false, not_false_eq_true, zrt_i, zrt_zb, zrt_b, zrt_c, zrt_l, zrt_f, zrt_r, zrt_n, zrt_v, zft_0, zft_1, zft_zb, zft_3, zft_4, zft_5, zft_7r, zft_7n, iI_t, zb_i, zb_0, zb_1, Nat.reduceAdd, Nat.reduceLeDiff, Nat.reduceEqDiff, Nat.reduceSub, Int.reduceNeg, iI_add, iI_sub, iI_mul, iI_neg, zbz, zchar_id, zin, zwr_s, zwr_a, zwr_i, if_pos, if_neg, Int.toNat_natCast, Int.natCast_zero, Int.reduceToNat, z117_b0, z117_b1, z117_b2]
    · have e2 := m117_d (p := p) (t := t) (x3 := some (.ref (zn h))) (x4 := some (.ref (zn h + 1))) (h := h3) (D := zwr D 32 32 0) (by omega) (by omega) h43' (by omega)
      have e3 := m117_2 (p := p) (t := t) (by_ := -1) (e9 := t) (q := zn h) (h3 := h3) (D := mSU (zwr D 32 32 0) t.toNat p.toNat) (D0 := D) (by omega) (by omega) hn (h43 _) k1 k2 k3 k4 v0 v1 v2 v3 v4 vr'
      rw [mSU_zw, mBk_mv (by omega) (by omega) (by rw [if_neg (by omega)])] at e3
      rw [mSU_zw] at e2
      rw [← e3, ← e2]
      clear e1 e2 e3 vr vr' h43 h43' st x3 v0 v1 v2 v3 v4 k1 k2 k3 k4
      simp (disch := first | omega | (simp (disch := omega) only [zwr_s, zwr_a, zwr_i, zn_put, zn_new, zn_fil, zn_chg, zV_n]; omega)) only [zentry, zs0, zs1, zs2, zs3, zg_lo, zg_st, zg_st2, zg_ald, zg_ast, zs_ia, zs_i0, zg_ii, zi_max, zi_min, zi_abi, zi_abf, zi_fb, zi_bf, lget, lst, lst2, lc2, Option.map_some, zso, if_true, if_false, zc1, and_true, true_and, and_self, List.length_nil, List.length_cons, Nat.zero_le, reduceIte, reduceCtorEq, false_and, and_false, Bool.false_eq_true, zca_some, zr0, zr100, Option.bind_some, zb_none, zb_some, zrc, or_true, true_or, eq_self, ne_eq, not_true_eq_false, not_false_eq_true, zrt_i, zrt_zb, zrt_b, zrt_c, zrt_l, zrt_f, zrt_r, zrt_n, zrt_v, zft_0, zft_1, zft_zb, zft_3, zft_4, zft_5, zft_7r, zft_7n, iI_t, zb_i, zb_0, zb_1, Nat.reduceAdd, Nat.reduceLeDiff, Nat.reduceEqDiff, Nat.reduceSub, Int.reduceNeg, iI_add, iI_sub, iI_mul, iI_neg, zbz, zchar_id, zin, zwr_s, zwr_a, zwr_i, if_pos, if_neg, Int.toNat_natCast, Int.natCast_zero, Int.reduceToNat, z117_b0, z117_b1, z117_b2]
  · have hq : ¬ qMv D p t = 0 := by unfold qMv; rw [if_neg g]; omega
    rw [if_neg hq, if_neg hq]
    refine ⟨h, ?_, ⟨Nat.le_refl _, ⟨Nat.le_refl _, by omega⟩, ⟨Nat.le_refl _, by omega⟩, fun _ _ => ⟨rfl, rfl, fun _ => rfl⟩⟩⟩
    rw [zc]
    clear h43
    by_cases g1 : 0 ≤ p ∧ p ≤ D 32 15 - 1
    · have g2 : ¬ (0 ≤ t ∧ t ≤ D 32 15 - 1) := fun q => g ⟨g1, q⟩
      rw [zb_t g1] at e114
      rw [zb_f g2] at e115
      simp (disch := first | omega | (simp (disch := omega) only [zwr_s, zwr_a, zwr_i, zn_put, zn_new, zn_fil, zn_chg, zV_n]; omega)) only [zentry, zs0, zs1, zs2, zs3, zg_lo, zg_st, zg_st2, zg_ald, zg_ast, zs_ia, zs_i0, zcs, zg_ii, zi_max, zi_min, zi_abi, zi_abf, zi_fb, zi_bf, lget, lst, lst2, lc2, Option.map_some, zso, if_true, if_false, zc1, and_true, true_and, and_self, List.length_nil, List.length_cons, Nat.zero_le, reduceIte, reduceCtorEq, false_and, and_false, Bool.false_eq_true, zca_some, zr0, zr100, Option.bind_some, zb_none, zb_some, zrc, or_true, true_or, eq_self, ne_eq, not_true_eq_false, not_false_eq_true, zrt_i, zrt_zb, zrt_b, zrt_c, zrt_l, zrt_f, zrt_r, zrt_n, zrt_v, zft_0, zft_1, zft_zb, zft_3, zft_4, zft_5, zft_7r, zft_7n, iI_t, zb_i, zb_0, zb_1, Nat.reduceAdd, Nat.reduceLeDiff, Nat.reduceEqDiff, Nat.reduceSub, Int.reduceNeg, iI_add, iI_sub, iI_mul, iI_neg, iI_n, zbz, zchar_id, zin, zwr_s, zwr_a, zwr_i, if_pos, if_neg, Int.toNat_natCast, Int.natCast_zero, Int.reduceToNat, z117_b0, z117_b1, z117_b2, zt2, e114, e115, zc32]
    · rw [zb_f g1] at e114
      simp (disch := first | omega | (simp (disch := omega) only [zwr_s, zwr_a, zwr_i, zn_put, zn_new, zn_fil, zn_chg, zV_n]; omega)) only [zentry, zs0, zs1, zs2, zs3, zg_lo, zg_st, zg_st2, zg_ald, zg_ast, zs_ia, zs_i0, zcs, zg_ii, zi_max, zi_min, zi_abi, zi_abf, zi_fb, zi_bf, lget, lst, lst2, lc2, Option.map_some, zso, if_true, if_false, zc1, and_true, true_and, and_self, List.length_nil, List.length_cons, Nat.zero_le, reduceIte, reduceCtorEq, false_and, and_false, Bool.false_eq_true, zca_some, zr0, zr100, Option.bind_some, zb_none, zb_some, zrc, or_true, true_or, eq_self, ne_eq, not_true_eq_false, not_false_eq_true, zrt_i, zrt_zb, zrt_b, zrt_c, zrt_l, zrt_f, zrt_r, zrt_n, zrt_v, zft_0, zft_1, zft_zb, zft_3, zft_4, zft_5, zft_7r, zft_7n, iI_t, zb_i, zb_0, zb_1, Nat.reduceAdd, Nat.reduceLeDiff, Nat.reduceEqDiff, Nat.reduceSub, Int.reduceNeg, iI_add, iI_sub, iI_mul, iI_neg, iI_n, zbz, zchar_id, zin, zwr_s, zwr_a, zwr_i, if_pos, if_neg, Int.toNat_natCast, Int.natCast_zero, Int.reduceToNat, z117_b0, z117_b1, z117_b2, zt2, e114, zc32]

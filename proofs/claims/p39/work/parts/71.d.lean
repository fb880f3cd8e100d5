/-! the reference moves an event: its new arrays -/
/-- an address is as it was, or an array of ints -/
def nwK (h h' : zH) : Prop := ∀ a, (zk h' a = zk h a ∧ ∀ i, zm h' a i = zm h a i) ∨ zk h' a = 20
set_option maxRecDepth 20000 in
theorem m117_1b {p t : Int} {h : zH} {D : zD} (hp : 0 ≤ p ∧ p < 12) (hn : 70 ≤ zn h) :
    ∃ h3, zx 117 34 [some (.ref 32), some (.int (Int32.ofInt p)), some (.int (Int32.ofInt t)), none, none, none, none] [] (zV h D) = zx 117 119 [some (.ref 32), some (.int (Int32.ofInt p)), some (.int (Int32.ofInt t)), some (.ref (zn h)), some (.ref (zn h + 1)), some (.int (Int32.ofInt 9)), none] [] (zV h3 D) ∧
      zExt h h3 2 14 ∧ nwK h h3 ∧ (zk h3 (zn h) = 20 ∧ zl h3 (zn h) = 5 ∧ zk h3 (zn h + 1) = 20 ∧ zl h3 (zn h + 1) = 9) ∧ (zm h3 (zn h) 0 = .int (Int32.ofInt (D 40 p.toNat)) ∧ zm h3 (zn h) 1 = .int (Int32.ofInt (D 41 p.toNat)) ∧ zm h3 (zn h) 2 = .int (Int32.ofInt (D 42 p.toNat)) ∧ zm h3 (zn h) 3 = .int (Int32.ofInt (D 43 p.toNat)) ∧ zm h3 (zn h) 4 = .int (Int32.ofInt (D 57 p.toNat))) ∧ ∀ k, k < 9 → zm h3 (zn h + 1) k = .int (Int32.ofInt (D (45 + p.toNat) k)) := by
  obtain ⟨h1, hh1⟩ : ∃ h1, h1 = zput (zput (zput (zput (zput (znew h 20 5 (fun _ => .int 0)) (zn h) 0 (.int (Int32.ofInt (D 40 p.toNat)))) (zn h) 1 (.int (Int32.ofInt (D 41 p.toNat)))) (zn h) 2 (.int (Int32.ofInt (D 42 p.toNat)))) (zn h) 3 (.int (Int32.ofInt (D 43 p.toNat)))) (zn h) 4 (.int (Int32.ofInt (D 57 p.toNat))) := ⟨_, rfl⟩
  have n1 : zn h1 = zn h + 1 := by rw [hh1]; rfl
  have x1 : zExt h h1 1 5 := by
    rw [hh1]
    exact ((((zExt.new.put (Nat.le_refl _)).put (Nat.le_refl _)).put (Nat.le_refl _)).put (Nat.le_refl _)).put (Nat.le_refl _)
  have k1 : zk h1 (zn h) = 20 ∧ zl h1 (zn h) = 5 := by
    rw [hh1]
    simp only [zk_put, zl_put, zk_new, zl_new, if_true, and_self]
  have v1 : zm h1 (zn h) 0 = .int (Int32.ofInt (D 40 p.toNat)) ∧ zm h1 (zn h) 1 = .int (Int32.ofInt (D 41 p.toNat)) ∧ zm h1 (zn h) 2 = .int (Int32.ofInt (D 42 p.toNat)) ∧ zm h1 (zn h) 3 = .int (Int32.ofInt (D 43 p.toNat)) ∧ zm h1 (zn h) 4 = .int (Int32.ofInt (D 57 p.toNat)) := by
    rw [hh1]
    simp [zm_put]
  have hrow : ∀ k, zfil (znew h1 20 9 (fun _ => .int 0)) (zn h + 1) (mRow D p.toNat k) = zfil (znew h1 20 9 (fun _ => .int 0)) (zn h1) (mRow D p.toNat k) := fun k => by rw [n1]
  refine ⟨zfil (znew h1 20 9 (fun _ => .int 0)) (zn h + 1) (mRow D p.toNat 9), ?_, ?_, ?_, ?_, ?_, ?_⟩
  · have hloop := zloop (k := 117) (pc := 92) (fun i => [some (.ref 32), some (.int (Int32.ofInt p)), some (.int (Int32.ofInt t)), some (.ref (zn h)), some (.ref (zn h + 1)), some (.int (Int32.ofInt (i : Int))), none]) (fun i => zV (zfil (znew h1 20 9 (fun _ => .int 0)) (zn h + 1) (mRow D p.toNat i)) D) 9 (fun i hi => by
      have hb : 70 ≤ zn h + 1 := by omega
      have kq : zk (zV (zfil (znew h1 20 9 (fun _ => .int 0)) (zn h + 1) (mRow D p.toNat i)) D) (zn h + 1) = 20 := by rw [zV_k (by omega), zk_fil, zk_new, if_pos n1.symm]
      have lq : zl (zV (zfil (znew h1 20 9 (fun _ => .int 0)) (zn h + 1) (mRow D p.toNat i)) D) (zn h + 1) = 9 := by rw [zV_l (by omega), zl_fil, zl_new, if_pos n1.symm]
      have pq : zput (zV (zfil (znew h1 20 9 (fun _ => .int 0)) (zn h + 1) (mRow D p.toNat i)) D) (zn h + 1) i (.int (Int32.ofInt (D (45 + p.toNat) i))) = zV (zfil (znew h1 20 9 (fun _ => .int 0)) (zn h + 1) (mRow D p.toNat (i + 1))) D := by
        rw [zV_putd (by omega), zput_fil, mRow_s]
      conv => lhs; rw [z117_92]
      clear hh1 x1 k1 v1 hrow
      generalize zV (zfil (znew h1 20 9 (fun _ => .int 0)) (zn h + 1) (mRow D p.toNat (i + 1))) D = W at *
      generalize zfil (znew h1 20 9 (fun _ => .int 0)) (zn h + 1) (mRow D p.toNat i) = H at *
      simp (disch := first | omega | (simp (disch := omega) only [zwr_s, zwr_a, zwr_i, zn_put, zn_new, zn_fil, zn_chg, zV_n]; omega)) only [zentry, zs0, zs1, zs2, zs3, zg_lo, zg_st, zg_st2, zg_ald, zg_ast, zs_ia, zs_i0, zcs, zg_ii, zi_max, zi_min, zi_abi, zi_abf, zi_fb, zi_bf, lget, lst, lst2, lc2, Option.map_some, zso, if_true, if_false, zc1, and_true, true_and, and_self, List.length_nil, List.length_cons, Nat.zero_le, reduceIte, reduceCtorEq, false_and, and_false, Bool.false_eq_true, zca_some, zr0, zr100, Option.bind_some, zb_none, zb_some, zrc, or_true, true_or, eq_self, ne_eq, not_true_eq_false, not_false_eq_true, zrt_i, zrt_zb, zrt_b, zrt_c, zrt_l, zrt_f, zrt_r, zrt_n, zrt_v, zft_0, zft_1, zft_zb, zft_3, zft_4, zft_5, zft_7r, zft_7n, iI_t, zb_i, zb_0, zb_1, Nat.reduceAdd, Nat.reduceLeDiff, Nat.reduceEqDiff, Nat.reduceSub, Int.reduceNeg, iI_add, iI_sub, iI_mul, iI_neg, iI_n, zbz, zchar_id, zin, zwr_s, zwr_a, zwr_i, if_pos, if_neg, Int.toNat_natCast, Int.natCast_zero, Int.reduceToNat, z117_b0, z117_b1, z117_b2, kq, lq, pq, zc32, zc44, zc44r, zcR_k, zcR_l, zcR_m]) 9 (Nat.le_refl _)
    have h0 : zfil (znew h1 20 9 (fun _ => .int 0)) (zn h + 1) (mRow D p.toNat 0) = znew h1 20 9 (fun _ => .int 0) := by
      have e : mRow D p.toNat 0 = zm (znew h1 20 9 (fun _ => .int 0)) (zn h + 1) := by
        funext i
        rw [zm_new, if_pos n1.symm]
        unfold mRow
        rw [if_neg (by omega)]
      rw [e, zfil_id]
    have st : zx 117 34 [some (.ref 32), some (.int (Int32.ofInt p)), some (.int (Int32.ofInt t)), none, none, none, none] [] (zV h D) = zx 117 92 [some (.ref 32), some (.int (Int32.ofInt p)), some (.int (Int32.ofInt t)), some (.ref (zn h)), some (.ref (zn h + 1)), some (.int (Int32.ofInt ((0 : Nat) : Int))), none] [] (zV (znew h1 20 9 (fun _ => .int 0)) D) := by
      rw [hh1]
      clear hloop h0 hh1 n1 x1 k1 v1 hrow
      simp (disch := first | omega | (simp (disch := omega) only [zwr_s, zwr_a, zwr_i, zn_put, zn_new, zn_fil, zn_chg, zV_n]; omega)) only [zentry, zs0, zs1, zs2, zs3, zg_lo, zg_st, zg_st2, zg_ald, zg_ast, zs_ia, zs_i0, zcs, zg_ii, zi_max, zi_min, zi_abi, zi_abf, zi_fb, zi_bf, lget, lst, lst2, lc2, Option.map_some, zso, if_true, if_false, zc1, and_true, true_and, and_self, List.length_nil, List.length_cons, Nat.zero_le, reduceIte, reduceCtorEq, false_and, and_false, Bool.false_eq_true, zca_some, zr0, zr100, Option.bind_some, zb_none, zb_some, zrc, or_true, true_or, eq_self, ne_eq, not_true_eq_false, not_false_eq_true, zrt_i, zrt_zb, zrt_b, zrt_c, zrt_l, zrt_f, zrt_r, zrt_n, zrt_v, zft_0, zft_1, zft_zb, zft_3, zft_4, zft_5, zft_7r, zft_7n, iI_t, zb_i, zb_0, zb_1, Nat.reduceAdd, Nat.reduceLeDiff, Nat.reduceEqDiff, Nat.reduceSub, Int.reduceNeg, iI_add, iI_sub, iI_mul, iI_neg, iI_n, zbz, zchar_id, zin, zwr_s, zwr_a, zwr_i, if_pos, if_neg, Int.toNat_natCast, Int.natCast_zero, Int.reduceToNat, z117_b0, z117_b1, z117_b2, zc32, zc40, zc41, zc42, zc43, zc57, zV_new, zV_putd, zV_n, zn_put, zn_new, zV_k, zV_l, zk_put, zl_put, zk_new, zl_new]
    simp only [h0] at hloop
    refine st.trans (hloop.trans ?_)
    conv => lhs; rw [z117_92]
    clear hloop h0 hh1 n1 x1 k1 v1 hrow st
    generalize zfil (znew h1 20 9 (fun _ => .int 0)) (zn h + 1) (mRow D p.toNat 9) = H at *
    simp (disch := first | omega | (simp (disch := omega) only [zwr_s, zwr_a, zwr_i, zn_put, zn_new, zn_fil, zn_chg, zV_n]; omega)) only [zentry, zs0, zs1, zs2, zs3, zg_lo, zg_st, zg_st2, zg_ald, zg_ast, zs_ia, zs_i0, zg_ii, zi_max, zi_min, zi_abi, zi_abf, zi_fb, zi_bf, lget, lst, lst2, lc2, Option.map_some, zso, if_true, if_false, zc1, and_true, true_and, and_self, List.length_nil, List.length_cons, Nat.zero_le, reduceIte, reduceCtorEq, false_and, and_false, Bool.false_eq_true, zca_some, zr0, zr100, Option.bind_some, zb_none, zb_some, zrc, or_true, true_or, eq_self, ne_eq, not_true_eq_false, not_false_eq_true, zrt_i, zrt_zb, zrt_b, zrt_c, zrt_l, zrt_f, zrt_r, zrt_n, zrt_v, zft_0, zft_1, zft_zb, zft_3, zft_4, zft_5, zft_7r, zft_7n, iI_t, zb_i, zb_0, zb_1, Nat.reduceAdd, Nat.reduceLeDiff, Nat.reduceEqDiff, Nat.reduceSub, Int.reduceNeg, iI_add, iI_sub, iI_mul, iI_neg, zbz, zchar_id, zin, zwr_s, zwr_a, zwr_i, if_pos, if_neg, Int.toNat_natCast, Int.natCast_zero, Int.reduceToNat, z117_b0, z117_b1, z117_b2]
  · refine zExt.fil ?_ (by omega)
    exact x1.tr zExt.new
  · intro a
    by_cases g1 : a = zn h + 1
    · right
      rw [zk_fil, zk_new, if_pos (by omega)]
    · by_cases g2 : a = zn h
      · right
        rw [zk_fil, zk_new, if_neg (by omega), g2]
        exact k1.1
      · left
        refine ⟨?_, fun i => ?_⟩
        · rw [zk_fil, zk_new, if_neg (by omega), hh1]
          simp only [zk_put, zk_new]
          rw [if_neg g2]
        · rw [zm_fil, if_neg g1, zm_new, if_neg (by omega), hh1, zm_put_a g2, zm_put_a g2, zm_put_a g2, zm_put_a g2, zm_put_a g2, zm_new, if_neg g2]
  · refine ⟨?_, ?_, ?_, ?_⟩
    · rw [zk_fil, zk_new, if_neg (by omega)]
      exact k1.1
    · rw [zl_fil, zl_new, if_neg (by omega)]
      exact k1.2
    · rw [zk_fil, zk_new, if_pos n1.symm]
    · rw [zl_fil, zl_new, if_pos n1.symm]
  · have e : ∀ j, zm (zfil (znew h1 20 9 (fun _ => .int 0)) (zn h + 1) (mRow D p.toNat 9)) (zn h) j = zm h1 (zn h) j := fun j => by rw [zm_fil, if_neg (by omega), zm_new, if_neg (by omega)]
    rw [e, e, e, e, e]
    exact v1
  · intro k hk
    rw [zm_fil, if_pos rfl]
    unfold mRow
    rw [if_pos hk]
set_option maxRecDepth 20000 in
theorem m117b {p t : Int} {h : zH} {D : zD} (hp : iR p) (ht : iR t) (h15 : 0 ≤ D 32 15 ∧ D 32 15 ≤ 12) (h43 : m43 D) (hn : 70 ≤ zn h) :
    ∃ h', zc 117 7 [.ref 32, .int (Int32.ofInt p), .int (Int32.ofInt t)] (zV h D) = some (.inl (some (.int (Int32.ofInt (if qMv D p t = 0 then (((t - p).natAbs : Nat) : Int) else 0)))), zV h' (if qMv D p t = 0 then zwr (mMvD D p.toNat t.toNat) 32 32 0 else zwr D 32 32 1)) ∧ zExt h h' 2 14 ∧ nwK h h' := by
  have e114 := m114 (c := p) (h := h) (D := D) hp h15
  have e115 := m114 (c := t) (h := h) (D := D) ht h15
  by_cases g : (0 ≤ p ∧ p ≤ D 32 15 - 1) ∧ (0 ≤ t ∧ t ≤ D 32 15 - 1)
  · have hq : qMv D p t = 0 := if_pos g
    rw [zb_t g.1] at e114
    rw [zb_t g.2] at e115
    rw [hq, if_pos rfl, if_pos rfl]
    have st : zc 117 7 [.ref 32, .int (Int32.ofInt p), .int (Int32.ofInt t)] (zV h D) = zx 117 34 [some (.ref 32), some (.int (Int32.ofInt p)), some (.int (Int32.ofInt t)), none, none, none, none] [] (zV h (zwr D 32 32 0)) := by
      rw [zc]
      clear h43 hq
      simp (disch := first | omega | (simp (disch := omega) only [zwr_s, zwr_a, zwr_i, zn_put, zn_new, zn_fil, zn_chg, zV_n]; omega)) only [zentry, zs0, zs1, zs2, zs3, zg_lo, zg_st, zg_st2, zg_ald, zg_ast, zs_ia, zs_i0, zcs, zg_ii, zi_max, zi_min, zi_abi, zi_abf, zi_fb, zi_bf, lget, lst, lst2, lc2, Option.map_some, zso, if_true, if_false, zc1, and_true, true_and, and_self, List.length_nil, List.length_cons, Nat.zero_le, reduceIte, reduceCtorEq, false_and, and_false, Bool.false_eq_true, zca_some, zr0, zr100, Option.bind_some, zb_none, zb_some, zrc, or_true, true_or, eq_self, ne_eq, not_true_eq_false, not_false_eq_true, zrt_i, zrt_zb, zrt_b, zrt_c, zrt_l, zrt_f, zrt_r, zrt_n, zrt_v, zft_0, zft_1, zft_zb, zft_3, zft_4, zft_5, zft_7r, zft_7n, iI_t, zb_i, zb_0, zb_1, Nat.reduceAdd, Nat.reduceLeDiff, Nat.reduceEqDiff, Nat.reduceSub, Int.reduceNeg, iI_add, iI_sub, iI_mul, iI_neg, iI_n, zbz, zchar_id, zin, zwr_s, zwr_a, zwr_i, if_pos, if_neg, Int.toNat_natCast, Int.natCast_zero, Int.reduceToNat, z117_b0, z117_b1, z117_b2, zt2, e114, e115, zc32]
    have h43' : m43 (zwr D 32 32 0) := fun j => by rw [zwr_a (by omega)]; exact h43 j
    obtain ⟨h3, e1, x3, xk, ⟨k1, k2, k3, k4⟩, ⟨v0, v1, v2, v3, v4⟩, vr⟩ := m117_1b (h := h) (D := zwr D 32 32 0) (p := p) (t := t) (by omega) hn
    refine ⟨h3, ?_, x3, xk⟩
    rw [st, e1]
    rw [zwr_a (by omega)] at v0 v1 v2 v3 v4
    have vr' : ∀ k, k < 9 → zm h3 (zn h + 1) k = .int (Int32.ofInt (D (45 + p.toNat) k)) := fun k hk => by rw [vr k hk, zwr_a (by omega)]
    by_cases gl : p < t
    · have e2 := m117_u (p := p) (t := t) (x3 := some (.ref (zn h))) (x4 := some (.ref (zn h + 1))) (h := h3) (D := zwr D 32 32 0) (by omega) (by omega) h43' gl
      have e3 := m117_2 (p := p) (t := t) (by_ := 1) (e9 := t) (q := zn h) (h3 := h3) (D := mSD (zwr D 32 32 0) p.toNat t.toNat) (D0 := D) (by omega) (by omega) hn (h43 _) k1 k2 k3 k4 v0 v1 v2 v3 v4 vr'
      rw [mSD_zw, mBk_mv (by omega) (by omega) (by rw [if_pos (by omega)])] at e3
      rw [mSD_zw] at e2
      rw [← e3, ← e2]
      clear e1 e2 e3 vr vr' h43 h43' st x3 v0 v1 v2 v3 v4 k1 k2 k3 k4
      simp (disch := first | omega | (simp (disch := omega) only [zwr_s, zwr_a, zwr_i, zn_put, zn_new, zn_fil, zn_chg, zV_n]; omega)) only [zentry, zs0, zs1, zs2, zs3, zg_lo, zg_st, zg_st2, zg_ald, zg_ast, zs_ia, zs_i0, zg_ii, zi_max, zi_min, zi_abi, zi_abf, zi_fb, zi_bf, lget, lst, lst2, lc2, Option.map_some, zso, if_true, if_false, zc1, and_true, true_and, and_self, List.length_nil, List.length_cons, Nat.zero_le, reduceIte, reduceCtorEq, false_and, and_false, Bool.false_eq_true, zca_some, zr0, zr100, Option.bind_some, zb_none, zb_some, zrc, or_true, true_or, eq_self, ne_eq, not_true_eq_false, not_false_eq_true, zrt_i, zrt_zb, zrt_b, zrt_c, zrt_l, zrt_f, zrt_r, zrt_n, zrt_v, zft_0, zft_1, zft_zb, zft_3, zft_4, zft_5, zft_7r, zft_7n, iI_t, zb_i, zb_0, zb_1, Nat.reduceAdd, Nat.reduceLeDiff, Nat.reduceEqDiff, Nat.reduceSub, Int.reduceNeg, iI_add, iI_sub, iI_mul, iI_neg, zbz, zchar_id, zin, zwr_s, zwr_a, zwr_i, if_pos, if_neg, Int.toNat_natCast, Int.natCast_zero, Int.reduceToNat, z117_b0, z117_b1, z117_b2]
    · have e2 := m117_d (p := p) (t := t) (x3 := some (.ref (zn h))) (x4 := some (.ref (zn h + 1))) (h := h3) (D := zwr D 32 32 0) (by omega) (by omega) h43' (by omega)
      have e3 := m117_2 (p := p) (t := t) (by_ := -1) (e9 := t) (q := zn h) (h3 := h3) (D := mSU (zwr D 32 32 0) t.toNat p.toNat) (D0 := D) (by omega) (by omega) hn (h43 _) k1 k2 k3 k4 v0 v1 v2 v3 v4 vr'
      rw [mSU_zw, mBk_mv (by omega) (by omega) (by rw [if_neg (by omega)])] at e3
      rw [mSU_zw] at e2
      rw [← e3, ← e2]
      clear e1 e2 e3 vr vr' h43 h43' st x3 v0 v1 v2 v3 v4 k1 k2 k3 k4
      simp (disch := first | omega | (simp (disch := omega) only [zwr_s, zwr_a, zwr_i, zn_put, zn_new, zn_fil, zn_chg, zV_n]; omega)) only [zentry, zs0, zs1, zs2, zs3, zg_lo, zg_st, zg_st2, zg_ald, zg_ast, zs_ia, zs_i0, zg_ii, zi_max, zi_min, zi_abi, zi_abf, zi_fb, zi_bf, lget, lst, lst2, lc2, Option.map_some, zso, if_true, if_false, zc1, and_true, true_and, and_self, List.length_nil, List.length_cons, Nat.zero_le, reduceIte, reduceCtorEq, false_and, and_false, Bool.false_eq_true, zca_some, zr0, zr100, Option.bind_some, zb_none, zb_some, zrc, or_true, true_or, eq_self, ne_eq, not_true_eq_false, not_false_eq_true, zrt_i, zrt_zb, zrt_b, zrt_c, zrt_l, zrt_f, zrt_r, zrt_n, zrt_v, zft_0, zft_1, zft_zb, zft_3, zft_4, zft_5, zft_7r, zft_7n, iI_t, zb_i, zb_0, zb_1, Nat.reduceAdd, Nat.reduceLeDiff, Nat.reduceEqDiff, Nat.reduceSub, Int.reduceNeg, iI_add, iI_sub, iI_mul, iI_neg, zbz, zchar_id, zin, zwr_s, zwr_a, zwr_i, if_pos, if_neg, Int.toNat_natCast, Int.natCast_zero, Int.reduceToNat, z117_b0, z117_b1, z117_b2]
  · have hq : ¬ qMv D p t = 0 := by unfold qMv; rw [if_neg g]; omega
    rw [if_neg hq, if_neg hq]
    refine ⟨h, ?_, ⟨Nat.le_refl _, ⟨Nat.le_refl _, by omega⟩, ⟨Nat.le_refl _, by omega⟩, fun _ _ => ⟨rfl, rfl, fun _ => rfl⟩⟩, fun a => Or.inl ⟨rfl, fun _ => rfl⟩⟩
    rw [zc]
    clear h43
    by_cases g1 : 0 ≤ p ∧ p ≤ D 32 15 - 1
    · have g2 : ¬ (0 ≤ t ∧ t ≤ D 32 15 - 1) := fun q => g ⟨g1, q⟩
      rw [zb_t g1] at e114
      rw [zb_f g2] at e115
      simp (disch := first | omega | (simp (disch := omega) only [zwr_s, zwr_a, zwr_i, zn_put, zn_new, zn_fil, zn_chg, zV_n]; omega)) only [zentry, zs0, zs1, zs2, zs3, zg_lo, zg_st, zg_st2, zg_ald, zg_ast, zs_ia, zs_i0, zcs, zg_ii, zi_max, zi_min, zi_abi, zi_abf, zi_fb, zi_bf, lget, lst, lst2, lc2, Option.map_some, zso, if_true, if_false, zc1, and_true, true_and, and_self, List.length_nil, List.length_cons, Nat.zero_le, reduceIte, reduceCtorEq, false_and, and_false, Bool.false_eq_true, zca_some, zr0, zr100, Option.bind_some, zb_none, zb_some, zrc, or_true, true_or, eq_self, ne_eq, not_true_eq_false, not_false_eq_true, zrt_i, zrt_zb, zrt_b, zrt_c, zrt_l, zrt_f, zrt_r, zrt_n, zrt_v, zft_0, zft_1, zft_zb, zft_3, zft_4, zft_5, zft_7r, zft_7n, iI_t, zb_i, zb_0, zb_1, Nat.reduceAdd, Nat.reduceLeDiff, Nat.reduceEqDiff, Nat.reduceSub, Int.reduceNeg, iI_add, iI_sub, iI_mul, iI_neg, iI_n, zbz, zchar_id, zin, zwr_s, zwr_a, zwr_i, if_pos, if_neg, Int.toNat_natCast, Int.natCast_zero, Int.reduceToNat, z117_b0, z117_b1, z117_b2, zt2, e114, e115, zc32]
    · rw [zb_f g1] at e114
      simp (disch := first | omega | (simp (disch := omega) only [zwr_s, zwr_a, zwr_i, zn_put, zn_new, zn_fil, zn_chg, zV_n]; omega)) only [zentry, zs0, zs1, zs2, zs3, zg_lo, zg_st, zg_st2, zg_ald, zg_ast, zs_ia, zs_i0, zcs, zg_ii, zi_max, zi_min, zi_abi, zi_abf, zi_fb, zi_bf, lget, lst, lst2, lc2, Option.map_some, zso, if_true, if_false, zc1, and_true, true_and, and_self, List.length_nil, List.length_cons, Nat.zero_le, reduceIte, reduceCtorEq, false_and, and_false, Bool.false_eq_true, zca_some, zr0, zr100, Option.bind_some, zb_none, zb_some, zrc, or_true, true_or, eq_self, ne_eq, not_true_eq_false, not_false_eq_true, zrt_i, zrt_zb, zrt_b, zrt_c, zrt_l, zrt_f, zrt_r, zrt_n, zrt_v, zft_0, zft_1, zft_zb, zft_3, zft_4, zft_5, zft_7r, zft_7n, iI_t, zb_i, zb_0, zb_1, Nat.reduceAdd, Nat.reduceLeDiff, Nat.reduceEqDiff, Nat.reduceSub, Int.reduceNeg, iI_add, iI_sub, iI_mul, iI_neg, iI_n, zbz, zchar_id, zin, zwr_s, zwr_a, zwr_i, if_pos, if_neg, Int.toNat_natCast, Int.natCast_zero, Int.reduceToNat, z117_b0, z117_b1, z117_b2, zt2, e114, zc32]

/-! the reference moves an event -/
def mMvD (D : zD) (p t : Nat) : zD := fun a i => if (a = 40 ∨ a = 41 ∨ a = 42 ∨ a = 43 ∨ a = 57) ∧ i = t then D a p else if a = 45 + t ∧ i < 9 then D (45 + p) i else if p < t then mSD D p t a i else mSU D t p a i
def mRow (D : zD) (p k : Nat) : Nat → Value := fun i => if i < k then .int (Int32.ofInt (D (45 + p) i)) else .int 0
theorem mRow_s {D : zD} {p k : Nat} : (fun j => if j = k then .int (Int32.ofInt (D (45 + p) k)) else mRow D p k j) = mRow D p (k + 1) := by
  funext j
  unfold mRow
  by_cases h : j = k
  · subst h
    rw [if_pos rfl, if_pos (by omega)]
  · rw [if_neg h]
    by_cases h2 : j < k
    · rw [if_pos h2, if_pos (by omega)]
    · rw [if_neg h2, if_neg (by omega)]
/-- a row out of an array -/
def mBk (D D0 : zD) (p t k : Nat) : zD := fun a i => if a = 45 + t ∧ i < k then D0 (45 + p) i else D a i
theorem mBk_0 {D D0 : zD} {p t : Nat} : mBk D D0 p t 0 = D := by
  funext a i
  unfold mBk
  rw [if_neg (by omega)]
theorem mBk_s {D D0 : zD} {p t k : Nat} : zwr (mBk D D0 p t k) (45 + t) k (D0 (45 + p) k) = mBk D D0 p t (k + 1) := by
  funext a i
  unfold mBk zwr
  dsimp only
  by_cases h1 : a = 45 + t ∧ i = k
  · rw [if_pos h1, if_pos (by omega), h1.2]
  · rw [if_neg h1]
    by_cases h2 : a = 45 + t ∧ i < k
    · rw [if_pos h2, if_pos (by omega)]
    · rw [if_neg h2, if_neg (by omega)]
set_option maxRecDepth 20000 in
/-- the events between, one place on, toward the place p from the place e -/
theorem m117_u {p t : Int} {x3 x4 : Option Value} {h : zH} {D : zD} (hp : 0 ≤ p ∧ p < 12) (ht : 0 ≤ t ∧ t < 12) (h43 : m43 D) (hlt : p < t) :
    zx 117 134 [some (.ref 32), some (.int (Int32.ofInt p)), some (.int (Int32.ofInt t)), x3, x4, some (.int (Int32.ofInt 1)), some (.int (Int32.ofInt p))] [] (zV h D) = zx 117 161 [some (.ref 32), some (.int (Int32.ofInt p)), some (.int (Int32.ofInt t)), x3, x4, some (.int (Int32.ofInt 1)), some (.int (Int32.ofInt t))] [] (zV h (mSD D p.toNat t.toNat)) := by
  have hloop := zloop (k := 117) (pc := 134) (fun i => [some (.ref 32), some (.int (Int32.ofInt p)), some (.int (Int32.ofInt t)), x3, x4, some (.int (Int32.ofInt 1)), some (.int (Int32.ofInt (p + (i : Int))))]) (fun i => zV h (mSD D p.toNat (p.toNat + i))) (t - p).toNat (fun i hi => by
    have m := (h43.sd p.toNat (p.toNat + i)) ((p + (i : Int) + 1).toNat)
    have e113 := m113 (f := p + (i : Int) + 1) (t := p + (i : Int)) (h := h) (D := mSD D p.toNat (p.toNat + i)) (by omega) (by omega) m
    rw [mGo_F (by omega) (by omega)] at e113
    have es := mSD_s (D := D) (p := p.toNat) (q := p.toNat + i) (by omega) (by omega)
    rw [show (p + (i : Int) + 1).toNat = p.toNat + i + 1 by omega, show (p + (i : Int)).toNat = p.toNat + i by omega, es] at e113
    have ee : p + (i : Int) + 1 = p + ((i : Int) + 1) := by omega
    rw [ee] at e113
    conv => lhs; rw [z117_134]
    clear m es h43
    rw [show p.toNat + (i + 1) = p.toNat + i + 1 by omega]
    generalize mSD D p.toNat (p.toNat + i) = D1 at *
    generalize mSD D p.toNat (p.toNat + i + 1) = D2 at *
    simp (disch := first | omega | (simp (disch := omega) only [zwr_s, zwr_a, zwr_i, zn_put, zn_new, zn_fil, zn_chg, zV_n]; omega)) only [zentry, zs0, zs1, zs2, zs3, zg_lo, zg_st, zg_st2, zg_ald, zg_ast, zs_ia, zs_i0, zcs, zg_ii, zi_max, zi_min, zi_abi, zi_abf, zi_fb, zi_bf, lget, lst, lst2, lc2, Option.map_some, zso, if_true, if_false, zc1, and_true, true_and, and_self, List.length_nil, List.length_cons, Nat.zero_le, reduceIte, reduceCtorEq, false_and, and_false, Bool.false_eq_true, zca_some, zr0, zr100, Option.bind_some, zb_none, zb_some, zrc, or_true, true_or, eq_self, ne_eq, not_true_eq_false, not_false_eq_true, zrt_i, zrt_zb, zrt_b, zrt_c, zrt_l, zrt_f, zrt_r, zrt_n, zrt_v, zft_0, zft_1, zft_zb, zft_3, zft_4, zft_5, zft_7r, zft_7n, iI_t, zb_i, zb_0, zb_1, Nat.reduceAdd, Nat.reduceLeDiff, Nat.reduceEqDiff, Nat.reduceSub, Int.reduceNeg, iI_add, iI_sub, iI_mul, iI_neg, iI_n, zbz, zchar_id, zin, zwr_s, zwr_a, zwr_i, if_pos, if_neg, Int.toNat_natCast, Int.natCast_zero, Int.reduceToNat, z117_b0, z117_b1, z117_b2, zt3, e113, ee, zc32]) (t - p).toNat (Nat.le_refl _)
  have e0 : p + ((0 : Nat) : Int) = p := by omega
  have e1 : p + (((t - p).toNat : Nat) : Int) = t := by omega
  have e2 : p.toNat + (t - p).toNat = t.toNat := by omega
  simp only [e0, e1, e2, Nat.add_zero, mSD_0] at hloop
  rw [hloop]
  conv => lhs; rw [z117_134]
  clear hloop h43
  generalize mSD D p.toNat t.toNat = D1 at *
  simp (disch := first | omega | (simp (disch := omega) only [zwr_s, zwr_a, zwr_i, zn_put, zn_new, zn_fil, zn_chg, zV_n]; omega)) only [zentry, zs0, zs1, zs2, zs3, zg_lo, zg_st, zg_st2, zg_ald, zg_ast, zs_ia, zs_i0, zcs, zg_ii, zi_max, zi_min, zi_abi, zi_abf, zi_fb, zi_bf, lget, lst, lst2, lc2, Option.map_some, zso, if_true, if_false, zc1, and_true, true_and, and_self, List.length_nil, List.length_cons, Nat.zero_le, reduceIte, reduceCtorEq, false_and, and_false, Bool.false_eq_true, zca_some, zr0, zr100, Option.bind_some, zb_none, zb_some, zrc, or_true, true_or, eq_self, ne_eq, not_true_eq_false, not_false_eq_true, zrt_i, zrt_zb, zrt_b, zrt_c, zrt_l, zrt_f, zrt_r, zrt_n, zrt_v, zft_0, zft_1, zft_zb, zft_3, zft_4, zft_5, zft_7r, zft_7n, iI_t, zb_i, zb_0, zb_1, Nat.reduceAdd, Nat.reduceLeDiff, Nat.reduceEqDiff, Nat.reduceSub, Int.reduceNeg, iI_add, iI_sub, iI_mul, iI_neg, iI_n, zbz, zchar_id, zin, zwr_s, zwr_a, zwr_i, if_pos, if_neg, Int.toNat_natCast, Int.natCast_zero, Int.reduceToNat, z117_b0, z117_b1, z117_b2]
set_option maxRecDepth 20000 in
theorem m117_d {p t : Int} {x3 x4 : Option Value} {h : zH} {D : zD} (hp : 0 ≤ p ∧ p < 12) (ht : 0 ≤ t ∧ t < 12) (h43 : m43 D) (hle : t ≤ p) :
    zx 117 134 [some (.ref 32), some (.int (Int32.ofInt p)), some (.int (Int32.ofInt t)), x3, x4, some (.int (Int32.ofInt (-1))), some (.int (Int32.ofInt p))] [] (zV h D) = zx 117 161 [some (.ref 32), some (.int (Int32.ofInt p)), some (.int (Int32.ofInt t)), x3, x4, some (.int (Int32.ofInt (-1))), some (.int (Int32.ofInt t))] [] (zV h (mSU D t.toNat p.toNat)) := by
  have hloop := zloop (k := 117) (pc := 134) (fun i => [some (.ref 32), some (.int (Int32.ofInt p)), some (.int (Int32.ofInt t)), x3, x4, some (.int (Int32.ofInt (-1))), some (.int (Int32.ofInt (p - (i : Int))))]) (fun i => zV h (mSU D (p.toNat - i) p.toNat)) (p - t).toNat (fun i hi => by
    have m := (h43.su (p.toNat - i) p.toNat) ((p - (i : Int) + -1).toNat)
    have e113 := m113 (f := p - (i : Int) + -1) (t := p - (i : Int)) (h := h) (D := mSU D (p.toNat - i) p.toNat) (by omega) (by omega) m
    rw [mGo_F (by omega) (by omega)] at e113
    have es := mSU_s (D := D) (p := p.toNat - (i + 1)) (n := p.toNat) (by omega) (by omega)
    rw [show p.toNat - (i + 1) + 1 = p.toNat - i by omega] at es
    rw [show (p - (i : Int) + -1).toNat = p.toNat - (i + 1) by omega, show (p - (i : Int)).toNat = p.toNat - i by omega, es] at e113
    have ee : p - (i : Int) + -1 = p - ((i : Int) + 1) := by omega
    rw [ee] at e113
    conv => lhs; rw [z117_134]
    clear m es h43
    generalize mSU D (p.toNat - i) p.toNat = D1 at *
    generalize mSU D (p.toNat - (i + 1)) p.toNat = D2 at *
    simp (disch := first | omega | (simp (disch := omega) only [zwr_s, zwr_a, zwr_i, zn_put, zn_new, zn_fil, zn_chg, zV_n]; omega)) only [zentry, zs0, zs1, zs2, zs3, zg_lo, zg_st, zg_st2, zg_ald, zg_ast, zs_ia, zs_i0, zcs, zg_ii, zi_max, zi_min, zi_abi, zi_abf, zi_fb, zi_bf, lget, lst, lst2, lc2, Option.map_some, zso, if_true, if_false, zc1, and_true, true_and, and_self, List.length_nil, List.length_cons, Nat.zero_le, reduceIte, reduceCtorEq, false_and, and_false, Bool.false_eq_true, zca_some, zr0, zr100, Option.bind_some, zb_none, zb_some, zrc, or_true, true_or, eq_self, ne_eq, not_true_eq_false, not_false_eq_true, zrt_i, zrt_zb, zrt_b, zrt_c, zrt_l, zrt_f, zrt_r, zrt_n, zrt_v, zft_0, zft_1, zft_zb, zft_3, zft_4, zft_5, zft_7r, zft_7n, iI_t, zb_i, zb_0, zb_1, Nat.reduceAdd, Nat.reduceLeDiff, Nat.reduceEqDiff, Nat.reduceSub, Int.reduceNeg, iI_add, iI_sub, iI_mul, iI_neg, iI_n, zbz, zchar_id, zin, zwr_s, zwr_a, zwr_i, if_pos, if_neg, Int.toNat_natCast, Int.natCast_zero, Int.reduceToNat, z117_b0, z117_b1, z117_b2, zt3, e113, ee, zc32]) (p - t).toNat (Nat.le_refl _)
  have e0 : p - ((0 : Nat) : Int) = p := by omega
  have e1 : p - (((p - t).toNat : Nat) : Int) = t := by omega
  have e2 : p.toNat - (p - t).toNat = t.toNat := by omega
  simp only [e0, e1, e2, Nat.sub_zero, mSU_0] at hloop
  rw [hloop]
  conv => lhs; rw [z117_134]
  clear hloop h43
  generalize mSU D t.toNat p.toNat = D1 at *
  simp (disch := first | omega | (simp (disch := omega) only [zwr_s, zwr_a, zwr_i, zn_put, zn_new, zn_fil, zn_chg, zV_n]; omega)) only [zentry, zs0, zs1, zs2, zs3, zg_lo, zg_st, zg_st2, zg_ald, zg_ast, zs_ia, zs_i0, zcs, zg_ii, zi_max, zi_min, zi_abi, zi_abf, zi_fb, zi_bf, lget, lst, lst2, lc2, Option.map_some, zso, if_true, if_false, zc1, and_true, true_and, and_self, List.length_nil, List.length_cons, Nat.zero_le, reduceIte, reduceCtorEq, false_and, and_false, Bool.false_eq_true, zca_some, zr0, zr100, Option.bind_some, zb_none, zb_some, zrc, or_true, true_or, eq_self, ne_eq, not_true_eq_false, not_false_eq_true, zrt_i, zrt_zb, zrt_b, zrt_c, zrt_l, zrt_f, zrt_r, zrt_n, zrt_v, zft_0, zft_1, zft_zb, zft_3, zft_4, zft_5, zft_7r, zft_7n, iI_t, zb_i, zb_0, zb_1, Nat.reduceAdd, Nat.reduceLeDiff, Nat.reduceEqDiff, Nat.reduceSub, Int.reduceNeg, iI_add, iI_sub, iI_mul, iI_neg, iI_n, zbz, zchar_id, zin, zwr_s, zwr_a, zwr_i, if_pos, if_neg, Int.toNat_natCast, Int.natCast_zero, Int.reduceToNat, z117_b0, z117_b1, z117_b2]
set_option maxRecDepth 20000 in
theorem m117_1 {p t : Int} {h : zH} {D : zD} (hp : 0 ≤ p ∧ p < 12) (hn : 70 ≤ zn h) :
    ∃ h3, zx 117 34 [some (.ref 32), some (.int (Int32.ofInt p)), some (.int (Int32.ofInt t)), none, none, none, none] [] (zV h D) = zx 117 119 [some (.ref 32), some (.int (Int32.ofInt p)), some (.int (Int32.ofInt t)), some (.ref (zn h)), some (.ref (zn h + 1)), some (.int (Int32.ofInt 9)), none] [] (zV h3 D) ∧
      zExt h h3 2 14 ∧ (zk h3 (zn h) = 20 ∧ zl h3 (zn h) = 5 ∧ zk h3 (zn h + 1) = 20 ∧ zl h3 (zn h + 1) = 9) ∧ (zm h3 (zn h) 0 = .int (Int32.ofInt (D 40 p.toNat)) ∧ zm h3 (zn h) 1 = .int (Int32.ofInt (D 41 p.toNat)) ∧ zm h3 (zn h) 2 = .int (Int32.ofInt (D 42 p.toNat)) ∧ zm h3 (zn h) 3 = .int (Int32.ofInt (D 43 p.toNat)) ∧ zm h3 (zn h) 4 = .int (Int32.ofInt (D 57 p.toNat))) ∧ ∀ k, k < 9 → zm h3 (zn h + 1) k = .int (Int32.ofInt (D (45 + p.toNat) k)) := by
  obtain ⟨h1, hh1⟩ : ∃ h1, h1 = zput (zput (zput (zput (zput (znew h 20 5 (fun _ => .int 0)) (zn h) 0 (.int (Int32.ofInt (D 40 p.toNat)))) (zn h) 1 (.int (Int32.ofInt (D 41 p.toNat)))) (zn h) 2 (.int (Int32.ofInt (D 42 p.toNat)))) (zn h) 3 (.int (Int32.ofInt (D 43 p.toNat)))) (zn h) 4 (.int (Int32.ofInt (D 57 p.toNat))) := ⟨_, rfl⟩
  have n1 : zn h1 = zn h + 1 := by rw [hh1]; rfl
  have x1 : zExt h h1 1 5 := by
    rw [hh1]
    exact ((((zExt.new.put (Nat.le_refl _)).put (Nat.le_refl _)).put (Nat.le_refl _)).put (Nat.le_refl _)).put (Nat.le_refl _)
  have k1 : zk h1 (zn h) = 20 ∧ zl h1 (zn h) = 5 := by
    rw [hh1]
    simp only [zk_put, zl_put, zk_new, zl_new, if_true, and_self]
  have v1 : zm h1 (zn h) 0 = .int (Int32.ofInt (D 40 p.toNat)) ∧ zm h1 (zn h) 1 = .int (Int32.ofInt (D 41 p.toNat)) ∧ zm h1 (zn h) 2 = .int (Int32.ofInt (D 42 p.toNat)) ∧ zm h1 (zn h) 3 = .int (Int32.ofInt (D 43 p.toNat)) ∧ zm h1 (zn h) 4 = .int (Int32.ofInt (D 57 p.toNat)) := by
    rw [hh1]
    simp [zm_put]
  have hrow : ∀ k, zfil (znew h1 20 9 (fun _ => .int 0)) (zn h + 1) (mRow D p.toNat k) = zfil (znew h1 20 9 (fun _ => .int 0)) (zn h1) (mRow D p.toNat k) := fun k => by rw [n1]
  refine ⟨zfil (znew h1 20 9 (fun _ => .int 0)) (zn h + 1) (mRow D p.toNat 9), ?_, ?_, ?_, ?_, ?_⟩
  · have hloop := zloop (k := 117) (pc := 92) (fun i => [some (.ref 32), some (.int (Int32.ofInt p)), some (.int (Int32.ofInt t)), some (.ref (zn h)), some (.ref (zn h + 1)), some (.int (Int32.ofInt (i : Int))), none]) (fun i => zV (zfil (znew h1 20 9 (fun _ => .int 0)) (zn h + 1) (mRow D p.toNat i)) D) 9 (fun i hi => by
      have hb : 70 ≤ zn h + 1 := by omega
      have kq : zk (zV (zfil (znew h1 20 9 (fun _ => .int 0)) (zn h + 1) (mRow D p.toNat i)) D) (zn h + 1) = 20 := by rw [zV_k (by omega), zk_fil, zk_new, if_pos n1.symm]
      have lq : zl (zV (zfil (znew h1 20 9 (fun _ => .int 0)) (zn h + 1) (mRow D p.toNat i)) D) (zn h + 1) = 9 := by rw [zV_l (by omega), zl_fil, zl_new, if_pos n1.symm]
      have pq : zput (zV (zfil (znew h1 20 9 (fun _ => .int 0)) (zn h + 1) (mRow D p.toNat i)) D) (zn h + 1) i (.int (Int32.ofInt (D (45 + p.toNat) i))) = zV (zfil (znew h1 20 9 (fun _ => .int 0)) (zn h + 1) (mRow D p.toNat (i + 1))) D := by
        rw [zV_putd (by omega), zput_fil, mRow_s]
      conv => lhs; rw [z117_92]
      clear hh1 x1 k1 v1 hrow
      generalize zV (zfil (znew h1 20 9 (fun _ => .int 0)) (zn h + 1) (mRow D p.toNat (i + 1))) D = W at *
      generalize zfil (znew h1 20 9 (fun _ => .int 0)) (zn h + 1) (mRow D p.toNat i) = H at *
      simp (disch := first | omega | (simp (disch := omega) only [zwr_s, zwr_a, zwr_i, zn_put, zn_new, zn_fil, zn_chg, zV_n]; omega)) only [zentry, zs0, zs1, zs2, zs3, zg_lo, zg_st, zg_st2, zg_ald, zg_ast, zs_ia, zs_i0, zcs, zg_ii, zi_max, zi_min, zi_abi, zi_abf, zi_fb, zi_bf, lget, lst, lst2, lc2, Option.map_some, zso, if_true, if_false, zc1, and_true, true_and, and_self, List.length_nil, List.length_cons, Nat.zero_le, reduceIte, reduceCtorEq, false_and, and_false, Bool.false_eq_true, zca_some, zr0, zr100, Option.bind_some, zb_none, zb_some, zrc, or_true, true_or, eq_self, ne_eq, not_true_eq_false, not_false_eq_true, zrt_i, zrt_zb, zrt_b, zrt_c, zrt_l, zrt_f, zrt_r, zrt_n, zrt_v, zft_0, zft_1, zft_zb, zft_3, zft_4, zft_5, zft_7r, zft_7n, iI_t, zb_i, zb_0, zb_1, Nat.reduceAdd, Nat.reduceLeDiff, Nat.reduceEqDiff, Nat.reduceSub, Int.reduceNeg, iI_add, iI_sub, iI_mul, iI_neg, iI_n, zbz, zchar_id, zin, zwr_s, zwr_a, zwr_i, if_pos, if_neg, Int.toNat_natCast, Int.natCast_zero, Int.reduceToNat, z117_b0, z117_b1, z117_b2, kq, lq, pq, zc32, zc44, zc44r, zcR_k, zcR_l, zcR_m]) 9 (Nat.le_refl _)
    have h0 : zfil (znew h1 20 9 (fun _ => .int 0)) (zn h + 1) (mRow D p.toNat 0) = znew h1 20 9 (fun _ => .int 0) := by
      have e : mRow D p.toNat 0 = zm (znew h1 20 9 (fun _ => .int 0)) (zn h + 1) := by
        funext i
        rw [zm_new, if_pos n1.symm]
        unfold mRow
        rw [if_neg (by omega)]
      rw [e, zfil_id]
    have st : zx 117 34 [some (.ref 32), some (.int (Int32.ofInt p)), some (.int (Int32.ofInt t)), none, none, none, none] [] (zV h D) = zx 117 92 [some (.ref 32), some (.int (Int32.ofInt p)), some (.int (Int32.ofInt t)), some (.ref (zn h)), some (.ref (zn h + 1)), some (.int (Int32.ofInt ((0 : Nat) : Int))), none] [] (zV (znew h1 20 9 (fun _ => .int 0)) D) := by
      rw [hh1]
      clear hloop h0 hh1 n1 x1 k1 v1 hrow
      simp (disch := first | omega | (simp (disch := omega) only [zwr_s, zwr_a, zwr_i, zn_put, zn_new, zn_fil, zn_chg, zV_n]; omega)) only [zentry, zs0, zs1, zs2, zs3, zg_lo, zg_st, zg_st2, zg_ald, zg_ast, zs_ia, zs_i0, zcs, zg_ii, zi_max, zi_min, zi_abi, zi_abf, zi_fb, zi_bf, lget, lst, lst2, lc2, Option.map_some, zso, if_true, if_false, zc1, and_true, true_and, and_self, List.length_nil, List.length_cons, Nat.zero_le, reduceIte, reduceCtorEq, false_and, and_false, Bool.false_eq_true, zca_some, zr0, zr100, Option.bind_some, zb_none, zb_some, zrc, or_true, true_or, eq_self, ne_eq, not_true_eq_false, not_false_eq_true, zrt_i, zrt_zb, zrt_b, zrt_c, zrt_l, zrt_f, zrt_r, zrt_n, zrt_v, zft_0, zft_1, zft_zb, zft_3, zft_4, zft_5, zft_7r, zft_7n, iI_t, zb_i, zb_0, zb_1, Nat.reduceAdd, Nat.reduceLeDiff, Nat.reduceEqDiff, Nat.reduceSub, Int.reduceNeg, iI_add, iI_sub, iI_mul, iI_neg, iI_n, zbz, zchar_id, zin, zwr_s, zwr_a, zwr_i, if_pos, if_neg, Int.toNat_natCast, Int.natCast_zero, Int.reduceToNat, z117_b0, z117_b1, z117_b2, zc32, zc40, zc41, zc42, zc43, zc57, zV_new, zV_putd, zV_n, zn_put, zn_new, zV_k, zV_l, zk_put, zl_put, zk_new, zl_new]
    simp only [h0] at hloop
    refine st.trans (hloop.trans ?_)
    conv => lhs; rw [z117_92]
    clear hloop h0 hh1 n1 x1 k1 v1 hrow st
    generalize zfil (znew h1 20 9 (fun _ => .int 0)) (zn h + 1) (mRow D p.toNat 9) = H at *
    simp (disch := first | omega | (simp (disch := omega) only [zwr_s, zwr_a, zwr_i, zn_put, zn_new, zn_fil, zn_chg, zV_n]; omega)) only [zentry, zs0, zs1, zs2, zs3, zg_lo, zg_st, zg_st2, zg_ald, zg_ast, zs_ia, zs_i0, zg_ii, zi_max, zi_min, zi_abi, zi_abf, zi_fb, zi_bf, lget, lst, lst2, lc2, Option.map_some, zso, if_true, if_false, zc1, and_true, true_and, and_self, List.length_nil, List.length_cons, Nat.zero_le, reduceIte, reduceCtorEq, false_and, and_false, Bool.false_eq_true, zca_some, zr0, zr100, Option.bind_some, zb_none, zb_some, zrc, or_true, true_or, eq_self, ne_eq, not_true_eq_false, not_false_eq_true, zrt_i, zrt_zb, zrt_b, zrt_c, zrt_l, zrt_f, zrt_r, zrt_n, zrt_v, zft_0, zft_1, zft_zb, zft_3, zft_4, zft_5, zft_7r, zft_7n, iI_t, zb_i, zb_0, zb_1, Nat.reduceAdd, Nat.reduceLeDiff, Nat.reduceEqDiff, Nat.reduceSub, Int.reduceNeg, iI_add, iI_sub, iI_mul, iI_neg, zbz, zchar_id, zin, zwr_s, zwr_a, zwr_i, if_pos, if_neg, Int.toNat_natCast, Int.natCast_zero, Int.reduceToNat, z117_b0, z117_b1, z117_b2]
  · refine zExt.fil ?_ (by omega)
    exact x1.tr zExt.new
  · refine ⟨?_, ?_, ?_, ?_⟩
    · rw [zk_fil, zk_new, if_neg (by omega)]
      exact k1.1
    · rw [zl_fil, zl_new, if_neg (by omega)]
      exact k1.2
    · rw [zk_fil, zk_new, if_pos n1.symm]
    · rw [zl_fil, zl_new, if_pos n1.symm]
  · have e : ∀ j, zm (zfil (znew h1 20 9 (fun _ => .int 0)) (zn h + 1) (mRow D p.toNat 9)) (zn h) j = zm h1 (zn h) j := fun j => by rw [zm_fil, if_neg (by omega), zm_new, if_neg (by omega)]
    rw [e, e, e, e, e]
    exact v1
  · intro k hk
    rw [zm_fil, if_pos rfl]
    unfold mRow
    rw [if_pos hk]

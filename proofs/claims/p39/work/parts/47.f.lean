/-! the reference airs a day -/
theorem zl_ii {b : Int} (h : -2147483648 ≤ b ∧ b < 2147483648) : (Int32.ofInt b).toInt64 = Int64.ofInt b := by
  apply Int64.toInt_inj.mp
  rw [Int32.toInt_toInt64, iI_t h, Int64.toInt_ofInt]
  show b = Int.bmod b 18446744073709551616
  rw [Int.bmod_def, show ((18446744073709551616 : Nat) : Int) = 18446744073709551616 from rfl]
  split <;> omega
theorem zl_add {a b : Int} (h : -2147483648 ≤ b ∧ b < 2147483648) : Int64.ofInt a + (Int32.ofInt b).toInt64 = Int64.ofInt (a + b) := by
  rw [zl_ii h, Int64.ofInt_add]
noncomputable def cntA (D : zD) (c : Nat) : Nat → Int
  | 0 => 0
  | e + 1 => cntA D c e + (if D 40 e = c ∧ (lyF D).2.2.1 e ≠ 1 then 1 else 0)
noncomputable def airA (D D1 : zD) (n : Nat) : zD := fun a i => if a = 35 then D1 35 i - cntA D i n else if a = 42 ∧ i < n then 0 else D1 a i
theorem airA_s {D D1 : zD} {e : Nat} (h : 0 ≤ D 40 e) : airA D D1 (e + 1) = zwr (zwr (airA D D1 e) 35 (D 40 e).toNat (airA D D1 e 35 (D 40 e).toNat - (if (lyF D).2.2.1 e = 1 then 0 else 1))) 42 e 0 := by
  funext a i
  unfold airA zwr
  by_cases h1 : a = 42 ∧ i = e
  · obtain ⟨rfl, rfl⟩ := h1
    simp
  · rw [if_neg h1]
    by_cases h2 : a = 35
    · subst h2
      simp only [if_true, true_and]
      by_cases h3 : i = (D 40 e).toNat
      · rw [if_pos h3, cntA, h3]
        by_cases h4 : (lyF D).2.2.1 e = 1
        · rw [if_neg (fun q => q.2 h4), if_pos h4]
          omega
        · rw [if_pos ⟨by omega, h4⟩, if_neg h4]
          omega
      · rw [if_neg h3, cntA, if_neg (by omega)]
        omega
    · simp only [h2, false_and, if_false]
      by_cases h3 : a = 42
      · have : ¬ i = e := fun q => h1 ⟨h3, q⟩
        subst h3
        have e1 : (i < e + 1) = (i < e) := by apply propext; omega
        simp only [true_and, e1]
      · simp [h3]
def airS (sp : zSp) (c : Nat) : Nat → Int
  | 0 => 0
  | k + 1 => airS sp c k + (if (spK sp k).1 = c then (spK sp k).2.2.2 - (spK sp k).2.2.1 else 0)
def airL (sp : zSp) (D2 : zD) (k : Nat) : zD := fun a i => if a = 66 ∧ i < k then (spK sp i).1 else if a = 67 ∧ i < k then (spK sp i).2.2.1 else if a = 39 then D2 39 i + airS sp i k else D2 a i
theorem airL_0 {sp : zSp} {D2 : zD} : airL sp D2 0 = D2 := by
  funext a i
  unfold airL airS
  by_cases h : a = 39
  · subst h
    simp
  · simp [h]
theorem airL_39 {sp : zSp} {D2 : zD} {k i : Nat} : airL sp D2 k 39 i = D2 39 i + airS sp i k := by
  unfold airL
  rw [if_neg (by omega), if_neg (by omega), if_pos rfl]
theorem airL_66 {sp : zSp} {D2 : zD} {k i : Nat} : airL sp D2 k 66 i = if i < k then (spK sp i).1 else D2 66 i := by
  unfold airL
  by_cases g : i < k
  · rw [if_pos ⟨rfl, g⟩, if_pos g]
  · rw [if_neg (fun q => g q.2), if_neg (by omega), if_neg (by omega), if_neg g]
theorem airL_67 {sp : zSp} {D2 : zD} {k i : Nat} : airL sp D2 k 67 i = if i < k then (spK sp i).2.2.1 else D2 67 i := by
  unfold airL
  by_cases g : i < k
  · rw [if_neg (by omega), if_pos ⟨rfl, g⟩, if_pos g]
  · rw [if_neg (by omega), if_neg (fun q => g q.2), if_neg (by omega), if_neg g]
theorem airL_n {sp : zSp} {D2 : zD} {k a i : Nat} (h : a ≠ 39 ∧ a ≠ 66 ∧ a ≠ 67) : airL sp D2 k a i = D2 a i := by
  unfold airL
  rw [if_neg (by omega), if_neg (by omega), if_neg (by omega)]
theorem airL_s {sp : zSp} {D2 : zD} {k : Nat} (hv : -1 ≤ (spK sp k).1) : airL sp D2 (k + 1) = (if (spK sp k).1 = -1 then zwr (zwr (airL sp D2 k) 66 k (spK sp k).1) 67 k (spK sp k).2.2.1 else zwr (zwr (zwr (airL sp D2 k) 66 k (spK sp k).1) 67 k (spK sp k).2.2.1) 39 (spK sp k).1.toNat (airL sp D2 k 39 (spK sp k).1.toNat + ((spK sp k).2.2.2 - (spK sp k).2.2.1))) := by
  have eS : ∀ c, airS sp c (k + 1) = airS sp c k + (if (spK sp k).1 = c then (spK sp k).2.2.2 - (spK sp k).2.2.1 else 0) := fun _ => rfl
  funext a i
  by_cases h39 : a = 39
  · subst h39
    rw [airL_39, eS]
    by_cases g : (spK sp k).1 = -1
    · rw [if_pos g, zwr_a (by omega), zwr_a (by omega), airL_39, if_neg (by omega)]
      omega
    · rw [if_neg g, zwr_e]
      by_cases h5 : i = (spK sp k).1.toNat
      · have hc : (spK sp k).1 = (i : Int) := by omega
        have hd : (39 : Nat) = 39 ∧ i = (spK sp k).1.toNat := ⟨rfl, h5⟩
        rw [if_pos hc, if_pos hd, airL_39, ← h5]
        omega
      · have hc : ¬ (spK sp k).1 = (i : Int) := by omega
        have hd : ¬ ((39 : Nat) = 39 ∧ i = (spK sp k).1.toNat) := fun q => h5 q.2
        rw [if_neg hc, if_neg hd, zwr_a (by omega), zwr_a (by omega), airL_39]
        omega
  · have e0 : (if (spK sp k).1 = -1 then zwr (zwr (airL sp D2 k) 66 k (spK sp k).1) 67 k (spK sp k).2.2.1 else zwr (zwr (zwr (airL sp D2 k) 66 k (spK sp k).1) 67 k (spK sp k).2.2.1) 39 (spK sp k).1.toNat (airL sp D2 k 39 (spK sp k).1.toNat + ((spK sp k).2.2.2 - (spK sp k).2.2.1))) a i = zwr (zwr (airL sp D2 k) 66 k (spK sp k).1) 67 k (spK sp k).2.2.1 a i := by
      split
      · rfl
      · rw [zwr_a h39]
    rw [e0]
    by_cases h66 : a = 66
    · subst h66
      rw [zwr_a (by omega), zwr_e, airL_66, airL_66]
      by_cases h1 : i = k
      · have hc : i < k + 1 := by omega
        have hd : (66 : Nat) = 66 ∧ i = k := ⟨rfl, h1⟩
        rw [if_pos hc, if_pos hd, h1]
      · have hd : ¬ ((66 : Nat) = 66 ∧ i = k) := fun q => h1 q.2
        rw [if_neg hd]
        by_cases h2 : i < k
        · have hc : i < k + 1 := by omega
          rw [if_pos hc, if_pos h2]
        · have hc : ¬ i < k + 1 := by omega
          rw [if_neg hc, if_neg h2]
    · by_cases h67 : a = 67
      · subst h67
        rw [zwr_e, airL_67]
        by_cases h1 : i = k
        · have hc : i < k + 1 := by omega
          have hd : (67 : Nat) = 67 ∧ i = k := ⟨rfl, h1⟩
          rw [if_pos hc, if_pos hd, h1]
        · have hd : ¬ ((67 : Nat) = 67 ∧ i = k) := fun q => h1 q.2
          rw [if_neg hd, zwr_a (by omega), airL_67]
          by_cases h2 : i < k
          · have hc : i < k + 1 := by omega
            rw [if_pos hc, if_pos h2]
          · have hc : ¬ i < k + 1 := by omega
            rw [if_neg hc, if_neg h2]
      · rw [zwr_a h67, zwr_a h66, airL_n ⟨h39, h66, h67⟩, airL_n ⟨h39, h66, h67⟩]
/-- the cells behind an aired day; D1: behind the layout -/
noncomputable def airD (D D1 : zD) : zD := zwr (airL (lyF D).2.1 (zwr (zwr (airA D D1 (D 32 15).toNat) 32 30 ((lyF D).2.1.length : Int)) 32 31 1) (lyF D).2.1.length) 32 16 (D 32 16 + 1)
theorem airL_o {sp : zSp} {D2 : zD} {k a i : Nat} (h : a ≠ 39 ∧ a ≠ 66 ∧ a ≠ 67) : airL sp D2 k a i = D2 a i := by
  unfold airL
  rw [if_neg (by omega), if_neg (by omega), if_neg (by omega)]
theorem airA_o {D D1 : zD} {n a i : Nat} (h : a ≠ 35 ∧ a ≠ 42) : airA D D1 n a i = D1 a i := by
  unfold airA
  rw [if_neg (by omega), if_neg (by omega)]
theorem cntA_b {D : zD} {c : Nat} : ∀ n, 0 ≤ cntA D c n ∧ cntA D c n ≤ n
  | 0 => ⟨Int.le_refl _, Int.le_refl _⟩
  | n + 1 => by
    have := cntA_b (D := D) (c := c) n
    unfold cntA
    split <;> omega
set_option maxRecDepth 20000 in
theorem m157 {h : zH} {D : zD} (hO : mOk D) : (D 32 16 = 999 ∧ zc 157 2 [.ref 32] (zV h D) = some (.inl (some (.int (Int32.ofInt 0))), zV h (zwr D 32 32 1))) ∨
    (D 32 16 ≠ 999 ∧ ∃ D1, gEq D D1 ∧ D1 32 32 = 0 ∧ FP.Core.fIsNaN (mLst D1) = false ∧ zc 157 2 [.ref 32] (zV h D) = some (.inl (some (.int (Int32.ofInt ((lyF D).2.1.length : Int)))), zV h (airD D D1))) := by
  have h16 := hO.1.2.1
  by_cases g : D 32 16 = 999
  · refine Or.inl ⟨g, ?_⟩
    rw [zc]
    clear hO
    simp (disch := first | omega | (simp (disch := omega) only [zwr_s, zwr_a, zwr_i]; omega)) only [zentry, zs0, zs1, zs2, zs3, zg_lo, zg_st, zg_st2, zg_ald, zg_ast, zs_ia, zs_i0, zcs, zg_ii, zi_max, zi_min, zi_abi, zi_abf, zi_fb, zi_bf, lget, lst, lst2, lc2, Option.map_some, zso, if_true, if_false, zc1, and_true, true_and, and_self, List.length_nil, List.length_cons, Nat.zero_le, reduceIte, reduceCtorEq, false_and, and_false, Bool.false_eq_true, zca_some, zr0, zr100, Option.bind_some, zb_none, zb_some, zrc, or_true, true_or, eq_self, ne_eq, not_true_eq_false, not_false_eq_true, zrt_i, zrt_zb, zrt_b, zrt_c, zrt_l, zrt_f, zrt_r, zrt_n, zrt_v, zft_0, zft_1, zft_zb, zft_3, zft_4, zft_5, zft_7r, zft_7n, iI_t, zb_i, zb_0, zb_1, Nat.reduceAdd, Nat.reduceLeDiff, Nat.reduceEqDiff, Nat.reduceSub, Int.reduceNeg, iI_add, iI_sub, iI_mul, iI_neg, iI_n, zbz, zchar_id, zin, zwr_s, zwr_a, zwr_i, if_pos, if_neg, Int.toNat_natCast, Int.natCast_zero, z157, g, zc32]
  · refine Or.inr ⟨g, ?_⟩
    obtain ⟨D1, e, f1, f2, f3, f4, f5, f6⟩ := m138_t (h := h) hO 0
    refine ⟨D1, f2, f1, f3, ?_⟩
    have h15 := hO.2.1.1
    have o15 : D1 32 15 = D 32 15 := f2 32 15 (by omega) (by omega)
    have o16 : D1 32 16 = D 32 16 := f2 32 16 (by omega) (by omega)
    obtain ⟨c1, c2, c3, c4, c5⟩ := lyF_ok hO
    have o35 : ∀ i, -1000000 ≤ D1 35 i ∧ D1 35 i ≤ 1000000 := fun i => by rw [f2 35 i (by omega) (by omega)]; exact hO.2.1.2.2.1 i
    have o40 : ∀ i, D1 40 i = D 40 i := fun i => f2 40 i (by omega) (by omega)
    have v40 : ∀ n : Nat, (n : Int) < D 32 15 → 0 ≤ D 40 n ∧ D 40 n < 12 := fun n hn => by have := (hO.2.1.2.1 n hn).1; have := hO.1.1; omega
    have v62 : ∀ n : Nat, (n : Int) < D 32 15 → D1 62 n = (lyF D).2.2.1 n := fun n hn => (f6 n hn).1
    have l1 := zloop (k := 157) (pc := 34) (fun i => [some (.ref 32), some (.int (Int32.ofInt (i : Int)))]) (fun i => zV h (airA D D1 i)) (D 32 15).toNat (fun i hi => by
      have w := v62 i (by omega)
      have v := v40 i (by omega)
      have b := (c5 i).1
      have p := o35 (D 40 i).toNat
      have q := cntA_b (D := D) (c := (D 40 i).toNat) i
      have a15 : airA D D1 i 32 15 = D 32 15 := by rw [airA_o (by omega), o15]
      have a62 : airA D D1 i 62 i = (lyF D).2.2.1 i := by rw [airA_o (by omega), w]
      have a40 : airA D D1 i 40 i = D 40 i := by rw [airA_o (by omega), o40]
      have a35 : -2000000 ≤ airA D D1 i 35 (D 40 i).toNat ∧ airA D D1 i 35 (D 40 i).toNat ≤ 2000000 := by unfold airA; rw [if_pos rfl]; omega
      conv => lhs; rw [z157_34]
      rw [airA_s v.1]
      clear hO e f1 f2 f3 f5 f6 c1 c3 c4 c5 o35 o40 v40 v62
      generalize airA D D1 i = DA at *
      generalize (lyF D).2.2.1 i = ba at *
      by_cases z : ba = 1
      · rw [if_pos z]
        simp (disch := first | omega | (simp (disch := omega) only [zwr_s, zwr_a, zwr_i]; omega)) only [zentry, zs0, zs1, zs2, zs3, zg_lo, zg_st, zg_st2, zg_ald, zg_ast, zs_ia, zs_i0, zcs, zg_ii, zi_max, zi_min, zi_abi, zi_abf, zi_fb, zi_bf, lget, lst, lst2, lc2, Option.map_some, zso, if_true, if_false, zc1, and_true, true_and, and_self, List.length_nil, List.length_cons, Nat.zero_le, reduceIte, reduceCtorEq, false_and, and_false, Bool.false_eq_true, zca_some, zr0, zr100, Option.bind_some, zb_none, zb_some, zrc, or_true, true_or, eq_self, ne_eq, not_true_eq_false, not_false_eq_true, zrt_i, zrt_zb, zrt_b, zrt_c, zrt_l, zrt_f, zrt_r, zrt_n, zrt_v, zft_0, zft_1, zft_zb, zft_3, zft_4, zft_5, zft_7r, zft_7n, iI_t, zb_i, zb_0, zb_1, Nat.reduceAdd, Nat.reduceLeDiff, Nat.reduceEqDiff, Nat.reduceSub, Int.reduceNeg, iI_add, iI_sub, iI_mul, iI_neg, iI_n, zbz, zchar_id, zin, zwr_s, zwr_a, zwr_i, if_pos, if_neg, Int.toNat_natCast, Int.natCast_zero, z157, a15, a62, a40, z, zc32, zc35, zc40, zc42, zc62]
      · rw [if_neg z]
        simp (disch := first | omega | (simp (disch := omega) only [zwr_s, zwr_a, zwr_i]; omega)) only [zentry, zs0, zs1, zs2, zs3, zg_lo, zg_st, zg_st2, zg_ald, zg_ast, zs_ia, zs_i0, zcs, zg_ii, zi_max, zi_min, zi_abi, zi_abf, zi_fb, zi_bf, lget, lst, lst2, lc2, Option.map_some, zso, if_true, if_false, zc1, and_true, true_and, and_self, List.length_nil, List.length_cons, Nat.zero_le, reduceIte, reduceCtorEq, false_and, and_false, Bool.false_eq_true, zca_some, zr0, zr100, Option.bind_some, zb_none, zb_some, zrc, or_true, true_or, eq_self, ne_eq, not_true_eq_false, not_false_eq_true, zrt_i, zrt_zb, zrt_b, zrt_c, zrt_l, zrt_f, zrt_r, zrt_n, zrt_v, zft_0, zft_1, zft_zb, zft_3, zft_4, zft_5, zft_7r, zft_7n, iI_t, zb_i, zb_0, zb_1, Nat.reduceAdd, Nat.reduceLeDiff, Nat.reduceEqDiff, Nat.reduceSub, Int.reduceNeg, iI_add, iI_sub, iI_mul, iI_neg, iI_n, zbz, zchar_id, zin, zwr_s, zwr_a, zwr_i, if_pos, if_neg, Int.toNat_natCast, Int.natCast_zero, z157, a15, a62, a40, zc32, zc35, zc40, zc42, zc62]) (D 32 15).toNat (Nat.le_refl _)
    have hnn : (((D 32 15).toNat : Nat) : Int) = D 32 15 := by omega
    have a0 : airA D D1 0 = D1 := by
      funext a i
      unfold airA cntA
      by_cases q : a = 35
      · subst q
        simp
      · simp [q]
    have l2 := zloop (k := 157) (pc := 98) (fun i => [some (.ref 32), some (.int (Int32.ofInt (i : Int)))]) (fun i => zV h (airL (lyF D).2.1 (zwr (zwr (airA D D1 (D 32 15).toNat) 32 30 ((lyF D).2.1.length : Int)) 32 31 1) i)) (lyF D).2.1.length (fun i hi => by
      obtain ⟨r1, -, r3, r4⟩ := mRp_K f5 i hi
      have b := spC_b c1 _ (spK_mem (sp := (lyF D).2.1) hi)
      have v := c3 _ (spK_mem (sp := (lyF D).2.1) hi)
      have h7 := hO.1.1
      conv => lhs; rw [z157_98]
      rw [airL_s (by omega)]
      have A : ∀ (a j : Nat), (a = 58 ∨ a = 59 ∨ a = 60) → airL (lyF D).2.1 (zwr (zwr (airA D D1 (D 32 15).toNat) 32 30 ((lyF D).2.1.length : Int)) 32 31 1) i a j = D1 a j := fun a j q => by rw [airL_o (by omega), zwr_a (by omega), zwr_a (by omega), airA_o (by omega)]
      have A21 : airL (lyF D).2.1 (zwr (zwr (airA D D1 (D 32 15).toNat) 32 30 ((lyF D).2.1.length : Int)) 32 31 1) i 32 21 = (lyF D).2.1.length := by rw [airL_o (by omega), zwr_i (by omega), zwr_i (by omega), airA_o (by omega), f4]
      have A58 := A 58 i (by omega)
      have A59 := A 59 i (by omega)
      have A60 := A 60 i (by omega)
      rw [r1] at A58
      rw [r3] at A59
      rw [r4] at A60
      clear hO e f1 f2 f3 f4 f5 f6 c1 c3 c4 c5 o35 o40 v40 v62 l1 A r1 r3 r4
      generalize airL (lyF D).2.1 (zwr (zwr (airA D D1 (D 32 15).toNat) 32 30 ((lyF D).2.1.length : Int)) 32 31 1) i = DL at *
      generalize spK (lyF D).2.1 i = sx at *
      generalize (lyF D).2.1.length = n at *
      by_cases z : sx.1 = -1
      · rw [if_pos z]
        simp (disch := first | omega | (simp (disch := omega) only [zwr_s, zwr_a, zwr_i]; omega)) only [zentry, zs0, zs1, zs2, zs3, zg_lo, zg_st, zg_st2, zg_ald, zg_ast, zs_ia, zs_i0, zcs, zg_ii, zi_max, zi_min, zi_abi, zi_abf, zi_fb, zi_bf, lget, lst, lst2, lc2, Option.map_some, zso, if_true, if_false, zc1, and_true, true_and, and_self, List.length_nil, List.length_cons, Nat.zero_le, reduceIte, reduceCtorEq, false_and, and_false, Bool.false_eq_true, zca_some, zr0, zr100, Option.bind_some, zb_none, zb_some, zrc, or_true, true_or, eq_self, ne_eq, not_true_eq_false, not_false_eq_true, zrt_i, zrt_zb, zrt_b, zrt_c, zrt_l, zrt_f, zrt_r, zrt_n, zrt_v, zft_0, zft_1, zft_zb, zft_3, zft_4, zft_5, zft_7r, zft_7n, iI_t, zb_i, zb_0, zb_1, Nat.reduceAdd, Nat.reduceLeDiff, Nat.reduceEqDiff, Nat.reduceSub, Int.reduceNeg, iI_add, iI_sub, iI_mul, iI_neg, iI_n, zbz, zchar_id, zin, zwr_s, zwr_a, zwr_i, if_pos, if_neg, Int.toNat_natCast, Int.natCast_zero, z157, A21, A58, A59, A60, z, zc32, zc39, zc58, zc59, zc60, zc66, zc67]
      · rw [if_neg z]
        simp (disch := first | omega | (simp (disch := omega) only [zwr_s, zwr_a, zwr_i]; omega)) only [zentry, zs0, zs1, zs2, zs3, zg_lo, zg_st, zg_st2, zg_ald, zg_ast, zs_ia, zs_i0, zcs, zg_ii, zi_max, zi_min, zi_abi, zi_abf, zi_fb, zi_bf, lget, lst, lst2, lc2, Option.map_some, zso, if_true, if_false, zc1, and_true, true_and, and_self, List.length_nil, List.length_cons, Nat.zero_le, reduceIte, reduceCtorEq, false_and, and_false, Bool.false_eq_true, zca_some, zr0, zr100, Option.bind_some, zb_none, zb_some, zrc, or_true, true_or, eq_self, ne_eq, not_true_eq_false, not_false_eq_true, zrt_i, zrt_zb, zrt_b, zrt_c, zrt_l, zrt_f, zrt_r, zrt_n, zrt_v, zft_0, zft_1, zft_zb, zft_3, zft_4, zft_5, zft_7r, zft_7n, iI_t, zb_i, zb_0, zb_1, Nat.reduceAdd, Nat.reduceLeDiff, Nat.reduceEqDiff, Nat.reduceSub, Int.reduceNeg, iI_add, iI_sub, iI_mul, iI_neg, iI_n, zbz, zchar_id, zin, zwr_s, zwr_a, zwr_i, if_pos, if_neg, Int.toNat_natCast, Int.natCast_zero, z157, A21, A58, A59, A60, zl_add, zc32, zc39, zc58, zc59, zc60, zc66, zc67]) (lyF D).2.1.length (Nat.le_refl _)
    have st : zc 157 2 [.ref 32] (zV h D) = zx 157 34 [some (.ref 32), some (.int (Int32.ofInt ((0 : Nat) : Int)))] [] (zV h D1) := by
      rw [zc]
      clear hO f2 f3 f5 f6 c1 c3 c4 c5 o35 o40 v40 v62 l1 l2 a0
      simp (disch := first | omega | (simp (disch := omega) only [zwr_s, zwr_a, zwr_i]; omega)) only [zentry, zs0, zs1, zs2, zs3, zg_lo, zg_st, zg_st2, zg_ald, zg_ast, zs_ia, zs_i0, zcs, zg_ii, zi_max, zi_min, zi_abi, zi_abf, zi_fb, zi_bf, lget, lst, lst2, lc2, Option.map_some, zso, if_true, if_false, zc1, and_true, true_and, and_self, List.length_nil, List.length_cons, Nat.zero_le, reduceIte, reduceCtorEq, false_and, and_false, Bool.false_eq_true, zca_some, zr0, zr100, Option.bind_some, zb_none, zb_some, zrc, or_true, true_or, eq_self, ne_eq, not_true_eq_false, not_false_eq_true, zrt_i, zrt_zb, zrt_b, zrt_c, zrt_l, zrt_f, zrt_r, zrt_n, zrt_v, zft_0, zft_1, zft_zb, zft_3, zft_4, zft_5, zft_7r, zft_7n, iI_t, zb_i, zb_0, zb_1, Nat.reduceAdd, Nat.reduceLeDiff, Nat.reduceEqDiff, Nat.reduceSub, Int.reduceNeg, iI_add, iI_sub, iI_mul, iI_neg, iI_n, zbz, zchar_id, zin, zwr_s, zwr_a, zwr_i, if_pos, if_neg, Int.toNat_natCast, Int.natCast_zero, z157, g, zt1, e, f1, zc32]
    have md : zx 157 34 [some (.ref 32), some (.int (Int32.ofInt (D 32 15)))] [] (zV h (airA D D1 (D 32 15).toNat)) = zx 157 98 [some (.ref 32), some (.int (Int32.ofInt ((0 : Nat) : Int)))] [] (zV h (zwr (zwr (airA D D1 (D 32 15).toNat) 32 30 ((lyF D).2.1.length : Int)) 32 31 1)) := by
      have a15 : airA D D1 (D 32 15).toNat 32 15 = D 32 15 := by rw [airA_o (by omega), o15]
      have a21 : airA D D1 (D 32 15).toNat 32 21 = (lyF D).2.1.length := by rw [airA_o (by omega), f4]
      conv => lhs; rw [z157_34]
      clear hO e f1 f2 f3 f4 f5 f6 c1 c3 c4 c5 o35 o40 v40 v62 l1 l2 a0 st
      generalize airA D D1 (D 32 15).toNat = DA at *
      generalize (lyF D).2.1.length = n at *
      simp (disch := first | omega | (simp (disch := omega) only [zwr_s, zwr_a, zwr_i]; omega)) only [zentry, zs0, zs1, zs2, zs3, zg_lo, zg_st, zg_st2, zg_ald, zg_ast, zs_ia, zs_i0, zcs, zg_ii, zi_max, zi_min, zi_abi, zi_abf, zi_fb, zi_bf, lget, lst, lst2, lc2, Option.map_some, zso, if_true, if_false, zc1, and_true, true_and, and_self, List.length_nil, List.length_cons, Nat.zero_le, reduceIte, reduceCtorEq, false_and, and_false, Bool.false_eq_true, zca_some, zr0, zr100, Option.bind_some, zb_none, zb_some, zrc, or_true, true_or, eq_self, ne_eq, not_true_eq_false, not_false_eq_true, zrt_i, zrt_zb, zrt_b, zrt_c, zrt_l, zrt_f, zrt_r, zrt_n, zrt_v, zft_0, zft_1, zft_zb, zft_3, zft_4, zft_5, zft_7r, zft_7n, iI_t, zb_i, zb_0, zb_1, Nat.reduceAdd, Nat.reduceLeDiff, Nat.reduceEqDiff, Nat.reduceSub, Int.reduceNeg, iI_add, iI_sub, iI_mul, iI_neg, iI_n, zbz, zchar_id, zin, zwr_s, zwr_a, zwr_i, if_pos, if_neg, Int.toNat_natCast, Int.natCast_zero, z157, a15, a21, zc32]
    rw [a0, hnn, md] at l1
    rw [airL_0] at l2
    rw [st, l1, l2, z157_98]
    unfold airD
    have A21 : airL (lyF D).2.1 (zwr (zwr (airA D D1 (D 32 15).toNat) 32 30 ((lyF D).2.1.length : Int)) 32 31 1) (lyF D).2.1.length 32 21 = (lyF D).2.1.length := by rw [airL_o (by omega), zwr_i (by omega), zwr_i (by omega), airA_o (by omega), f4]
    have A16 : airL (lyF D).2.1 (zwr (zwr (airA D D1 (D 32 15).toNat) 32 30 ((lyF D).2.1.length : Int)) 32 31 1) (lyF D).2.1.length 32 16 = D 32 16 := by rw [airL_o (by omega), zwr_i (by omega), zwr_i (by omega), airA_o (by omega), o16]
    have A30 : airL (lyF D).2.1 (zwr (zwr (airA D D1 (D 32 15).toNat) 32 30 ((lyF D).2.1.length : Int)) 32 31 1) (lyF D).2.1.length 32 30 = (lyF D).2.1.length := by rw [airL_o (by omega), zwr_i (by omega), zwr_s]
    clear hO e f1 f2 f3 f4 f5 f6 c1 c3 c4 c5 o35 o40 v40 v62 l1 l2 a0 st md
    generalize airL (lyF D).2.1 (zwr (zwr (airA D D1 (D 32 15).toNat) 32 30 ((lyF D).2.1.length : Int)) 32 31 1) (lyF D).2.1.length = DL at *
    generalize (lyF D).2.1.length = n at *
    simp (disch := first | omega | (simp (disch := omega) only [zwr_s, zwr_a, zwr_i]; omega)) only [zentry, zs0, zs1, zs2, zs3, zg_lo, zg_st, zg_st2, zg_ald, zg_ast, zs_ia, zs_i0, zcs, zg_ii, zi_max, zi_min, zi_abi, zi_abf, zi_fb, zi_bf, lget, lst, lst2, lc2, Option.map_some, zso, if_true, if_false, zc1, and_true, true_and, and_self, List.length_nil, List.length_cons, Nat.zero_le, reduceIte, reduceCtorEq, false_and, and_false, Bool.false_eq_true, zca_some, zr0, zr100, Option.bind_some, zb_none, zb_some, zrc, or_true, true_or, eq_self, ne_eq, not_true_eq_false, not_false_eq_true, zrt_i, zrt_zb, zrt_b, zrt_c, zrt_l, zrt_f, zrt_r, zrt_n, zrt_v, zft_0, zft_1, zft_zb, zft_3, zft_4, zft_5, zft_7r, zft_7n, iI_t, zb_i, zb_0, zb_1, Nat.reduceAdd, Nat.reduceLeDiff, Nat.reduceEqDiff, Nat.reduceSub, Int.reduceNeg, iI_add, iI_sub, iI_mul, iI_neg, iI_n, zbz, zchar_id, zin, zwr_s, zwr_a, zwr_i, if_pos, if_neg, Int.toNat_natCast, Int.natCast_zero, z157, A21, A16, A30, zc32]

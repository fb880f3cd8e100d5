/-! lists: an element put between, one taken out -/
set_option maxRecDepth 20000 in
theorem c168 {h : zH} {X D : zD} {a : Nat} {i : Int} (ha : a = 4 ∨ a = 5 ∨ 70 ≤ a) (hk : zk h a = 7) (hn : 0 ≤ X a 2 ∧ X a 2 ≤ 1000) (hi : 0 ≤ i ∧ i ≤ X a 2) : zc 168 2 [.ref a, .int (Int32.ofInt i)] (zV (zU h X) D) = some (.inl none, zV (zU h X) D) := by
  rw [zc]
  simp (disch := first | omega | (simp (disch := omega) only [zwr_s, zwr_a, zwr_i, zn_put, zn_new, zn_fil, zn_chg, zV_n]; omega)) only [zentry, zs0, zs1, zs2, zs3, zg_lo, zg_st, zg_st2, zg_ald, zg_ast, zs_ia, zs_i0, zcs, zg_ii, zi_max, zi_min, zi_abi, zi_abf, zi_fb, zi_bf, lget, lst, lst2, lc2, Option.map_some, zso, if_true, if_false, zc1, and_true, true_and, and_self, List.length_nil, List.length_cons, Nat.zero_le, reduceIte, reduceCtorEq, false_and, and_false, Bool.false_eq_true, zca_some, zr0, zr100, Option.bind_some, zb_none, zb_some, zrc, or_true, true_or, eq_self, ne_eq, not_true_eq_false, not_false_eq_true, zrt_i, zrt_zb, zrt_b, zrt_c, zrt_l, zrt_f, zrt_r, zrt_n, zrt_v, zft_0, zft_1, zft_zb, zft_3, zft_4, zft_5, zft_7r, zft_7n, iI_t, zb_i, zb_0, zb_1, Nat.reduceAdd, Nat.reduceLeDiff, Nat.reduceEqDiff, Nat.reduceSub, Int.reduceNeg, iI_add, iI_sub, iI_mul, iI_neg, iI_n, zbz, zchar_id, zin, zwr_s, zwr_a, zwr_i, if_pos, if_neg, Int.toNat_natCast, Int.natCast_zero, Int.reduceToNat, z168, zuL ha hk]
set_option maxRecDepth 20000 in
/-- .. from the place where there is room -/
theorem c167_r {h : zH} {X D : zD} {a d K v : Nat} {n i : Int} (ha : a = 4 ∨ a = 5 ∨ 70 ≤ a) (hk : zk h a = 7) (h70 : 70 ≤ d) (kd : zk h d = 26) (hK : K < 20) (hi : 0 ≤ i ∧ i ≤ n) (hr : n < zl h d) (hl : zl h d ≤ 100) (hv : 70 ≤ v ∧ zk h v = K) (he : ∀ j : Nat, (j : Int) < n → 70 ≤ X d j ∧ zk h (X d j).toNat = K) :
    zx 167 38 [some (.ref a), some (.int (Int32.ofInt i)), some (.ref v), some (.int (Int32.ofInt n)), some (.ref d)] [] (zV (zU h X) D) = some (.inl none, zV (zU h (zwr (zwr (zcp X d i.toNat d (i.toNat + 1) (n - i).toNat) d i.toNat v) a 2 (n + 1))) D) := by
  have kv : ∀ X D, zk (zV (zU h X) D) v = K := fun X D => by rw [zW_k (by omega)]; exact hv.2
  have ecp := fun nx ls st => zg_cp (k := 167) (nx := nx) (ls := ls) (st := st) (D := D) (X := X) (sp := i) (dp := i + 1) (n := n - i) h70 h70 kd kd (by omega) (by omega) (by omega) (fun j h1 h2 => by
    have := he j (by omega)
    exact ⟨this.1, by omega⟩)
  rw [show (i + 1).toNat = i.toNat + 1 by omega] at ecp
  clear he
  simp (disch := first | omega | (simp (disch := omega) only [zwr_s, zwr_a, zwr_i, zn_put, zn_new, zn_fil, zn_chg, zV_n]; omega)) only [zentry, zs0, zs1, zs2, zs3, zg_lo, zg_st, zg_st2, zg_ald, zg_ast, zs_ia, zs_i0, zcs, zg_ii, zi_max, zi_min, zi_abi, zi_abf, zi_fb, zi_bf, lget, lst, lst2, lc2, Option.map_some, zso, if_true, if_false, zc1, and_true, true_and, and_self, List.length_nil, List.length_cons, Nat.zero_le, reduceIte, reduceCtorEq, false_and, and_false, Bool.false_eq_true, zca_some, zr0, zr100, Option.bind_some, zb_none, zb_some, zrc, or_true, true_or, eq_self, ne_eq, not_true_eq_false, not_false_eq_true, zrt_i, zrt_zb, zrt_b, zrt_c, zrt_l, zrt_f, zrt_r, zrt_n, zrt_v, zft_0, zft_1, zft_zb, zft_3, zft_4, zft_5, zft_7r, zft_7n, iI_t, zb_i, zb_0, zb_1, Nat.reduceAdd, Nat.reduceLeDiff, Nat.reduceEqDiff, Nat.reduceSub, Int.reduceNeg, iI_add, iI_sub, iI_mul, iI_neg, iI_n, zbz, zchar_id, zin, zwr_s, zwr_a, zwr_i, if_pos, if_neg, Int.toNat_natCast, Int.natCast_zero, Int.reduceToNat, z167, zuL ha hk, zuA h70 kd, kv, ecp]
set_option maxRecDepth 20000 in
theorem c167 {h : zH} {X D : zD} {a K v : Nat} {n i : Int} (ha : a = 4 ∨ a = 5 ∨ 70 ≤ a) (han : a < zn h) (hn : 70 ≤ zn h) (hl : lsO h X a n K) (hK : K < 20) (hn15 : n < 15) (k1 : zk h 1 = 31) (l1 : zl h 1 = 0) (hi : 0 ≤ i ∧ i ≤ n) (hv : 70 ≤ v ∧ v < zn h ∧ zk h v = K) :
    ∃ h' X', zc 167 5 [.ref a, .int (Int32.ofInt i), .ref v] (zV (zU h X) D) = some (.inl none, zV (zU h' X') D) ∧ lsA h X a n i v K h' X' := by
  have e1 : zwr X a 0 (X a 0 + 1) a 1 = X a 1 := zwr_i (by omega)
  have e2 : zwr X a 0 (X a 0 + 1) a 2 = X a 2 := zwr_i (by omega)
  have hl0 := hl
  have hlw := lsO_w (x := X a 0 + 1) hl
  obtain ⟨⟨h1, h2, h3⟩, h4, h5⟩ := hl
  have e168 := c168 (D := D) (X := X) ha h1 (by omega) (i := i) (by omega)
  have el : ∀ j : Nat, (j : Int) < n → lsE (zwr X a 0 (X a 0 + 1)) a j = lsE X a j := fun j hj => by
    unfold lsE
    rw [e1]
    have := (lsO_d hl0 (by omega)).2.2.2.2
    rw [zwr_a this]
  have p1 : 0 ≤ X a 1 := by omega
  have fin : ∀ (f : Int → Nat) , True := fun _ => trivial
  by_cases hf : (n = 0 ∧ X a 1 = 1) ∨ (n = 10 ∧ 70 ≤ X a 1 ∧ zl h (X a 1).toNat = 10)
  · obtain ⟨h', X', e, s1, s2, s3, s4, s5, s6⟩ := c170 (D := D) ha han hn hlw hK k1 l1 (by rw [e1]; exact hf.imp id fun q => ⟨q.1, q.2.2⟩)
    obtain ⟨t1, t2, t3, t4⟩ := lsO_ins (v := v) (i := i) s2 s4.1 s3 (by omega) ⟨hv.1, by have := s1.1; omega, by rw [(s1.2.2.2 v hv.2.1).1]; exact hv.2.2⟩ rfl
    obtain ⟨u1, u2, u3, ⟨u4, u5, u6, u7, u8⟩, u9⟩ := lsO_d s2 s4.1
    have er := c167_r (D := D) (v := v) (n := n) (i := i) ha u1 (d := (X' a 1).toNat) (by omega) u5 hK (by omega) s3 (by omega) ⟨hv.1, by rw [(s1.2.2.2 v hv.2.1).1]; exact hv.2.2⟩ (fun j hj => by
      have := s2.2.2 j hj
      exact ⟨this.1, this.2.2⟩)
    refine ⟨h', _, ?_, s1, t1, fun j hj => ?_, fun b k hb hb1 hb2 => ?_, fun k k0 k1 k2 => ?_, ?_⟩
    · have ln : zl (zV (zU h (zwr X a 0 (X a 0 + 1))) D) (X a 1).toNat = n.toNat := by
        rcases hf with ⟨rfl, q⟩ | ⟨rfl, q1, q2⟩
        · rw [q, show (1 : Int).toNat = 1 from rfl, zV_l (by omega), zU_l, l1]
          rfl
        · rw [zV_l (by omega), zU_l, q2]
          rfl
      have kn : 20 ≤ zk (zV (zU h (zwr X a 0 (X a 0 + 1))) D) (X a 1).toNat ∧ zk (zV (zU h (zwr X a 0 (X a 0 + 1))) D) (X a 1).toNat < 40 := by
        rcases hf with ⟨rfl, q⟩ | ⟨rfl, q1, q2⟩
        · rw [q, show (1 : Int).toNat = 1 from rfl, zV_k (by omega), zU_k, k1]
          omega
        · rw [zV_k (by omega), zU_k]
          rcases h4 with h4 | ⟨q1, q2, q3, q4, q5⟩
          · omega
          · rw [q2]; omega
      obtain ⟨kn1, kn2⟩ := kn
      have nn : ((n.toNat : Nat) : Int) = n := by omega
      rw [← er, zc]
      clear t1 t2 t3 t4 s5 s6 hf h4 h5 el er fin
      simp (disch := first | omega | (simp (disch := omega) only [zwr_s, zwr_a, zwr_i, zn_put, zn_new, zn_fil, zn_chg, zV_n]; omega)) only [zentry, zs0, zs1, zs2, zs3, zg_lo, zg_st, zg_st2, zg_ald, zg_ast, zs_ia, zs_i0, zcs, zg_ii, zi_max, zi_min, zi_abi, zi_abf, zi_fb, zi_bf, lget, lst, lst2, lc2, Option.map_some, zso, if_true, if_false, zc1, and_true, true_and, and_self, List.length_nil, List.length_cons, Nat.zero_le, reduceIte, reduceCtorEq, false_and, and_false, Bool.false_eq_true, zca_some, zr0, zr100, Option.bind_some, zb_none, zb_some, zrc, or_true, true_or, eq_self, ne_eq, not_true_eq_false, not_false_eq_true, zrt_i, zrt_zb, zrt_b, zrt_c, zrt_l, zrt_f, zrt_r, zrt_n, zrt_v, zft_0, zft_1, zft_zb, zft_3, zft_4, zft_5, zft_7r, zft_7n, iI_t, zb_i, zb_0, zb_1, Nat.reduceAdd, Nat.reduceLeDiff, Nat.reduceEqDiff, Nat.reduceSub, Int.reduceNeg, iI_add, iI_sub, iI_mul, iI_neg, iI_n, zbz, zchar_id, zin, zwr_s, zwr_a, zwr_i, if_pos, if_neg, Int.toNat_natCast, Int.natCast_zero, Int.reduceToNat, z167, zuL ha h1, ln, kn1, kn2, e, e1, e2, h2, e168, zt1, zt2, nn]
    · rw [t2 j hj]
      have el2 : ∀ j : Nat, (j : Int) < n → lsE X' a j = lsE X a j := fun j hj => by
        rw [← el j hj]
        unfold lsE
        rw [s5 j hj]
      by_cases g : (j : Int) < i
      · rw [if_pos g, if_pos g, el2 j (by omega)]
      · rw [if_neg g, if_neg g]
        by_cases g2 : (j : Int) = i
        · rw [if_pos g2, if_pos g2]
        · rw [if_neg g2, if_neg g2, el2 (j - 1) (by omega)]
    · rw [t3 b k hb1 (by omega), s6 b k hb (Or.inl hb1), zwr_a hb1]
    · rw [t4 k k2, s6 a k han (Or.inr k1), zwr_i k0]
    · right
      rw [t4 1 (by omega)]
      exact s4.2
  · rcases h4 with h4 | ⟨q1, q2, q3, q4, q5⟩
    · exact absurd (Or.inl h4) hf
    have hroom : n < zl h (X a 1).toNat := by omega
    obtain ⟨t1, t2, t3, t4⟩ := lsO_ins (v := v) (i := i) hlw (by rw [e1]; exact q1.1) (by rw [e1]; exact hroom) (by omega) hv rfl
    have hne := (lsO_d hl0 (by omega)).2.2.2.2
    have er := c167_r (D := D) (X := zwr X a 0 (X a 0 + 1)) (v := v) (n := n) (i := i) ha h1 (d := (X a 1).toNat) (by omega) q2 hK (by omega) hroom (by omega) ⟨hv.1, hv.2.2⟩ (fun j hj => by
      have := h5 j hj
      rw [zwr_a hne]
      exact ⟨this.1, this.2.2⟩)
    rw [e1] at t1 t2 t3 t4
    refine ⟨h, _, ?_, (shX.rf).w (by omega) (by omega), t1, fun j hj => ?_, fun b k hb hb1 hb2 => ?_, fun k k0 k1 k2 => ?_, ?_⟩
    · rw [← er, zc]
      clear t1 t2 t3 t4 hf h5 el er fin
      simp (disch := first | omega | (simp (disch := omega) only [zwr_s, zwr_a, zwr_i, zn_put, zn_new, zn_fil, zn_chg, zV_n]; omega)) only [zentry, zs0, zs1, zs2, zs3, zg_lo, zg_st, zg_st2, zg_ald, zg_ast, zs_ia, zs_i0, zcs, zg_ii, zi_max, zi_min, zi_abi, zi_abf, zi_fb, zi_bf, lget, lst, lst2, lc2, Option.map_some, zso, if_true, if_false, zc1, and_true, true_and, and_self, List.length_nil, List.length_cons, Nat.zero_le, reduceIte, reduceCtorEq, false_and, and_false, Bool.false_eq_true, zca_some, zr0, zr100, Option.bind_some, zb_none, zb_some, zrc, or_true, true_or, eq_self, ne_eq, not_true_eq_false, not_false_eq_true, zrt_i, zrt_zb, zrt_b, zrt_c, zrt_l, zrt_f, zrt_r, zrt_n, zrt_v, zft_0, zft_1, zft_zb, zft_3, zft_4, zft_5, zft_7r, zft_7n, iI_t, zb_i, zb_0, zb_1, Nat.reduceAdd, Nat.reduceLeDiff, Nat.reduceEqDiff, Nat.reduceSub, Int.reduceNeg, iI_add, iI_sub, iI_mul, iI_neg, iI_n, zbz, zchar_id, zin, zwr_s, zwr_a, zwr_i, if_pos, if_neg, Int.toNat_natCast, Int.natCast_zero, Int.reduceToNat, z167, zuL ha h1, zuA (a := (X a 1).toNat) (by omega) q2, e1, e2, h2, e168, zt1, zt2]
    · rw [t2 j hj]
      by_cases g : (j : Int) < i
      · rw [if_pos g, if_pos g, el j (by omega)]
      · rw [if_neg g, if_neg g]
        by_cases g2 : (j : Int) = i
        · rw [if_pos g2, if_pos g2]
        · rw [if_neg g2, if_neg g2, el (j - 1) (by omega)]
    · rw [t3 b k hb1 hb2, zwr_a hb1]
    · rw [t4 k k2, zwr_i k0]
    · left
      rw [t4 1 (by omega), zwr_i (by omega)]
/-- what a removal leaves -/
def lsM (h : zH) (X : zD) (a : Nat) (n i : Int) (K : Nat) (X' : zD) : Prop := lsO h X' a (n - 1) K ∧ (∀ j : Nat, (j : Int) < n - 1 → lsE X' a j = if (j : Int) < i then lsE X a j else lsE X a (j + 1)) ∧ (∀ b k, b ≠ a → b ≠ (X a 1).toNat → X' b k = X b k) ∧ (∀ k, k ≠ 0 → k ≠ 2 → X' a k = X a k)
set_option maxRecDepth 20000 in
theorem c174 {h : zH} {X D : zD} {a K : Nat} {n i : Int} (ha : a = 4 ∨ a = 5 ∨ 70 ≤ a) (hl : lsO h X a n K) (hK : K < 20) (hi : 0 ≤ i ∧ i < n) :
    ∃ X', zc 174 4 [.ref a, .ref (X a 1).toNat, .int (Int32.ofInt i)] (zV (zU h X) D) = some (.inl none, zV (zU h X') D) ∧ lsM h X a n i K X' := by
  have h70 : 70 ≤ X a 1 := by
    rcases hl.2.1 with q | q
    · omega
    · exact q.1.1
  obtain ⟨h1, h2, h3, ⟨q1, q2, q3, q4, q5⟩, hne⟩ := lsO_d hl h70
  obtain ⟨-, -, h5⟩ := hl
  have e1 : zwr X a 0 (X a 0 + 1) a 1 = X a 1 := zwr_i (by omega)
  have e2 : zwr X a 0 (X a 0 + 1) a 2 = X a 2 := zwr_i (by omega)
  have ecp := fun nx ls st => zg_cp (k := 174) (nx := nx) (ls := ls) (st := st) (D := D) (h := h) (X := zwr X a 0 (X a 0 + 1)) (a := (X a 1).toNat) (b := (X a 1).toNat) (sp := i + 1) (dp := i) (n := n - 1 - i) (by omega) (by omega) q2 q2 (by omega) (by omega) (by omega) (fun j h1 h2 => by
    have := h5 j (by omega)
    rw [zwr_a hne]
    exact ⟨this.1, by omega⟩)
  refine ⟨zwr (zwr (zcp (zwr X a 0 (X a 0 + 1)) (X a 1).toNat (i + 1).toNat (X a 1).toNat i.toNat (n - 1 - i).toNat) a 2 (n - 1)) (X a 1).toNat (n - 1).toNat (-1), ?_, ?_⟩
  · rw [zc]
    clear h5
    by_cases g : i < n - 1
    · simp (disch := first | omega | (simp (disch := omega) only [zwr_s, zwr_a, zwr_i, zn_put, zn_new, zn_fil, zn_chg, zV_n]; omega)) only [zentry, zs0, zs1, zs2, zs3, zg_lo, zg_st, zg_st2, zg_ald, zg_ast, zs_ia, zs_i0, zcs, zg_ii, zi_max, zi_min, zi_abi, zi_abf, zi_fb, zi_bf, lget, lst, lst2, lc2, Option.map_some, zso, if_true, if_false, zc1, and_true, true_and, and_self, List.length_nil, List.length_cons, Nat.zero_le, reduceIte, reduceCtorEq, false_and, and_false, Bool.false_eq_true, zca_some, zr0, zr100, Option.bind_some, zb_none, zb_some, zrc, or_true, true_or, eq_self, ne_eq, not_true_eq_false, not_false_eq_true, zrt_i, zrt_zb, zrt_b, zrt_c, zrt_l, zrt_f, zrt_r, zrt_n, zrt_v, zft_0, zft_1, zft_zb, zft_3, zft_4, zft_5, zft_7r, zft_7n, iI_t, zb_i, zb_0, zb_1, Nat.reduceAdd, Nat.reduceLeDiff, Nat.reduceEqDiff, Nat.reduceSub, Int.reduceNeg, iI_add, iI_sub, iI_mul, iI_neg, iI_n, zbz, zchar_id, zin, zwr_s, zwr_a, zwr_i, if_pos, if_neg, Int.toNat_natCast, Int.natCast_zero, Int.reduceToNat, z174, zuL ha h1, zuA (a := (X a 1).toNat) (by omega) q2, ecp, e1, e2, h2]
    · rw [show (n - 1 - i).toNat = 0 by omega, zcp_0]
      simp (disch := first | omega | (simp (disch := omega) only [zwr_s, zwr_a, zwr_i, zn_put, zn_new, zn_fil, zn_chg, zV_n]; omega)) only [zentry, zs0, zs1, zs2, zs3, zg_lo, zg_st, zg_st2, zg_ald, zg_ast, zs_ia, zs_i0, zcs, zg_ii, zi_max, zi_min, zi_abi, zi_abf, zi_fb, zi_bf, lget, lst, lst2, lc2, Option.map_some, zso, if_true, if_false, zc1, and_true, true_and, and_self, List.length_nil, List.length_cons, Nat.zero_le, reduceIte, reduceCtorEq, false_and, and_false, Bool.false_eq_true, zca_some, zr0, zr100, Option.bind_some, zb_none, zb_some, zrc, or_true, true_or, eq_self, ne_eq, not_true_eq_false, not_false_eq_true, zrt_i, zrt_zb, zrt_b, zrt_c, zrt_l, zrt_f, zrt_r, zrt_n, zrt_v, zft_0, zft_1, zft_zb, zft_3, zft_4, zft_5, zft_7r, zft_7n, iI_t, zb_i, zb_0, zb_1, Nat.reduceAdd, Nat.reduceLeDiff, Nat.reduceEqDiff, Nat.reduceSub, Int.reduceNeg, iI_add, iI_sub, iI_mul, iI_neg, iI_n, zbz, zchar_id, zin, zwr_s, zwr_a, zwr_i, if_pos, if_neg, Int.toNat_natCast, Int.natCast_zero, Int.reduceToNat, z174, zuL ha h1, zuA (a := (X a 1).toNat) (by omega) q2, e1, e2, h2]
  · have w1 : ∀ k, k ≠ 0 → k ≠ 2 → zwr (zwr (zcp (zwr X a 0 (X a 0 + 1)) (X a 1).toNat (i + 1).toNat (X a 1).toNat i.toNat (n - 1 - i).toNat) a 2 (n - 1)) (X a 1).toNat (n - 1).toNat (-1) a k = X a k := fun k k0 k2 => by
      rw [zwr_a (fun e => hne e.symm), zwr_i k2]
      unfold zcp
      rw [if_neg (fun q => hne q.1.symm), zwr_i k0]
    have w2 : ∀ j : Nat, (j : Int) < n - 1 → zwr (zwr (zcp (zwr X a 0 (X a 0 + 1)) (X a 1).toNat (i + 1).toNat (X a 1).toNat i.toNat (n - 1 - i).toNat) a 2 (n - 1)) (X a 1).toNat (n - 1).toNat (-1) (X a 1).toNat j = if (j : Int) < i then X (X a 1).toNat j else X (X a 1).toNat (j + 1) := fun j hj => by
      rw [zwr_i (by omega), zwr_a hne]
      unfold zcp
      by_cases g : (j : Int) < i
      · rw [if_neg (by omega), zwr_a hne, if_pos g]
      · rw [if_pos (by omega), zwr_a hne, if_neg g, show (i + 1).toNat + (j - i.toNat) = j + 1 by omega]
    have w3 : zwr (zwr (zcp (zwr X a 0 (X a 0 + 1)) (X a 1).toNat (i + 1).toNat (X a 1).toNat i.toNat (n - 1 - i).toNat) a 2 (n - 1)) (X a 1).toNat (n - 1).toNat (-1) (X a 1).toNat 100 = a := by
      rw [zwr_i (by omega), zwr_a hne]
      unfold zcp
      rw [if_neg (by omega), zwr_a hne]
      exact q5
    have w4 : zwr (zwr (zcp (zwr X a 0 (X a 0 + 1)) (X a 1).toNat (i + 1).toNat (X a 1).toNat i.toNat (n - 1 - i).toNat) a 2 (n - 1)) (X a 1).toNat (n - 1).toNat (-1) a 2 = n - 1 := by
      rw [zwr_a (fun e => hne e.symm), zwr_s]
    have w5 : ∀ b k, b ≠ a → b ≠ (X a 1).toNat → zwr (zwr (zcp (zwr X a 0 (X a 0 + 1)) (X a 1).toNat (i + 1).toNat (X a 1).toNat i.toNat (n - 1 - i).toNat) a 2 (n - 1)) (X a 1).toNat (n - 1).toNat (-1) b k = X b k := fun b k hb hd => by
      rw [zwr_a hd, zwr_a hb]
      unfold zcp
      rw [if_neg (fun q => hd q.1), zwr_a hb]
    generalize zwr (zwr (zcp (zwr X a 0 (X a 0 + 1)) (X a 1).toNat (i + 1).toNat (X a 1).toNat i.toNat (n - 1 - i).toNat) a 2 (n - 1)) (X a 1).toNat (n - 1).toNat (-1) = Y at *
    refine ⟨?_, fun j hj => ?_, w5, w1⟩
    · unfold lsO
      rw [w1 1 (by omega) (by omega)]
      refine ⟨⟨h1, w4, by omega⟩, Or.inr ⟨⟨h70, q1⟩, q2, by omega, q4, w3⟩, fun j hj => ?_⟩
      rw [w2 j hj]
      split
      · exact h5 j (by omega)
      · exact h5 (j + 1) (by omega)
    · unfold lsE
      rw [w1 1 (by omega) (by omega), w2 j hj]
      split <;> rfl
set_option maxRecDepth 20000 in
theorem c173 {h : zH} {X D : zD} {a K : Nat} {n i : Int} (ha : a = 4 ∨ a = 5 ∨ 70 ≤ a) (hl : lsO h X a n K) (hK : K < 20) (hi : 0 ≤ i ∧ i < n) :
    ∃ X', zc 173 4 [.ref a, .int (Int32.ofInt i)] (zV (zU h X) D) = some (.inl (some (.ref (lsE X a i.toNat))), zV (zU h X') D) ∧ lsM h X a n i K X' := by
  obtain ⟨X', e, hM⟩ := c174 (D := D) ha hl hK hi
  refine ⟨X', ?_, hM⟩
  have h70 : 70 ≤ X a 1 := by
    rcases hl.2.1 with q | q
    · omega
    · exact q.1.1
  obtain ⟨h1, h2, h3, ⟨q1, q2, q3, q4, q5⟩, hne⟩ := lsO_d hl h70
  obtain ⟨-, -, h5⟩ := hl
  have h5 := (h5 i.toNat (by omega)).1
  have e6 := c176 (i := i) (n := n) (h := zV (zU h X) D) (by omega) (by omega)
  rw [zc]
  unfold lsE
  clear hM
  simp (disch := first | omega | (simp (disch := omega) only [zwr_s, zwr_a, zwr_i, zn_put, zn_new, zn_fil, zn_chg, zV_n]; omega)) only [zentry, zs0, zs1, zs2, zs3, zg_lo, zg_st, zg_st2, zg_ald, zg_ast, zs_ia, zs_i0, zcs, zg_ii, zi_max, zi_min, zi_abi, zi_abf, zi_fb, zi_bf, lget, lst, lst2, lc2, Option.map_some, zso, if_true, if_false, zc1, and_true, true_and, and_self, List.length_nil, List.length_cons, Nat.zero_le, reduceIte, reduceCtorEq, false_and, and_false, Bool.false_eq_true, zca_some, zr0, zr100, Option.bind_some, zb_none, zb_some, zrc, or_true, true_or, eq_self, ne_eq, not_true_eq_false, not_false_eq_true, zrt_i, zrt_zb, zrt_b, zrt_c, zrt_l, zrt_f, zrt_r, zrt_n, zrt_v, zft_0, zft_1, zft_zb, zft_3, zft_4, zft_5, zft_7r, zft_7n, iI_t, zb_i, zb_0, zb_1, Nat.reduceAdd, Nat.reduceLeDiff, Nat.reduceEqDiff, Nat.reduceSub, Int.reduceNeg, iI_add, iI_sub, iI_mul, iI_neg, iI_n, zbz, zchar_id, zin, zwr_s, zwr_a, zwr_i, if_pos, if_neg, Int.toNat_natCast, Int.natCast_zero, Int.reduceToNat, z173, zuL ha h1, zuA (a := (X a 1).toNat) (by omega) q2, e, e6, h2, zt2, zt3]

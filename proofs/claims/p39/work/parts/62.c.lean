/-! lists: an element more, one less -/
theorem lsO_d {h : zH} {X : zD} {a K : Nat} {n : Int} (hl : lsO h X a n K) (h70 : 70 ≤ X a 1) : zk h a = 7 ∧ X a 2 = n ∧ 0 ≤ n ∧ (X a 1 < zn h ∧ zk h (X a 1).toNat = 26 ∧ n ≤ zl h (X a 1).toNat ∧ (zl h (X a 1).toNat = 10 ∨ zl h (X a 1).toNat = 15) ∧ X (X a 1).toNat 100 = a) ∧ (X a 1).toNat ≠ a := by
  obtain ⟨⟨h1, h2, h3⟩, h4, h5⟩ := hl
  rcases h4 with h4 | ⟨q1, q2, q3, q4, q5⟩
  · omega
  · refine ⟨h1, h2, h3, ⟨q1.2, q2, q3, q4, q5⟩, fun e => ?_⟩
    rw [e, h1] at q2
    omega
theorem lsO_w {h : zH} {X : zD} {a K : Nat} {n x : Int} (hl : lsO h X a n K) : lsO h (zwr X a 0 x) a n K := by
  have e1 : zwr X a 0 x a 1 = X a 1 := zwr_i (by omega)
  have hd := fun q => (lsO_d hl q).2.2.2.2
  obtain ⟨⟨h1, h2, h3⟩, h4, h5⟩ := hl
  unfold lsO
  rw [e1]
  refine ⟨⟨h1, by rw [zwr_i (by omega)]; exact h2, h3⟩, ?_, fun i hi => ?_⟩
  · rcases h4 with h4 | ⟨q1, q2, q3, q4, q5⟩
    · exact Or.inl h4
    · refine Or.inr ⟨q1, q2, q3, q4, ?_⟩
      rw [zwr_a (hd q1.1)]
      exact q5
  · rcases h4 with h4 | ⟨q1, q2, q3, q4, q5⟩
    · omega
    · rw [zwr_a (hd q1.1)]
      exact h5 i hi
theorem lsO_ins {h : zH} {X : zD} {a K v : Nat} {n i : Int} (hl : lsO h X a n K) (h70 : 70 ≤ X a 1) (hr : n < zl h (X a 1).toNat) (hi : 0 ≤ i ∧ i ≤ n) (hv : 70 ≤ v ∧ v < zn h ∧ zk h v = K) {Y : zD}
    (hY : Y = zwr (zwr (zcp X (X a 1).toNat i.toNat (X a 1).toNat (i.toNat + 1) (n - i).toNat) (X a 1).toNat i.toNat v) a 2 (n + 1)) :
    lsO h Y a (n + 1) K ∧ (∀ j : Nat, (j : Int) ≤ n → lsE Y a j = if (j : Int) < i then lsE X a j else if (j : Int) = i then v else lsE X a (j - 1)) ∧ (∀ b k, b ≠ a → b ≠ (X a 1).toNat → Y b k = X b k) ∧ (∀ k, k ≠ 2 → Y a k = X a k) := by
  obtain ⟨h1, h2, h3, ⟨q1, q2, q3, q4, q5⟩, hne⟩ := lsO_d hl h70
  obtain ⟨-, -, h5⟩ := hl
  have e1 : Y a 1 = X a 1 := by
    rw [hY, zwr_i (by omega), zwr_a (fun e => hne e.symm)]
    unfold zcp
    rw [if_neg (by omega)]
  have ed : ∀ j : Nat, (j : Int) ≤ n → Y (X a 1).toNat j = if (j : Int) < i then X (X a 1).toNat j else if (j : Int) = i then (v : Int) else X (X a 1).toNat (j - 1) := by
    intro j hj
    rw [hY, zwr_a hne, zwr_e]
    by_cases g1 : (j : Int) = i
    · rw [if_pos (by omega), if_neg (by omega), if_pos g1]
    · rw [if_neg (by omega)]
      unfold zcp
      by_cases g2 : (j : Int) < i
      · rw [if_neg (by omega), if_pos g2]
      · rw [if_pos (by omega), if_neg g2, if_neg g1, show i.toNat + (j - (i.toNat + 1)) = j - 1 by omega]
  refine ⟨?_, fun j hj => ?_, fun b k hb hd => ?_, fun k hk => ?_⟩
  · unfold lsO
    rw [e1]
    refine ⟨⟨h1, by rw [hY, zwr_s], by omega⟩, Or.inr ⟨⟨h70, q1⟩, q2, by omega, q4, ?_⟩, fun j hj => ?_⟩
    · rw [hY, zwr_a hne, zwr_i (by omega)]
      unfold zcp
      rw [if_neg (by omega)]
      exact q5
    · rw [ed j (by omega)]
      by_cases g1 : (j : Int) < i
      · rw [if_pos g1]
        exact h5 j (by omega)
      · rw [if_neg g1]
        by_cases g2 : (j : Int) = i
        · rw [if_pos g2]
          exact ⟨by omega, by omega, by rw [Int.toNat_natCast]; exact hv.2.2⟩
        · rw [if_neg g2]
          exact h5 (j - 1) (by omega)
  · unfold lsE
    rw [e1, ed j hj]
    by_cases g1 : (j : Int) < i
    · rw [if_pos g1, if_pos g1]
    · rw [if_neg g1, if_neg g1]
      by_cases g2 : (j : Int) = i
      · rw [if_pos g2, if_pos g2, Int.toNat_natCast]
      · rw [if_neg g2, if_neg g2]
  · rw [hY, zwr_a hb, zwr_a hd]
    unfold zcp
    rw [if_neg (fun q => hd q.1)]
  · rw [hY, zwr_i hk, zwr_a (fun e => hne e.symm)]
    unfold zcp
    rw [if_neg (fun q => hne q.1.symm)]
theorem zcp_0 {X : zD} {a b i j : Nat} : zcp X a i b j 0 = X := by
  funext c k
  unfold zcp
  rw [if_neg (by omega)]
/-- what an addition leaves -/
def lsA (h : zH) (X : zD) (a : Nat) (n i : Int) (v K : Nat) (h' : zH) (X' : zD) : Prop := shX h h' 1 15 ∧ lsO h' X' a (n + 1) K ∧ (∀ j : Nat, (j : Int) ≤ n → lsE X' a j = if (j : Int) < i then lsE X a j else if (j : Int) = i then v else lsE X a (j - 1)) ∧ (∀ b k, b < zn h → b ≠ a → b ≠ (X a 1).toNat → X' b k = X b k) ∧ (∀ k, k ≠ 0 → k ≠ 1 → k ≠ 2 → X' a k = X a k) ∧ (X' a 1 = X a 1 ∨ zn h ≤ X' a 1)
set_option maxRecDepth 20000 in
theorem c166 {h : zH} {X D : zD} {a K v : Nat} {n : Int} (ha : a = 4 ∨ a = 5 ∨ 70 ≤ a) (han : a < zn h) (hn : 70 ≤ zn h) (hl : lsO h X a n K) (hK : K < 20) (hn15 : n < 15) (k1 : zk h 1 = 31) (l1 : zl h 1 = 0) (hv : 70 ≤ v ∧ v < zn h ∧ zk h v = K) :
    ∃ h' X', zc 166 4 [.ref a, .ref v, .ref (X a 1).toNat, .int (Int32.ofInt n)] (zV (zU h X) D) = some (.inl none, zV (zU h' X') D) ∧ lsA h X a n n v K h' X' := by
  have hl0 := hl
  obtain ⟨⟨h1, h2, h3⟩, h4, h5⟩ := hl
  by_cases hf : (n = 0 ∧ X a 1 = 1) ∨ (n = 10 ∧ 70 ≤ X a 1 ∧ zl h (X a 1).toNat = 10)
  · obtain ⟨h', X', e, s1, s2, s3, s4, s5, s6⟩ := c170 (D := D) ha han hn hl0 hK k1 l1 (hf.imp id fun q => ⟨q.1, q.2.2⟩)
    obtain ⟨t1, t2, t3, t4⟩ := lsO_ins (v := v) (i := n) s2 s4.1 s3 (by omega) ⟨hv.1, by have := s1.1; omega, by rw [(s1.2.2.2 v hv.2.1).1]; exact hv.2.2⟩ rfl
    rw [show (n - n).toNat = 0 by omega, zcp_0] at t1 t2 t3 t4
    obtain ⟨u1, u2, u3, ⟨u4, u5, u6, u7, u8⟩, u9⟩ := lsO_d s2 s4.1
    refine ⟨h', _, ?_, s1, t1, fun j hj => ?_, fun b k hb hb1 hb2 => ?_, fun k k0 k1 k2 => ?_, ?_⟩
    · have kv : ∀ X D, zk (zV (zU h' X) D) v = K := fun X D => by rw [zW_k (by omega), (s1.2.2.2 v hv.2.1).1]; exact hv.2.2
      have ln : zl (zV (zU h X) D) (X a 1).toNat = n.toNat := by
        rcases hf with ⟨rfl, q⟩ | ⟨rfl, q1, q2⟩
        · rw [q, show (1 : Int).toNat = 1 from rfl, zV_l (by omega), zU_l, l1]
          rfl
        · rw [zV_l (by omega), zU_l, q2]
          rfl
      have kn : 20 ≤ zk (zV (zU h X) D) (X a 1).toNat ∧ zk (zV (zU h X) D) (X a 1).toNat < 40 := by
        rcases hf with ⟨rfl, q⟩ | ⟨rfl, q1, q2⟩
        · rw [q, show (1 : Int).toNat = 1 from rfl, zV_k (by omega), zU_k, k1]
          omega
        · rw [zV_k (by omega), zU_k]
          rcases h4 with h4 | ⟨q1, q2, q3, q4, q5⟩
          · omega
          · rw [q2]; omega
      obtain ⟨kn1, kn2⟩ := kn
      have nn : ((n.toNat : Nat) : Int) = n := by omega
      rw [zc]
      clear t1 t2 t3 t4 s5 s6 hf h4 h5
      simp (disch := first | omega | (simp (disch := omega) only [zwr_s, zwr_a, zwr_i, zn_put, zn_new, zn_fil, zn_chg, zV_n]; omega)) only [zentry, zs0, zs1, zs2, zs3, zg_lo, zg_st, zg_st2, zg_ald, zg_ast, zs_ia, zs_i0, zcs, zg_ii, zi_max, zi_min, zi_abi, zi_abf, zi_fb, zi_bf, lget, lst, lst2, lc2, Option.map_some, zso, if_true, if_false, zc1, and_true, true_and, and_self, List.length_nil, List.length_cons, Nat.zero_le, reduceIte, reduceCtorEq, false_and, and_false, Bool.false_eq_true, zca_some, zr0, zr100, Option.bind_some, zb_none, zb_some, zrc, or_true, true_or, eq_self, ne_eq, not_true_eq_false, not_false_eq_true, zrt_i, zrt_zb, zrt_b, zrt_c, zrt_l, zrt_f, zrt_r, zrt_n, zrt_v, zft_0, zft_1, zft_zb, zft_3, zft_4, zft_5, zft_7r, zft_7n, iI_t, zb_i, zb_0, zb_1, Nat.reduceAdd, Nat.reduceLeDiff, Nat.reduceEqDiff, Nat.reduceSub, Int.reduceNeg, iI_add, iI_sub, iI_mul, iI_neg, iI_n, zbz, zchar_id, zin, zwr_s, zwr_a, zwr_i, if_pos, if_neg, Int.toNat_natCast, Int.natCast_zero, Int.reduceToNat, z166, zuL ha h1, zuL ha u1, zuA (a := (X' a 1).toNat) (by omega) u5, kv, ln, kn1, kn2, e, zt1, nn]
    · rw [t2 j hj]
      by_cases g : (j : Int) < n
      · rw [if_pos g, if_pos g]
        unfold lsE
        rw [s5 j g]
      · rw [if_neg g, if_pos (by omega), if_neg g, if_pos (by omega)]
    · rw [t3 b k hb1 (by omega), s6 b k hb (Or.inl hb1)]
    · rw [t4 k k2, s6 a k han (Or.inr k1)]
    · right
      rw [t4 1 (by omega)]
      exact s4.2
  · rcases h4 with h4 | ⟨q1, q2, q3, q4, q5⟩
    · exact absurd (Or.inl h4) hf
    have hroom : n < zl h (X a 1).toNat := by omega
    obtain ⟨t1, t2, t3, t4⟩ := lsO_ins (v := v) (i := n) hl0 q1.1 hroom (by omega) hv rfl
    rw [show (n - n).toNat = 0 by omega, zcp_0] at t1 t2 t3 t4
    refine ⟨h, _, ?_, (shX.rf).w (by omega) (by omega), t1, fun j hj => ?_, fun b k hb hb1 hb2 => ?_, fun k k0 k1 k2 => ?_, ?_⟩
    · have kv : ∀ X D, zk (zV (zU h X) D) v = K := fun X D => by rw [zW_k (by omega)]; exact hv.2.2
      rw [zc]
      clear t1 t2 t3 t4 hf h5
      simp (disch := first | omega | (simp (disch := omega) only [zwr_s, zwr_a, zwr_i, zn_put, zn_new, zn_fil, zn_chg, zV_n]; omega)) only [zentry, zs0, zs1, zs2, zs3, zg_lo, zg_st, zg_st2, zg_ald, zg_ast, zs_ia, zs_i0, zcs, zg_ii, zi_max, zi_min, zi_abi, zi_abf, zi_fb, zi_bf, lget, lst, lst2, lc2, Option.map_some, zso, if_true, if_false, zc1, and_true, true_and, and_self, List.length_nil, List.length_cons, Nat.zero_le, reduceIte, reduceCtorEq, false_and, and_false, Bool.false_eq_true, zca_some, zr0, zr100, Option.bind_some, zb_none, zb_some, zrc, or_true, true_or, eq_self, ne_eq, not_true_eq_false, not_false_eq_true, zrt_i, zrt_zb, zrt_b, zrt_c, zrt_l, zrt_f, zrt_r, zrt_n, zrt_v, zft_0, zft_1, zft_zb, zft_3, zft_4, zft_5, zft_7r, zft_7n, iI_t, zb_i, zb_0, zb_1, Nat.reduceAdd, Nat.reduceLeDiff, Nat.reduceEqDiff, Nat.reduceSub, Int.reduceNeg, iI_add, iI_sub, iI_mul, iI_neg, iI_n, zbz, zchar_id, zin, zwr_s, zwr_a, zwr_i, if_pos, if_neg, Int.toNat_natCast, Int.natCast_zero, Int.reduceToNat, z166, zuL ha h1, zuA (a := (X a 1).toNat) (by omega) q2, kv, zt1]
    · exact t2 j hj
    · exact t3 b k hb1 hb2
    · exact t4 k k2
    · left
      exact t4 1 (by omega)
set_option maxRecDepth 20000 in
/-- a list gets one element more, behind the others -/
theorem c165 {h : zH} {X D : zD} {a K v : Nat} {n : Int} (ha : a = 4 ∨ a = 5 ∨ 70 ≤ a) (han : a < zn h) (hn : 70 ≤ zn h) (hl : lsO h X a n K) (hK : K < 20) (hn15 : n < 15) (k1 : zk h 1 = 31) (l1 : zl h 1 = 0) (hv : 70 ≤ v ∧ v < zn h ∧ zk h v = K) :
    ∃ h' X', zc 165 2 [.ref a, .ref v] (zV (zU h X) D) = some (.inl (some (.int (Int32.ofInt 1))), zV (zU h' X') D) ∧ lsA h X a n n v K h' X' := by
  have e1 : zwr X a 0 (X a 0 + 1) a 1 = X a 1 := zwr_i (by omega)
  have e2 : zwr X a 0 (X a 0 + 1) a 2 = X a 2 := zwr_i (by omega)
  have hlw := lsO_w (x := X a 0 + 1) hl
  obtain ⟨h', X', e, s1, s2, s3, s4, s5, s6⟩ := c166 (D := D) ha han hn hlw hK hn15 k1 l1 hv
  obtain ⟨⟨h1, h2, h3⟩, h4, h5⟩ := hl
  have p1 : 0 ≤ X a 1 := by omega
  refine ⟨h', X', ?_, s1, s2, fun j hj => ?_, fun b k hb hb1 hb2 => ?_, fun k k0 k1 k2 => ?_, ?_⟩
  · rw [e1] at e
    rw [zc]
    clear s3 s4 s5 s6 h4 h5
    simp (disch := first | omega | (simp (disch := omega) only [zwr_s, zwr_a, zwr_i, zn_put, zn_new, zn_fil, zn_chg, zV_n]; omega)) only [zentry, zs0, zs1, zs2, zs3, zg_lo, zg_st, zg_st2, zg_ald, zg_ast, zs_ia, zs_i0, zcs, zg_ii, zi_max, zi_min, zi_abi, zi_abf, zi_fb, zi_bf, lget, lst, lst2, lc2, Option.map_some, zso, if_true, if_false, zc1, and_true, true_and, and_self, List.length_nil, List.length_cons, Nat.zero_le, reduceIte, reduceCtorEq, false_and, and_false, Bool.false_eq_true, zca_some, zr0, zr100, Option.bind_some, zb_none, zb_some, zrc, or_true, true_or, eq_self, ne_eq, not_true_eq_false, not_false_eq_true, zrt_i, zrt_zb, zrt_b, zrt_c, zrt_l, zrt_f, zrt_r, zrt_n, zrt_v, zft_0, zft_1, zft_zb, zft_3, zft_4, zft_5, zft_7r, zft_7n, iI_t, zb_i, zb_0, zb_1, Nat.reduceAdd, Nat.reduceLeDiff, Nat.reduceEqDiff, Nat.reduceSub, Int.reduceNeg, iI_add, iI_sub, iI_mul, iI_neg, iI_n, zbz, zchar_id, zin, zwr_s, zwr_a, zwr_i, if_pos, if_neg, Int.toNat_natCast, Int.natCast_zero, Int.reduceToNat, z165, zuL ha h1, e, e1, e2, h2, zt4]
  · rw [s3 j hj]
    have el : ∀ j : Nat, (j : Int) < n → lsE (zwr X a 0 (X a 0 + 1)) a j = lsE X a j := fun j hj => by
      unfold lsE
      rw [e1]
      have := (lsO_d ⟨⟨h1, h2, h3⟩, h4, h5⟩ (by omega)).2.2.2.2
      rw [zwr_a this]
    by_cases g : (j : Int) < n
    · rw [if_pos g, if_pos g, el j g]
    · rw [if_neg g, if_neg g, if_pos (by omega), if_pos (by omega)]
  · rw [s4 b k hb hb1 (by rw [e1]; exact hb2), zwr_a hb1]
  · rw [s5 k k0 k1 k2, zwr_i k0]
  · rw [e1] at s6
    exact s6

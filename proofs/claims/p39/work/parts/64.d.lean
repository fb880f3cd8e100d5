/-! .. the choices that are kept -/
/-- rows A and A + 1 hold choices and rests -/
def fiK (D : zD) (A : Nat) (K : List (Nat × Int)) : Prop := ∀ k (hk : k < K.length), D A k = (K[k].1 : Int) ∧ D (A + 1) k = K[k].2
theorem fiK_s {D : zD} {A : Nat} {K : List (Nat × Int)} {q : Nat × Int} (h : fiK D A K) (D' : zD) (h1 : ∀ k, k < K.length → D' A k = D A k ∧ D' (A + 1) k = D (A + 1) k) (h2 : D' A K.length = (q.1 : Int)) (h3 : D' (A + 1) K.length = q.2) : fiK D' A (K ++ [q]) := by
  intro k hk
  rw [List.length_append] at hk
  by_cases g : k < K.length
  · have := h k g
    rw [(h1 k g).1, (h1 k g).2, List.getElem_append_left g]
    exact this
  · have hk' : k < K.length + 1 := hk
    have e : k = K.length := by omega
    subst e
    rw [List.getElem_append_right (Nat.le_refl _)]
    simp only [Nat.sub_self, List.getElem_cons_zero]
    exact ⟨h2, h3⟩
/-- a choice more among those that come next -/
theorem fiP_s {D : zD} {K : List (Nat × Int)} {q : Nat × Int} (h : fiK D 30 K) (hn : D 14 10 = K.length) : fiK (fiP D (q.1 : Int) q.2) 30 (K ++ [q]) ∧ fiP D (q.1 : Int) q.2 14 10 = ((K ++ [q]).length : Nat) ∧ (∀ i, fiP D (q.1 : Int) q.2 28 i = D 28 i ∧ fiP D (q.1 : Int) q.2 29 i = D 29 i) ∧ fiG D (fiP D (q.1 : Int) q.2) := by
  have en : (D 14 10).toNat = K.length := by omega
  unfold fiP
  rw [en]
  refine ⟨fiK_s h _ (fun k hk => ⟨?_, ?_⟩) ?_ ?_, ?_, fun i => ⟨?_, ?_⟩, fun a i h1 h2 => ?_⟩
  · rw [zwr_a (by omega), zwr_a (by omega), zwr_i (by omega)]
  · rw [zwr_a (by omega), zwr_i (by omega), zwr_a (by omega)]
  · rw [zwr_a (by omega), zwr_a (by omega), zwr_s]
  · rw [zwr_a (by omega), zwr_s]
  · rw [zwr_s, List.length_append, hn]
    rfl
  · rw [zwr_a (by omega), zwr_a (by omega), zwr_a (by omega)]
  · rw [zwr_a (by omega), zwr_a (by omega), zwr_a (by omega)]
  · rw [zwr_e, if_neg (by omega), zwr_a (by omega), zwr_a (by omega)]
set_option maxRecDepth 20000 in
/-- one kept choice: what it leads to -/
theorem c18_j {i : Nat} {gi : Int32} {n : Nat} {j : Nat} {x5 x6 : Option Value} {h : zH} {D : zD} {q : Nat × Int} {L : List (Nat × Int)} (hT : fiT D) (hB : fiB D) (hi : (i : Int) < D 14 3) (hj : j < n) (hn : n ≤ 70)
    (q1 : D 28 j = (q.1 : Int)) (q2 : D 29 j = q.2) (hq : q.1 < 256 ∧ 0 ≤ q.2 ∧ q.2 ≤ 3600) (hf : fewR (lnF D i ((D 14 3).toNat - i)) q.2 ≤ 8) (hL : D 14 10 = L.length) (hK : fiK D 30 L)
    (hl : (L ++ stepK (D 16 i) (lnF D (i + 1) ((D 14 3).toNat - (i + 1))) (2 ^ (7 - i)) q).length ≤ 70) :
    ∃ D' y5 y6, zx 18 48 [some (.ref 14), some (.int gi), some (.int (Int32.ofInt (i : Int))), some (.int (Int32.ofInt (n : Int))), some (.int (Int32.ofInt (j : Int))), x5, x6] [] (zV h D) = zx 18 48 [some (.ref 14), some (.int gi), some (.int (Int32.ofInt (i : Int))), some (.int (Int32.ofInt (n : Int))), some (.int (Int32.ofInt ((j + 1 : Nat) : Int))), y5, y6] [] (zV h D') ∧
      fiK D' 30 (L ++ stepK (D 16 i) (lnF D (i + 1) ((D 14 3).toNat - (i + 1))) (2 ^ (7 - i)) q) ∧ D' 14 10 = ((L ++ stepK (D 16 i) (lnF D (i + 1) ((D 14 3).toNat - (i + 1))) (2 ^ (7 - i)) q).length : Nat) ∧ (∀ k, D' 28 k = D 28 k ∧ D' 29 k = D 29 k) ∧ fiG D D' := by
  have hb := hB.2 i hi
  have hn3 := hB.1
  have e0 : (D 14 3).toNat - i = ((D 14 3).toNat - (i + 1)) + 1 := by omega
  have ei : ((i : Int) + 1) = ((i + 1 : Nat) : Int) := by omega
  have ej : ((j : Int) + 1) = ((j + 1 : Nat) : Int) := by omega
  have en : ((j : Int)).toNat = j := by omega
  have e12 := fun (D' : zD) (g : fiG D D') => c12 (h := h) (D := D') (i := i) (by rw [g 14 3 (by omega) (by omega)]; exact hi) (by rw [g 14 3 (by omega) (by omega)]; omega)
  have s1 : (7 : Int) - (i : Int) = ((7 - i : Nat) : Int) := by omega
  have s2 := bt_shl (c := 7 - i) (by omega)
  have s3 := bt_or q.1 (2 ^ (7 - i))
  have e21a := c21 (r := i) (s := q.2) (h := h) (by omega) (by omega) hT
  rw [if_pos hq.2] at e21a
  rw [e0, lnF] at e21a hf
  have e21b := c21 (r := i + 1) (s := q.2 - D 16 i) (h := h) (by omega) (by omega) hT
  have e21c := fun (D' : zD) (g : fiG D D') => c21 (r := i + 1) (s := q.2) (h := h) (by omega) (by omega) (g.t hT)
  have r0 := fewR_r (D 16 i :: lnF D (i + 1) ((D 14 3).toNat - (i + 1))) q.2
  have r1 := fewR_r (lnF D (i + 1) ((D 14 3).toNat - (i + 1))) q.2
  have r2 := fewR_r (lnF D (i + 1) ((D 14 3).toNat - (i + 1))) (q.2 - D 16 i)
  have e12' : ∀ (D' : zD), fiG D D' → zc 12 2 [.ref 14, .int (Int32.ofInt (i : Int))] (zV h D') = some (.inl (some (.int (Int32.ofInt (D 16 i)))), zV h D') := fun D' g => by
    rw [e12 D' g, g 16 i (by omega) (by omega)]
  have e21c' : ∀ (D' : zD), fiG D D' → zc 21 3 [.ref 14, .int (Int32.ofInt ((i + 1 : Nat) : Int)), .int (Int32.ofInt q.2)] (zV h D') = some (.inl (some (.int (Int32.ofInt (fewR (lnF D (i + 1) ((D 14 3).toNat - (i + 1))) q.2)))), zV h D') := fun D' g => by
    rw [e21c D' g, if_pos hq.2, g 14 3 (by omega) (by omega), lnF_c (fun i => g 16 i (by omega) (by omega))]
  clear e12 e21c
  unfold stepK at hl ⊢
  generalize fewR (D 16 i :: lnF D (i + 1) ((D 14 3).toNat - (i + 1))) q.2 = nd at *
  generalize fewR (lnF D (i + 1) ((D 14 3).toNat - (i + 1))) q.2 = f1 at *
  generalize fewR (lnF D (i + 1) ((D 14 3).toNat - (i + 1))) (q.2 - D 16 i) = f2 at *
  have hc : (if 0 ≤ q.2 - D 16 i ∧ q.2 - D 16 i ≤ 3600 then f2 else 9) = nd - 1 ↔ D 16 i ≤ q.2 ∧ f2 = nd - 1 := by
    by_cases g : D 16 i ≤ q.2
    · rw [if_pos (by omega)]
      exact ⟨fun x => ⟨g, x⟩, fun x => x.2⟩
    · rw [if_neg (by omega)]
      exact ⟨fun x => by omega, fun x => absurd x.1 g⟩
  have hc9 : 0 ≤ (if 0 ≤ q.2 - D 16 i ∧ q.2 - D 16 i ≤ 3600 then f2 else 9) ∧ (if 0 ≤ q.2 - D 16 i ∧ q.2 - D 16 i ≤ 3600 then f2 else 9) ≤ 9 := by
    split <;> omega
  generalize (if 0 ≤ q.2 - D 16 i ∧ q.2 - D 16 i ≤ 3600 then f2 else 9) = f3 at *
  by_cases gA : D 16 i ≤ q.2 ∧ f2 = nd - 1
  · have hA := hc.mpr gA
    rw [if_pos gA] at hl ⊢
    obtain ⟨p1, p2, p3, p4⟩ := fiP_s (q := (q.1 ||| 2 ^ (7 - i), q.2 - D 16 i)) hK hL
    have l1 : L.length < 70 := by
      rw [List.length_append, List.length_append] at hl
      have : [(q.1 ||| 2 ^ (7 - i), q.2 - D 16 i)].length = 1 := rfl
      omega
    have e19 := c19 (c := ((q.1 ||| 2 ^ (7 - i) : Nat) : Int)) (r := q.2 - D 16 i) (h := h) (D := D) (by omega)
    have e12a := e12' D fiG.rf
    have e21x := e21c' _ p4
    have p28 := (p3 j).1
    by_cases gB : f1 = nd
    · rw [if_pos gB, ← List.append_assoc] at hl ⊢
      obtain ⟨t1, t2, t3, t4⟩ := fiP_s (q := (q.1, q.2)) p1 p2
      have l2 : (L ++ [(q.1 ||| 2 ^ (7 - i), q.2 - D 16 i)]).length < 70 := by
        rw [List.length_append] at hl
        have : [(q.1, q.2)].length = 1 := rfl
        omega
      have p2' : fiP D ((q.1 ||| 2 ^ (7 - i) : Nat) : Int) (q.2 - D 16 i) 14 10 = ((L ++ [(q.1 ||| 2 ^ (7 - i), q.2 - D 16 i)]).length : Nat) := p2
      have e19b := c19 (c := (q.1 : Int)) (r := q.2) (h := h) (D := fiP D ((q.1 ||| 2 ^ (7 - i) : Nat) : Int) (q.2 - D 16 i)) (by omega)
      clear p2'
      refine ⟨_, some (.int (Int32.ofInt q.2)), some (.int (Int32.ofInt nd)), ?_, t1, t2, fun k => ⟨(t3 k).1.trans (p3 k).1, (t3 k).2.trans (p3 k).2⟩, p4.tr t4⟩
      conv => lhs; rw [z18_48]
      clear hT hB hc hl hK e12' e21c' p1 p3 p4 t1 t2 t3 t4 l2 p2
      generalize fiP (fiP D ((q.1 ||| 2 ^ (7 - i) : Nat) : Int) (q.2 - D 16 i)) (q.1 : Int) q.2 = D2 at *
      generalize fiP D ((q.1 ||| 2 ^ (7 - i) : Nat) : Int) (q.2 - D 16 i) = D1 at *
      simp (disch := first | omega | (simp (disch := omega) only [zwr_s, zwr_a, zwr_i, zn_put, zn_new, zn_fil, zn_chg, zV_n]; omega)) only [zentry, zs0, zs1, zs2, zs3, zg_lo, zg_st, zg_st2, zg_ald, zg_ast, zs_ia, zs_i0, zg_ii, zi_max, zi_min, zi_abi, zi_abf, zi_fb, zi_bf, lget, lst, lst2, lc2, Option.map_some, zso, if_true, if_false, zc1, and_true, true_and, and_self, List.length_nil, List.length_cons, Nat.zero_le, reduceIte, reduceCtorEq, false_and, and_false, Bool.false_eq_true, zca_some, zr0, zr100, Option.bind_some, zb_none, zb_some, zrc, or_true, true_or, eq_self, ne_eq, not_true_eq_false, not_false_eq_true, zrt_i, zrt_zb, zrt_b, zrt_c, zrt_l, zrt_f, zrt_r, zrt_n, zrt_v, zft_0, zft_1, zft_zb, zft_3, zft_4, zft_5, zft_7r, zft_7n, iI_t, zb_i, zb_0, zb_1, Nat.reduceAdd, Nat.reduceLeDiff, Nat.reduceEqDiff, Nat.reduceSub, Int.reduceNeg, iI_add, iI_sub, iI_mul, iI_neg, zbz, zchar_id, zin, zwr_s, zwr_a, zwr_i, if_pos, if_neg, Int.toNat_natCast, Int.natCast_zero, Int.reduceToNat, z18, q1, q2, s1, s2, s3, ei, ej, en, e12a, e21a, e21b, e21x, e19, e19b, p28, zt3, zt2, zc14, zc28, zc29]
    · rw [if_neg gB, List.append_nil] at hl ⊢
      refine ⟨_, some (.int (Int32.ofInt q.2)), some (.int (Int32.ofInt nd)), ?_, p1, p2, p3, p4⟩
      conv => lhs; rw [z18_48]
      clear hT hB hc hl hK e12' e21c' p1 p3 p4 p2
      generalize fiP D ((q.1 ||| 2 ^ (7 - i) : Nat) : Int) (q.2 - D 16 i) = D1 at *
      simp (disch := first | omega | (simp (disch := omega) only [zwr_s, zwr_a, zwr_i, zn_put, zn_new, zn_fil, zn_chg, zV_n]; omega)) only [zentry, zs0, zs1, zs2, zs3, zg_lo, zg_st, zg_st2, zg_ald, zg_ast, zs_ia, zs_i0, zg_ii, zi_max, zi_min, zi_abi, zi_abf, zi_fb, zi_bf, lget, lst, lst2, lc2, Option.map_some, zso, if_true, if_false, zc1, and_true, true_and, and_self, List.length_nil, List.length_cons, Nat.zero_le, reduceIte, reduceCtorEq, false_and, and_false, Bool.false_eq_true, zca_some, zr0, zr100, Option.bind_some, zb_none, zb_some, zrc, or_true, true_or, eq_self, ne_eq, not_true_eq_false, not_false_eq_true, zrt_i, zrt_zb, zrt_b, zrt_c, zrt_l, zrt_f, zrt_r, zrt_n, zrt_v, zft_0, zft_1, zft_zb, zft_3, zft_4, zft_5, zft_7r, zft_7n, iI_t, zb_i, zb_0, zb_1, Nat.reduceAdd, Nat.reduceLeDiff, Nat.reduceEqDiff, Nat.reduceSub, Int.reduceNeg, iI_add, iI_sub, iI_mul, iI_neg, zbz, zchar_id, zin, zwr_s, zwr_a, zwr_i, if_pos, if_neg, Int.toNat_natCast, Int.natCast_zero, Int.reduceToNat, z18, q1, q2, s1, s2, s3, ei, ej, en, e12a, e21a, e21b, e21x, e19, p28, zt3, zt2, zc14, zc28, zc29]
  · have hA : ¬ f3 = nd - 1 := fun x => gA (hc.mp x)
    rw [if_neg gA, List.nil_append] at hl ⊢
    have e12a := e12' D fiG.rf
    have e21x := e21c' D fiG.rf
    by_cases gB : f1 = nd
    · rw [if_pos gB] at hl ⊢
      obtain ⟨t1, t2, t3, t4⟩ := fiP_s (q := (q.1, q.2)) hK hL
      have l2 : L.length < 70 := by
        rw [List.length_append] at hl
        have : [(q.1, q.2)].length = 1 := rfl
        omega
      have e19b := c19 (c := (q.1 : Int)) (r := q.2) (h := h) (D := D) (by omega)
      refine ⟨_, some (.int (Int32.ofInt q.2)), some (.int (Int32.ofInt nd)), ?_, t1, t2, t3, t4⟩
      conv => lhs; rw [z18_48]
      clear hT hB hc hl hK e12' e21c' t1 t2 t3 t4
      generalize fiP D (q.1 : Int) q.2 = D2 at *
      simp (disch := first | omega | (simp (disch := omega) only [zwr_s, zwr_a, zwr_i, zn_put, zn_new, zn_fil, zn_chg, zV_n]; omega)) only [zentry, zs0, zs1, zs2, zs3, zg_lo, zg_st, zg_st2, zg_ald, zg_ast, zs_ia, zs_i0, zg_ii, zi_max, zi_min, zi_abi, zi_abf, zi_fb, zi_bf, lget, lst, lst2, lc2, Option.map_some, zso, if_true, if_false, zc1, and_true, true_and, and_self, List.length_nil, List.length_cons, Nat.zero_le, reduceIte, reduceCtorEq, false_and, and_false, Bool.false_eq_true, zca_some, zr0, zr100, Option.bind_some, zb_none, zb_some, zrc, or_true, true_or, eq_self, ne_eq, not_true_eq_false, not_false_eq_true, zrt_i, zrt_zb, zrt_b, zrt_c, zrt_l, zrt_f, zrt_r, zrt_n, zrt_v, zft_0, zft_1, zft_zb, zft_3, zft_4, zft_5, zft_7r, zft_7n, iI_t, zb_i, zb_0, zb_1, Nat.reduceAdd, Nat.reduceLeDiff, Nat.reduceEqDiff, Nat.reduceSub, Int.reduceNeg, iI_add, iI_sub, iI_mul, iI_neg, zbz, zchar_id, zin, zwr_s, zwr_a, zwr_i, if_pos, if_neg, Int.toNat_natCast, Int.natCast_zero, Int.reduceToNat, z18, q1, q2, s1, s2, s3, ei, ej, en, e12a, e21a, e21b, e21x, e19b, zt3, zt2, zc14, zc28, zc29]
    · rw [if_neg gB, List.append_nil] at hl ⊢
      refine ⟨D, some (.int (Int32.ofInt q.2)), some (.int (Int32.ofInt nd)), ?_, hK, hL, fun k => ⟨rfl, rfl⟩, fiG.rf⟩
      conv => lhs; rw [z18_48]
      clear hT hB hc hl hK e12' e21c'
      simp (disch := first | omega | (simp (disch := omega) only [zwr_s, zwr_a, zwr_i, zn_put, zn_new, zn_fil, zn_chg, zV_n]; omega)) only [zentry, zs0, zs1, zs2, zs3, zg_lo, zg_st, zg_st2, zg_ald, zg_ast, zs_ia, zs_i0, zg_ii, zi_max, zi_min, zi_abi, zi_abf, zi_fb, zi_bf, lget, lst, lst2, lc2, Option.map_some, zso, if_true, if_false, zc1, and_true, true_and, and_self, List.length_nil, List.length_cons, Nat.zero_le, reduceIte, reduceCtorEq, false_and, and_false, Bool.false_eq_true, zca_some, zr0, zr100, Option.bind_some, zb_none, zb_some, zrc, or_true, true_or, eq_self, ne_eq, not_true_eq_false, not_false_eq_true, zrt_i, zrt_zb, zrt_b, zrt_c, zrt_l, zrt_f, zrt_r, zrt_n, zrt_v, zft_0, zft_1, zft_zb, zft_3, zft_4, zft_5, zft_7r, zft_7n, iI_t, zb_i, zb_0, zb_1, Nat.reduceAdd, Nat.reduceLeDiff, Nat.reduceEqDiff, Nat.reduceSub, Int.reduceNeg, iI_add, iI_sub, iI_mul, iI_neg, zbz, zchar_id, zin, zwr_s, zwr_a, zwr_i, if_pos, if_neg, Int.toNat_natCast, Int.natCast_zero, Int.reduceToNat, z18, q1, q2, s1, s2, s3, ei, ej, en, e12a, e21a, e21b, e21x, zt3, zt2, zc14, zc28, zc29]

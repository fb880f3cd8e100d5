/-! .. all of them -/
theorem c18_i {i : Nat} {gi : Int32} {n : Nat} {h : zH} {l : Int} {r : List Int} (hn : n ≤ 70) : ∀ (suf pre L : List (Nat × Int)) (D : zD) (x5 x6 : Option Value), fiT D → fiB D → (i : Int) < D 14 3 → D 16 i = l → lnF D (i + 1) ((D 14 3).toNat - (i + 1)) = r → pre.length + suf.length = n → fiK D 28 (pre ++ suf) →
    (∀ q ∈ suf, (q.1 < 256 ∧ 0 ≤ q.2 ∧ q.2 ≤ 3600) ∧ fewR (l :: r) q.2 ≤ 8) → D 14 10 = L.length → fiK D 30 L → (L ++ suf.flatMap (stepK l r (2 ^ (7 - i)))).length ≤ 70 →
    ∃ D' y5 y6, zx 18 48 [some (.ref 14), some (.int gi), some (.int (Int32.ofInt (i : Int))), some (.int (Int32.ofInt (n : Int))), some (.int (Int32.ofInt (pre.length : Int))), x5, x6] [] (zV h D) = zx 18 48 [some (.ref 14), some (.int gi), some (.int (Int32.ofInt (i : Int))), some (.int (Int32.ofInt (n : Int))), some (.int (Int32.ofInt (n : Int))), y5, y6] [] (zV h D') ∧
      fiK D' 30 (L ++ suf.flatMap (stepK l r (2 ^ (7 - i)))) ∧ D' 14 10 = ((L ++ suf.flatMap (stepK l r (2 ^ (7 - i)))).length : Nat) ∧ fiG D D'
  | [], pre, L, D, x5, x6, hT, hB, hi, h16, hr, hj, hK, hq, hL, hKL, hl => by
    have : pre.length = n := by simpa using hj
    rw [this]
    refine ⟨D, x5, x6, rfl, ?_, ?_, fiG.rf⟩
    · rw [List.flatMap_nil, List.append_nil]
      exact hKL
    · rw [List.flatMap_nil, List.append_nil]
      exact hL
  | q :: suf, pre, L, D, x5, x6, hT, hB, hi, h16, hr, hj, hK, hq, hL, hKL, hl => by
    rw [List.length_cons] at hj
    obtain ⟨hq1, hq2⟩ := hq q List.mem_cons_self
    have kq := hK pre.length (by rw [List.length_append, List.length_cons]; omega)
    rw [List.getElem_append_right (Nat.le_refl _)] at kq
    simp only [Nat.sub_self, List.getElem_cons_zero] at kq
    have e0 : (D 14 3).toNat - i = ((D 14 3).toNat - (i + 1)) + 1 := by omega
    rw [List.flatMap_cons, ← List.append_assoc] at hl ⊢
    obtain ⟨D1, y5, y6, e1, s1, s2, s3, s4⟩ := c18_j (gi := gi) (n := n) (j := pre.length) (x5 := x5) (x6 := x6) (h := h) (q := q) (L := L) hT hB hi (by omega) hn kq.1 kq.2 hq1 (by rw [e0, lnF, h16, hr]; exact hq2) hL hKL (by
      rw [h16, hr]
      rw [List.length_append] at hl
      omega)
    rw [h16, hr] at s1 s2
    obtain ⟨D2, z5, z6, e2, t1, t2, t3⟩ := c18_i hn suf (pre ++ [q]) (L ++ stepK l r (2 ^ (7 - i)) q) D1 y5 y6 (s4.t hT) (s4.b hB) (by rw [s4 14 3 (by omega) (by omega)]; exact hi) (by rw [s4 16 i (by omega) (by omega)]; exact h16) (by rw [s4 14 3 (by omega) (by omega), lnF_c (fun i => s4 16 i (by omega) (by omega))]; exact hr) (by rw [List.length_append]; show pre.length + 1 + suf.length = n; omega) (by
        rw [List.append_assoc]
        intro k hk
        rw [(s3 k).1, (s3 k).2]
        exact hK k hk) (fun x hx => hq x (List.mem_cons_of_mem _ hx)) s2 s1 hl
    rw [List.length_append] at e2
    exact ⟨D2, z5, z6, e1.trans e2, t1, t2, s4.tr t3⟩
theorem fiC_K {D : zD} {L : List (Nat × Int)} (h : fiK D 30 L) : fiK (fiC D L.length) 28 L := by
  intro k hk
  have := h k hk
  unfold fiC
  rw [if_pos ⟨rfl, hk⟩, if_neg (by omega), if_pos ⟨rfl, hk⟩]
  exact this
theorem fiC_g {D : zD} {k : Nat} : fiG D (fiC D k) ∧ fiC D k 14 10 = D 14 10 := by
  refine ⟨fun a i h1 h2 => ?_, ?_⟩
  · unfold fiC
    rw [if_neg (by omega), if_neg (by omega)]
  · unfold fiC
    rw [if_neg (by omega), if_neg (by omega)]
set_option maxRecDepth 20000 in
theorem c18_o {gi : Int32} {h : zH} : ∀ (m i : Nat) (K : List (Nat × Int)) (D : zD) (x3 x4 x5 x6 : Option Value), fiT D → fiB D → (i : Int) + m = D 14 3 → D 14 10 = K.length → fiK D 28 K → (∀ q ∈ K, (q.1 < 256 ∧ 0 ≤ q.2 ∧ q.2 ≤ 3600) ∧ fewR (lnF D i m) q.2 ≤ 8) → (runK (lnF D i m) i K).length ≤ 70 →
    ∃ D', zx 18 21 [some (.ref 14), some (.int gi), some (.int (Int32.ofInt (i : Int))), x3, x4, x5, x6] [] (zV h D) = some (.inl none, zV h D') ∧ fiK D' 28 (runK (lnF D i m) i K) ∧ D' 14 10 = ((runK (lnF D i m) i K).length : Nat) ∧ fiG D D'
  | 0, i, K, D, x3, x4, x5, x6, hT, hB, hi, hL, hK, hq, hl => by
    refine ⟨D, ?_, hK, hL, fiG.rf⟩
    have hn := hB.1
    rw [z18_21]
    clear hT hB hK hq hl
    simp (disch := first | omega | (simp (disch := omega) only [zwr_s, zwr_a, zwr_i, zn_put, zn_new, zn_fil, zn_chg, zV_n]; omega)) only [zentry, zs0, zs1, zs2, zs3, zg_lo, zg_st, zg_st2, zg_ald, zg_ast, zs_ia, zs_i0, zg_ii, zi_max, zi_min, zi_abi, zi_abf, zi_fb, zi_bf, lget, lst, lst2, lc2, Option.map_some, zso, if_true, if_false, zc1, and_true, true_and, and_self, List.length_nil, List.length_cons, Nat.zero_le, reduceIte, reduceCtorEq, false_and, and_false, Bool.false_eq_true, zca_some, zr0, zr100, Option.bind_some, zb_none, zb_some, zrc, or_true, true_or, eq_self, ne_eq, not_true_eq_false, not_false_eq_true, zrt_i, zrt_zb, zrt_b, zrt_c, zrt_l, zrt_f, zrt_r, zrt_n, zrt_v, zft_0, zft_1, zft_zb, zft_3, zft_4, zft_5, zft_7r, zft_7n, iI_t, zb_i, zb_0, zb_1, Nat.reduceAdd, Nat.reduceLeDiff, Nat.reduceEqDiff, Nat.reduceSub, Int.reduceNeg, iI_add, iI_sub, iI_mul, iI_neg, zbz, zchar_id, zin, zwr_s, zwr_a, zwr_i, if_pos, if_neg, Int.toNat_natCast, Int.natCast_zero, Int.reduceToNat, z18, zc14]
  | m + 1, i, K, D, x3, x4, x5, x6, hT, hB, hi, hL, hK, hq, hl => by
    have hn := hB.1
    have hb := hB.2 i (by omega)
    have e0 : (D 14 3).toNat - (i + 1) = m := by omega
    rw [lnF] at hq hl ⊢
    rw [runK] at hl ⊢
    have hok : ∀ x ∈ K.flatMap (stepK (D 16 i) (lnF D (i + 1) m) (2 ^ (7 - i))), ((x.1 < 256 ∧ 0 ≤ x.2 ∧ x.2 ≤ 3600) ∧ fewR (lnF D (i + 1) m) x.2 ≤ 8) := by
      intro x hx
      obtain ⟨q, hqK, hxq⟩ := List.mem_flatMap.mp hx
      obtain ⟨⟨b1, b2, b3⟩, b4⟩ := hq q hqK
      refine ⟨?_, stepK_ok b4 x hxq⟩
      unfold stepK at hxq
      rcases List.mem_append.mp hxq with hx | hx
      · split at hx
        · rename_i g
          cases List.mem_singleton.mp hx
          refine ⟨?_, by show 0 ≤ q.2 - D 16 i; omega, by show q.2 - D 16 i ≤ 3600; omega⟩
          exact Nat.or_lt_two_pow (n := 8) b1 (Nat.pow_lt_pow_right (by omega) (by omega))
        · cases hx
      · split at hx
        · cases List.mem_singleton.mp hx
          exact ⟨b1, b2, b3⟩
        · cases hx
    have len2 := runK_len (lnF D (i + 1) m) (i + 1) _ (fun x hx => (hok x hx).2)
    have len1 := runK_len (D 16 i :: lnF D (i + 1) m) i K (fun x hx => (hq x hx).2)
    rw [runK] at len1
    have hKl : K.length ≤ 70 := by omega
    have hz : fiG D (zwr D 14 10 0) := fun a j h1 h2 => by rw [zwr_e, if_neg (by omega)]
    obtain ⟨D1, y5, y6, e1, s1, s2, s3⟩ := c18_i (i := i) (gi := gi) (n := K.length) (h := h) (l := D 16 i) (r := lnF D (i + 1) m) hKl K [] [] (zwr D 14 10 0) x5 x6 (hz.t hT) (hz.b hB) (by rw [zwr_i (by omega)]; omega) (zwr_a (by omega)) (by rw [zwr_i (by omega), e0, lnF_c (fun i => zwr_a (by omega))]) (by simp) (by
      intro k hk
      rw [zwr_a (by omega), zwr_a (by omega)]
      exact hK k hk) hq (by rw [zwr_s]; rfl) (fun k hk => by cases hk) (by rw [List.nil_append]; omega)
    rw [List.nil_append] at s1 s2
    have e20 := c20 (h := h) (D := D1) (by rw [s2]; omega)
    have en : (D1 14 10).toNat = (K.flatMap (stepK (D 16 i) (lnF D (i + 1) m) (2 ^ (7 - i)))).length := by omega
    rw [en] at e20
    obtain ⟨g1, g2⟩ := fiC_g (D := D1) (k := (K.flatMap (stepK (D 16 i) (lnF D (i + 1) m) (2 ^ (7 - i)))).length)
    have gg : fiG D (fiC D1 (K.flatMap (stepK (D 16 i) (lnF D (i + 1) m) (2 ^ (7 - i)))).length) := (hz.tr s3).tr g1
    have hl16 : ∀ k n, lnF (fiC D1 (K.flatMap (stepK (D 16 i) (lnF D (i + 1) m) (2 ^ (7 - i)))).length) k n = lnF D k n := fun k n => lnF_c (fun i => gg 16 i (by omega) (by omega)) n k
    obtain ⟨D2, e2, t1, t2, t3⟩ := c18_o (gi := gi) (h := h) m (i + 1) (K.flatMap (stepK (D 16 i) (lnF D (i + 1) m) (2 ^ (7 - i)))) (fiC D1 (K.flatMap (stepK (D 16 i) (lnF D (i + 1) m) (2 ^ (7 - i)))).length) (some (.int (Int32.ofInt (K.length : Int)))) (some (.int (Int32.ofInt (K.length : Int)))) y5 y6 (gg.t hT) (gg.b hB) (by rw [gg 14 3 (by omega) (by omega)]; omega) (by rw [g2]; exact s2) (fiC_K s1) (fun x hx => by rw [hl16]; exact hok x hx) (by rw [hl16]; exact hl)
    rw [hl16] at t1 t2
    refine ⟨D2, ?_, t1, t2, gg.tr t3⟩
    rw [← e2]
    have e1' : zx 18 48 [some (.ref 14), some (.int gi), some (.int (Int32.ofInt (i : Int))), some (.int (Int32.ofInt (K.length : Int))), some (.int (Int32.ofInt 0)), x5, x6] [] (zV h (zwr D 14 10 0)) = zx 18 21 [some (.ref 14), some (.int gi), some (.int (Int32.ofInt ((i + 1 : Nat) : Int))), some (.int (Int32.ofInt (K.length : Int))), some (.int (Int32.ofInt (K.length : Int))), y5, y6] [] (zV h (fiC D1 (K.flatMap (stepK (D 16 i) (lnF D (i + 1) m) (2 ^ (7 - i)))).length)) := by
      refine Eq.trans e1 ?_
      conv => lhs; rw [z18_48]
      have ei : ((i : Int) + 1) = ((i + 1 : Nat) : Int) := by omega
      clear e1 e2 t1 t2 t3 gg hl16 g1 g2 s1 hok hq hl len1 len2 hK hT hB hz s3 en s2
      generalize fiC D1 (K.flatMap (stepK (D 16 i) (lnF D (i + 1) m) (2 ^ (7 - i)))).length = D3 at *
      simp (disch := first | omega | (simp (disch := omega) only [zwr_s, zwr_a, zwr_i, zn_put, zn_new, zn_fil, zn_chg, zV_n]; omega)) only [zentry, zs0, zs1, zs2, zs3, zg_lo, zg_st, zg_st2, zg_ald, zg_ast, zs_ia, zs_i0, zg_ii, zi_max, zi_min, zi_abi, zi_abf, zi_fb, zi_bf, lget, lst, lst2, lc2, Option.map_some, zso, if_true, if_false, zc1, and_true, true_and, and_self, List.length_nil, List.length_cons, Nat.zero_le, reduceIte, reduceCtorEq, false_and, and_false, Bool.false_eq_true, zca_some, zr0, zr100, Option.bind_some, zb_none, zb_some, zrc, or_true, true_or, eq_self, ne_eq, not_true_eq_false, not_false_eq_true, zrt_i, zrt_zb, zrt_b, zrt_c, zrt_l, zrt_f, zrt_r, zrt_n, zrt_v, zft_0, zft_1, zft_zb, zft_3, zft_4, zft_5, zft_7r, zft_7n, iI_t, zb_i, zb_0, zb_1, Nat.reduceAdd, Nat.reduceLeDiff, Nat.reduceEqDiff, Nat.reduceSub, Int.reduceNeg, iI_add, iI_sub, iI_mul, iI_neg, zbz, zchar_id, zin, zwr_s, zwr_a, zwr_i, if_pos, if_neg, Int.toNat_natCast, Int.natCast_zero, Int.reduceToNat, z18, e20, ei, zt1, zc14]
    rw [← e1']
    clear e1 e2 t1 t2 t3 gg hl16 g1 g2 s1 hok hq hl len1 len2 hK hT hB hz s3 en s2 e20 e1'
    conv => lhs; rw [z18_21]
    simp (disch := first | omega | (simp (disch := omega) only [zwr_s, zwr_a, zwr_i, zn_put, zn_new, zn_fil, zn_chg, zV_n]; omega)) only [zentry, zs0, zs1, zs2, zs3, zg_lo, zg_st, zg_st2, zg_ald, zg_ast, zs_ia, zs_i0, zg_ii, zi_max, zi_min, zi_abi, zi_abf, zi_fb, zi_bf, lget, lst, lst2, lc2, Option.map_some, zso, if_true, if_false, zc1, and_true, true_and, and_self, List.length_nil, List.length_cons, Nat.zero_le, reduceIte, reduceCtorEq, false_and, and_false, Bool.false_eq_true, zca_some, zr0, zr100, Option.bind_some, zb_none, zb_some, zrc, or_true, true_or, eq_self, ne_eq, not_true_eq_false, not_false_eq_true, zrt_i, zrt_zb, zrt_b, zrt_c, zrt_l, zrt_f, zrt_r, zrt_n, zrt_v, zft_0, zft_1, zft_zb, zft_3, zft_4, zft_5, zft_7r, zft_7n, iI_t, zb_i, zb_0, zb_1, Nat.reduceAdd, Nat.reduceLeDiff, Nat.reduceEqDiff, Nat.reduceSub, Int.reduceNeg, iI_add, iI_sub, iI_mul, iI_neg, zbz, zchar_id, zin, zwr_s, zwr_a, zwr_i, if_pos, if_neg, Int.toNat_natCast, Int.natCast_zero, Int.reduceToNat, z18, hL, zc14]
set_option maxRecDepth 20000 in
/-- all choices that are kept -/
theorem c18 {gap : Int} {h : zH} {D : zD} (hT : fiT D) (hB : fiB D) (hg : 1 ≤ gap ∧ gap ≤ 3600) (hf : fewR (lnF D 0 (D 14 3).toNat) gap ≤ 8) :
    ∃ D', zc 18 7 [.ref 14, .int (Int32.ofInt gap)] (zV h D) = some (.inl none, zV h D') ∧ fiK D' 28 (runK (lnF D 0 (D 14 3).toNat) 0 [(0, gap)]) ∧ D' 14 10 = ((runK (lnF D 0 (D 14 3).toNat) 0 [(0, gap)]).length : Nat) ∧ (runK (lnF D 0 (D 14 3).toNat) 0 [(0, gap)]).length ≤ 70 ∧ fiG D D' := by
  have hn := hB.1
  have hlen : ∀ n i, (lnF D i n).length = n := by
    intro n
    induction n with
    | zero => intro i; rfl
    | succ n ih => intro i; rw [lnF, List.length_cons, ih]
  have hl : (runK (lnF D 0 (D 14 3).toNat) 0 [(0, gap)]).length ≤ 70 := by
    rw [runK_eq _ _ _ (fun q hq => by cases List.mem_singleton.mp hq; exact hf)]
    rw [List.flatMap_cons, List.flatMap_nil, List.append_nil, List.length_map]
    have := fewR_r (lnF D 0 (D 14 3).toNat) gap
    exact sel_70 (by rw [hlen]; omega) ⟨this.1, hf⟩
  have gz : fiG D (zwr (zwr (zwr D 28 0 0) 29 0 gap) 14 10 1) := fun a i h1 h2 => by rw [zwr_e, if_neg (by omega), zwr_a (by omega), zwr_a (by omega)]
  have hl16 : ∀ k n, lnF (zwr (zwr (zwr D 28 0 0) 29 0 gap) 14 10 1) k n = lnF D k n := fun k n => lnF_c (fun i => gz 16 i (by omega) (by omega)) n k
  obtain ⟨D', e, s1, s2, s3⟩ := c18_o (gi := Int32.ofInt gap) (h := h) (D 14 3).toNat 0 [(0, gap)] (zwr (zwr (zwr D 28 0 0) 29 0 gap) 14 10 1) none none none none (gz.t hT) (gz.b hB) (by rw [zwr_i (by omega), zwr_a (by omega), zwr_a (by omega)]; omega) (by rw [zwr_s]; rfl) (by
    intro k hk
    have hk : k < 1 := hk
    have : k = 0 := by omega
    subst this
    refine ⟨?_, ?_⟩
    · rw [zwr_a (by omega), zwr_a (by omega), zwr_s]; rfl
    · rw [zwr_a (by omega), zwr_s]; rfl) (fun q hq => by
      cases List.mem_singleton.mp hq
      rw [hl16]
      exact ⟨⟨by show (0 : Nat) < 256; omega, by show 0 ≤ gap; omega, by show gap ≤ 3600; omega⟩, hf⟩) (by rw [hl16]; exact hl)
  rw [hl16] at s1 s2
  refine ⟨D', ?_, s1, s2, hl, gz.tr s3⟩
  rw [← e, zc]
  clear e s1 s2 s3 gz hl hT hB hf hl16 hlen
  simp (disch := first | omega | (simp (disch := omega) only [zwr_s, zwr_a, zwr_i, zn_put, zn_new, zn_fil, zn_chg, zV_n]; omega)) only [zentry, zs0, zs1, zs2, zs3, zg_lo, zg_st, zg_st2, zg_ald, zg_ast, zs_ia, zs_i0, zcs, zg_ii, zi_max, zi_min, zi_abi, zi_abf, zi_fb, zi_bf, lget, lst, lst2, lc2, Option.map_some, zso, if_true, if_false, zc1, and_true, true_and, and_self, List.length_nil, List.length_cons, Nat.zero_le, reduceIte, reduceCtorEq, false_and, and_false, Bool.false_eq_true, zca_some, zr0, zr100, Option.bind_some, zb_none, zb_some, zrc, or_true, true_or, eq_self, ne_eq, not_true_eq_false, not_false_eq_true, zrt_i, zrt_zb, zrt_b, zrt_c, zrt_l, zrt_f, zrt_r, zrt_n, zrt_v, zft_0, zft_1, zft_zb, zft_3, zft_4, zft_5, zft_7r, zft_7n, iI_t, zb_i, zb_0, zb_1, Nat.reduceAdd, Nat.reduceLeDiff, Nat.reduceEqDiff, Nat.reduceSub, Int.reduceNeg, iI_add, iI_sub, iI_mul, iI_neg, iI_n, zbz, zchar_id, zin, zwr_s, zwr_a, zwr_i, if_pos, if_neg, Int.toNat_natCast, Int.natCast_zero, Int.reduceToNat, z18, zc14, zc28, zc29, Int.natCast_zero]

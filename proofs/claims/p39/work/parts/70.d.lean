/-! secondary events: class and reference side by side -/
theorem evH.B {h : zH} {X S : zD} (p : evH h X S) (hH : mHg S) {e : Nat} (he : (e : Int) < S 32 15) : scB X (X (lsE X 5 e) 3).toNat (S 57 e) := by
  intro k hk
  obtain ⟨a1, a2, a3⟩ := (p e he).2 k hk
  obtain ⟨b1, b2, b3⟩ := (hH e he).2 k hk
  rw [a1, a2, a3]
  refine ⟨?_, b2, by omega⟩
  split <;> omega
theorem scU_sh {h : zH} {X S : zD} (p : evH h X S) {e k : Nat} (he : (e : Int) < S 32 15) (hk : (k : Int) < S 57 e) {s t : Int} : scU X (lsE X (X (lsE X 5 e) 3).toNat k) s t = shB S e k s t ∧ X (lsE X (X (lsE X 5 e) 3).toNat k) 2 = S (45 + e) (3 * k + 2) := by
  obtain ⟨a1, a2, a3⟩ := (p e he).2 k hk
  refine ⟨?_, a3⟩
  unfold scU shB
  rw [a1, a2]
  by_cases g : S (45 + e) (3 * k) = 0
  · rw [if_pos g, if_pos rfl, if_pos g]
  · rw [if_neg g, if_neg (by omega), if_neg g]
theorem scN_sh {h : zH} {X D : zD} (hO : mOk D) (p : evH h X D) (la : laO X D) {s : Int} {e : Nat} (he : (e : Int) < D 32 15) : ∀ n : Nat, (n : Int) ≤ D 57 e → scN X (X (lsE X 5 e) 3).toNat (X (lsE X 5 e) 7) (X (lsE X 5 e) 8) s n = shK D s e n
  | 0, _ => rfl
  | n + 1, hn => by
    have ih := scN_sh hO p la (s := s) he n (by omega)
    obtain ⟨⟨⟨b7, b8, b9⟩, r1, r2⟩, -⟩ := la.2.2 e he
    obtain ⟨u1, u2⟩ := scU_sh p he (k := n) (by omega) (s := X (lsE X 5 e) 7) (t := X (lsE X 5 e) 8)
    have hbar := lyF_bar hO.1 hO.2.1 hO.2.2.1 e
    unfold scN shK
    rw [ih, u1, u2]
    congr 1
    rcases evF_K (n := e) (sp := (lyF D).2.1) with ⟨h1, h2⟩ | ⟨h1, h2⟩
    · have := r1 h2
      rw [if_neg (by omega), if_neg (fun q => q.2.1 h1)]
    · obtain ⟨w7, w8, -⟩ := r2 _ h2
      obtain ⟨s1, s2⟩ := rSE_E h2
      rw [w7, w8, ← s1, ← s2]
      have nb : (lyF D).2.2.1 e ≠ 1 := fun q => by
        rw [hbar q] at h2
        cases h2
      by_cases g : max (shB D e n (rSt D e) (rEn D e)) (rSt D e) ≤ s ∧ s < min (shB D e n (rSt D e) (rEn D e) + D (45 + e) (3 * n + 2)) (rEn D e)
      · rw [if_pos g, if_pos]
        refine ⟨nb, by omega, ?_, ?_⟩
        · unfold shL
          omega
        · unfold shH
          omega
      · rw [if_neg g, if_neg]
        rintro ⟨q1, q2, q3, q4⟩
        unfold shL at q3
        unfold shH at q4
        omega
theorem shB_c {D D' : zD} {e k : Nat} {st en : Int} (q : cEq D D') (he : e < 12) : shB D' e k st en = shB D e k st en := by
  have r : ∀ i, D' (45 + e) i = D (45 + e) i := fun i => q _ _ (by omega)
  unfold shB
  rw [r, r]
theorem shL_c {D D' : zD} {e k : Nat} {st en : Int} (q : cEq D D') (he : e < 12) : shL D' e k st en = shL D e k st en := by
  unfold shL
  rw [shB_c q he]
theorem shH_c {D D' : zD} {e k : Nat} {st en : Int} (q : cEq D D') (he : e < 12) : shH D' e k st en = shH D e k st en := by
  have r : ∀ i, D' (45 + e) i = D (45 + e) i := fun i => q _ _ (by omega)
  unfold shH
  rw [shB_c q he, r]
theorem shK_c {D D' : zD} {s : Int} {e : Nat} (q : cEq D D') (he : e < 12) : ∀ n, shK D' s e n = shK D s e n
  | 0 => rfl
  | n + 1 => by
    unfold shK shC
    rw [shK_c q he n, shL_c q he, shH_c q he, rSt_c q, rEn_c q, lyF_cc q]
theorem shE_c {D D' : zD} {s : Int} (q : cEq D D') : ∀ n, n ≤ 12 → shE D' s n = shE D s n
  | 0, _ => rfl
  | n + 1, hn => by
    unfold shE
    rw [shE_c q n (by omega), shK_c q (by omega), q 57 n (by omega)]
set_option maxRecDepth 20000 in
theorem c63 {x : Int} {c : Nat} {h : zH} {X D : zD} (p : Inv c h X D) (hr : iR x) : ∃ X1 D1, InvG c h D X1 D1 ∧ iR (if qSec x = 0 then shE D1 x (D1 32 15).toNat else 0) ∧
    (cV (zc 63 4 [.ref 3, .int (Int32.ofInt x)] (zV (zU h X) D)) (qSec x) (if qSec x = 0 then shE D1 x (D1 32 15).toNat else 0) h X1 D1 ∨ cE (zc 63 4 [.ref 3, .int (Int32.ofInt x)] (zV (zU h X) D)) (qSec x) 1 0 h X1 D1) := by
  by_cases g : 0 ≤ x ∧ x ≤ 3599
  · obtain ⟨X1, D1, e91, p1, la, -, -, gl, -⟩ := lay p
    have q0 : qSec x = 0 := if_pos g
    have hO := p1.1.1
    have hH := p1.1.2.1
    have hS := p1.2.1.2.1
    have hV := p1.2.1.2.2
    have h15 := hO.2.1.1
    have hN : (((D1 32 15).toNat : Nat) : Int) = D1 32 15 := by omega
    have bE := shE_b (s := x) hH
    have e84 := c84_t (x := x) (h := zV (zU h X) D) (by omega)
    have h0 := hS.1.1
    have e175 := c175 (h := h) (X := X1) (D := D1) (a := 5) (by omega) h0.1
    rw [h0.2.1] at e175
    refine ⟨X1, D1, ⟨p1, gl⟩, ?_⟩
    rw [if_pos q0]
    refine ⟨by have := bE (D1 32 15).toNat (by omega); omega, Or.inl ⟨q0, ?_⟩⟩
    have hloop := zloop (k := 63) (pc := 12) (fun i => [some (.ref 3), some (.int (Int32.ofInt x)), some (.int (Int32.ofInt (shE D1 x i))), some (.int (Int32.ofInt (i : Int)))]) (fun _ => zV (zU h X1) D1) (D1 32 15).toNat (fun i hi => by
      obtain ⟨k1, k2, k3⟩ := hS.K (e := i) (by omega)
      have e171 := c171 (D := D1) (i := (i : Int)) (Or.inr (Or.inl rfl)) hS.1 (by omega)
      rw [Int.toNat_natCast] at e171
      obtain ⟨⟨v1, v2, v3⟩, v4⟩ := hV i (by omega)
      obtain ⟨⟨⟨b7, b8, b9⟩, r1, r2⟩, -⟩ := la.2.2 i (by omega)
      have h57 := (hH i (by omega)).1
      have e7 := c7 (D := D1) (t := x) (la := (X1 (lsE X1 5 i) 3).toNat) k1 k3 (by omega) (by omega) v2 (by omega) (hV.B hH (by omega)) (by omega) (by omega) (by omega)
      rw [scN_sh hO hV la (by omega) _ (by omega)] at e7
      have b1 := bE i (by omega)
      have b2 := shK_b (D := D1) (s := x) (e := i) (D1 57 i).toNat
      conv => lhs; rw [z63_12]
      rw [shE]
      clear p p1 hO hH hS hV la bE v4 r1 r2 v2 v3
      generalize shK D1 x i (D1 57 i).toNat = sk at *
      generalize shE D1 x i = se at *
      generalize lsE X1 5 i = a at *
      simp (disch := first | omega | (simp (disch := omega) only [zwr_s, zwr_a, zwr_i, zn_put, zn_new, zn_fil, zn_chg, zV_n]; omega)) only [zentry, zs0, zs1, zs2, zs3, zg_lo, zg_st, zg_st2, zg_ald, zg_ast, zs_ia, zs_i0, zcs, zg_ii, zi_max, zi_min, zi_abi, zi_abf, zi_fb, zi_bf, lget, lst, lst2, lc2, Option.map_some, zso, if_true, if_false, zc1, and_true, true_and, and_self, List.length_nil, List.length_cons, Nat.zero_le, reduceIte, reduceCtorEq, false_and, and_false, Bool.false_eq_true, zca_some, zr0, zr100, Option.bind_some, zb_none, zb_some, zrc, or_true, true_or, eq_self, ne_eq, not_true_eq_false, not_false_eq_true, zrt_i, zrt_zb, zrt_b, zrt_c, zrt_l, zrt_f, zrt_r, zrt_n, zrt_v, zft_0, zft_1, zft_zb, zft_3, zft_4, zft_5, zft_7r, zft_7n, iI_t, zb_i, zb_0, zb_1, Nat.reduceAdd, Nat.reduceLeDiff, Nat.reduceEqDiff, Nat.reduceSub, Int.reduceNeg, iI_add, iI_sub, iI_mul, iI_neg, iI_n, zbz, zchar_id, zin, zwr_s, zwr_a, zwr_i, if_pos, if_neg, Int.toNat_natCast, Int.natCast_zero, Int.reduceToNat, z63, zc3, zuL (a := 5) (Or.inr (Or.inl rfl)) h0.1, zuE k1 k3, e175, e171, e7, zt1, zt2]) (D1 32 15).toNat (Nat.le_refl _)
    have st : zc 63 4 [.ref 3, .int (Int32.ofInt x)] (zV (zU h X) D) = zx 63 12 [some (.ref 3), some (.int (Int32.ofInt x)), some (.int (Int32.ofInt 0)), some (.int (Int32.ofInt ((0 : Nat) : Int)))] [] (zV (zU h X1) D1) := by
      rw [zc]
      clear hloop p p1 hO hH hS hV la bE
      simp (disch := first | omega | (simp (disch := omega) only [zwr_s, zwr_a, zwr_i, zn_put, zn_new, zn_fil, zn_chg, zV_n]; omega)) only [zentry, zs0, zs1, zs2, zs3, zg_lo, zg_st, zg_st2, zg_ald, zg_ast, zs_ia, zs_i0, zcs, zg_ii, zi_max, zi_min, zi_abi, zi_abf, zi_fb, zi_bf, lget, lst, lst2, lc2, Option.map_some, zso, if_true, if_false, zc1, and_true, true_and, and_self, List.length_nil, List.length_cons, Nat.zero_le, reduceIte, reduceCtorEq, false_and, and_false, Bool.false_eq_true, zca_some, zr0, zr100, Option.bind_some, zb_none, zb_some, zrc, or_true, true_or, eq_self, ne_eq, not_true_eq_false, not_false_eq_true, zrt_i, zrt_zb, zrt_b, zrt_c, zrt_l, zrt_f, zrt_r, zrt_n, zrt_v, zft_0, zft_1, zft_zb, zft_3, zft_4, zft_5, zft_7r, zft_7n, iI_t, zb_i, zb_0, zb_1, Nat.reduceAdd, Nat.reduceLeDiff, Nat.reduceEqDiff, Nat.reduceSub, Int.reduceNeg, iI_add, iI_sub, iI_mul, iI_neg, iI_n, zbz, zchar_id, zin, zwr_s, zwr_a, zwr_i, if_pos, if_neg, Int.toNat_natCast, Int.natCast_zero, Int.reduceToNat, z63, zt1, e91, e84, zc3]
    rw [st]
    refine Eq.trans hloop ?_
    rw [z63_12, hN]
    have b1 := bE (D1 32 15).toNat (by omega)
    clear hloop p p1 hO hH hS hV la bE st e91
    generalize shE D1 x (D1 32 15).toNat = se at *
    simp (disch := first | omega | (simp (disch := omega) only [zwr_s, zwr_a, zwr_i, zn_put, zn_new, zn_fil, zn_chg, zV_n]; omega)) only [zentry, zs0, zs1, zs2, zs3, zg_lo, zg_st, zg_st2, zg_ald, zg_ast, zs_ia, zs_i0, zcs, zg_ii, zi_max, zi_min, zi_abi, zi_abf, zi_fb, zi_bf, lget, lst, lst2, lc2, Option.map_some, zso, if_true, if_false, zc1, and_true, true_and, and_self, List.length_nil, List.length_cons, Nat.zero_le, reduceIte, reduceCtorEq, false_and, and_false, Bool.false_eq_true, zca_some, zr0, zr100, Option.bind_some, zb_none, zb_some, zrc, or_true, true_or, eq_self, ne_eq, not_true_eq_false, not_false_eq_true, zrt_i, zrt_zb, zrt_b, zrt_c, zrt_l, zrt_f, zrt_r, zrt_n, zrt_v, zft_0, zft_1, zft_zb, zft_3, zft_4, zft_5, zft_7r, zft_7n, iI_t, zb_i, zb_0, zb_1, Nat.reduceAdd, Nat.reduceLeDiff, Nat.reduceEqDiff, Nat.reduceSub, Int.reduceNeg, iI_add, iI_sub, iI_mul, iI_neg, iI_n, zbz, zchar_id, zin, zwr_s, zwr_a, zwr_i, if_pos, if_neg, Int.toNat_natCast, Int.natCast_zero, Int.reduceToNat, z63, zc3, zuL (a := 5) (Or.inr (Or.inl rfl)) h0.1, e175, zt1]
  · refine ⟨X, D, ⟨p, gs.rf⟩, ?_⟩
    have q1 : qSec x = 1 := if_neg g
    have e84 := c84_f (x := x) (h := h) (X := X) (D := D) hr (by omega)
    rw [if_neg (by omega)]
    refine ⟨by omega, Or.inr ⟨q1, ?_⟩⟩
    rw [zc]
    clear p
    simp (disch := first | omega | (simp (disch := omega) only [zwr_s, zwr_a, zwr_i, zn_put, zn_new, zn_fil, zn_chg, zV_n]; omega)) only [zentry, zs0, zs1, zs2, zs3, zg_lo, zg_st, zg_st2, zg_ald, zg_ast, zs_ia, zs_i0, zcs, zg_ii, zi_max, zi_min, zi_abi, zi_abf, zi_fb, zi_bf, lget, lst, lst2, lc2, Option.map_some, zso, if_true, if_false, zc1, and_true, true_and, and_self, List.length_nil, List.length_cons, Nat.zero_le, reduceIte, reduceCtorEq, false_and, and_false, Bool.false_eq_true, zca_some, zr0, zr100, Option.bind_some, zb_none, zb_some, zrc, or_true, true_or, eq_self, ne_eq, not_true_eq_false, not_false_eq_true, zrt_i, zrt_zb, zrt_b, zrt_c, zrt_l, zrt_f, zrt_r, zrt_n, zrt_v, zft_0, zft_1, zft_zb, zft_3, zft_4, zft_5, zft_7r, zft_7n, iI_t, zb_i, zb_0, zb_1, Nat.reduceAdd, Nat.reduceLeDiff, Nat.reduceEqDiff, Nat.reduceSub, Int.reduceNeg, iI_add, iI_sub, iI_mul, iI_neg, iI_n, zbz, zchar_id, zin, zwr_s, zwr_a, zwr_i, if_pos, if_neg, Int.toNat_natCast, Int.natCast_zero, Int.reduceToNat, z63, zc3, e84, zb_x, zt1, zt2]
/-- where a secondary event starts -/
noncomputable def qSsV (D : zD) (p i : Int) : Int := if qSs D p i = 0 then shL D p.toNat i.toNat (rSt D p.toNat) (rEn D p.toNat) else 0
theorem qSs_c {D D' : zD} {p i : Int} (q : cEq D D') (h15 : D 32 15 ≤ 12) : qSs D' p i = qSs D p i ∧ qSsV D' p i = qSsV D p i := by
  have e1 : qSs D' p i = qSs D p i := by
    unfold qSs
    rw [q 32 15 (by omega), q 57 _ (by omega), qAi_c q, rSt_c q, rEn_c q]
    by_cases g : (0 ≤ p ∧ p ≤ D 32 15 - 1) ∧ (0 ≤ i ∧ i ≤ D 57 p.toNat - 1)
    · rw [if_pos g, if_pos g, shL_c q (by omega), shH_c q (by omega)]
    · rw [if_neg g, if_neg g]
  refine ⟨e1, ?_⟩
  unfold qSsV
  rw [e1, rSt_c q, rEn_c q]
  by_cases g : qSs D p i = 0
  · rw [if_pos g, if_pos g]
    have : 0 ≤ p ∧ p ≤ D 32 15 - 1 := by
      unfold qSs at g
      by_cases g2 : (0 ≤ p ∧ p ≤ D 32 15 - 1) ∧ (0 ≤ i ∧ i ≤ D 57 p.toNat - 1)
      · exact g2.1
      · rw [if_neg g2] at g
        omega
    rw [shL_c q (by omega)]
  · rw [if_neg g, if_neg g]
set_option maxRecDepth 20000 in
theorem c64 {x i : Int} {c : Nat} {h : zH} {X D : zD} (p : Inv c h X D) (hr : iR x) (hi : iR i) : ∃ X1 D1, InvG c h D X1 D1 ∧ iR (qSsV D1 x i) ∧
    (cV (zc 64 6 [.ref 3, .int (Int32.ofInt x), .int (Int32.ofInt i)] (zV (zU h X) D)) (qSs D1 x i) (qSsV D1 x i) h X1 D1 ∨ cE (zc 64 6 [.ref 3, .int (Int32.ofInt x), .int (Int32.ofInt i)] (zV (zU h X) D)) (qSs D1 x i) 1 2 h X1 D1 ∨ cE (zc 64 6 [.ref 3, .int (Int32.ofInt x), .int (Int32.ofInt i)] (zV (zU h X) D)) (qSs D1 x i) 2 4 h X1 D1) := by
  by_cases gx : 0 ≤ x ∧ x ≤ D 32 15 - 1
  · have e87 : zc 87 2 [.ref 3, .int (Int32.ofInt x)] (zV (zU h X) D) = some (.inl (some (.ref (lsE X 5 x.toNat))), zV (zU h X) D) := by
      rcases c87 p hr with ⟨-, e⟩ | ⟨e, -⟩
      · exact e
      · unfold qEv at e
        rw [if_pos gx] at e
        omega
    obtain ⟨k1, k2, k3⟩ := p.2.1.2.1.K (e := x.toNat) (by omega)
    obtain ⟨⟨v1, v2, v3⟩, v4⟩ := p.2.1.2.2 x.toNat (by omega)
    have e175 := c175 (h := h) (X := X) (D := D) (a := (X (lsE X 5 x.toNat) 3).toNat) (by omega) v2.1.1
    rw [v2.1.2.1] at e175
    have h57 := (p.1.2.1 x.toNat (by omega)).1
    have h15 := p.1.1.2.1.1
    have vx : X (lsE X 5 x.toNat) 3 = ((X (lsE X 5 x.toNat) 3).toNat : Int) := by omega
    by_cases gi : 0 ≤ i ∧ i ≤ D 57 x.toNat - 1
    · have e171 := c171 (D := D) (i := i) (by omega) v2 (by omega)
      have q3 := v2.2.2 i.toNat (by omega)
      have hsk : 70 ≤ lsE X (X (lsE X 5 x.toNat) 3).toNat i.toNat ∧ zk h (lsE X (X (lsE X 5 x.toNat) 3).toNat i.toNat) = 3 := by
        unfold lsE
        unfold lsE at q3
        exact ⟨by omega, q3.2.2⟩
      obtain ⟨X1, D1, e91, p1, la, l36, y, d32, d6⟩ := lay p
      have ce1 : cEq D D1 := fun a i q => d32 a i (by omega)
      obtain ⟨hS1, hl5⟩ := y.es p.2.1.1 p.vE p.2.1.2.1
      have l5 := hl5 x.toNat (by omega)
      have f15 := ce1 32 15 (by omega)
      have f57 := ce1 57 x.toNat (by omega)
      obtain ⟨⟨u1, u2, u3⟩, u4⟩ := p1.2.1.2.2 x.toNat (by omega)
      have ex3 : X1 (lsE X 5 x.toNat) 3 = X (lsE X 5 x.toNat) 3 := y _ _ (Or.inr (Or.inl (by omega)))
      obtain ⟨t1, t2⟩ := scU_sh p1.2.1.2.2 (e := x.toNat) (k := i.toNat) (by omega) (by omega) (s := X1 (lsE X 5 x.toNat) 7) (t := X1 (lsE X 5 x.toNat) 8)
      have sB := p1.2.1.2.2.B p1.1.2.1 (e := x.toNat) (by omega) i.toNat (by omega)
      have l3 := (lsO_v v2 y.ev).2 i.toNat (by omega)
      rw [l5, ex3, l3] at t1 t2 sB
      obtain ⟨⟨⟨b7, b8, b9⟩, r1, r2⟩, -⟩ := la.2.2 x.toNat (by omega)
      rw [l5] at b7 b8 b9 r1 r2
      have e25 := c25 (X := X1) (D := D1) (s := X1 (lsE X 5 x.toNat) 7) (e := X1 (lsE X 5 x.toNat) 8) hsk.1 hsk.2 sB.1 sB.2.1 (by omega) (by omega)
      have e26 := c26 (X := X1) (D := D1) (s := X1 (lsE X 5 x.toNat) 7) (e := X1 (lsE X 5 x.toNat) 8) hsk.1 hsk.2 sB.1 sB.2.1 sB.2.2 (by omega) (by omega)
      rw [t1] at e25
      rw [t1, t2] at e26
      have sb := scU_b (X := X1) (a := lsE X (X (lsE X 5 x.toNat) 3).toNat i.toNat) (s := X1 (lsE X 5 x.toNat) 7) (e := X1 (lsE X 5 x.toNat) 8) sB.2.1 (by omega) (by omega)
      rw [t1] at sb
      rw [t2] at sB
      refine ⟨X1, D1, ⟨p1, d32⟩, ?_⟩
      have hq : qSs D1 x i = if qAi D1 x = 0 then (if shL D1 x.toNat i.toNat (rSt D1 x.toNat) (rEn D1 x.toNat) < shH D1 x.toNat i.toNat (rSt D1 x.toNat) (rEn D1 x.toNat) then 0 else 2) else 2 := by
        unfold qSs
        rw [if_pos (by rw [f15, f57]; exact ⟨gx, gi⟩)]
      have hai : qAi D1 x = if evF x.toNat (lyF D1).2.1 = none then 2 else 0 := qAi_E p1.1.1 (by omega)
      have go : (qSs D1 x i = 0 ↔ max (shB D1 x.toNat i.toNat (X1 (lsE X 5 x.toNat) 7) (X1 (lsE X 5 x.toNat) 8)) (X1 (lsE X 5 x.toNat) 7) < min (shB D1 x.toNat i.toNat (X1 (lsE X 5 x.toNat) 7) (X1 (lsE X 5 x.toNat) 8) + D1 (45 + x.toNat) (3 * i.toNat + 2)) (X1 (lsE X 5 x.toNat) 8)) ∧ (qSs D1 x i = 0 → qSsV D1 x i = max (shB D1 x.toNat i.toNat (X1 (lsE X 5 x.toNat) 7) (X1 (lsE X 5 x.toNat) 8)) (X1 (lsE X 5 x.toNat) 7)) ∧ (qSs D1 x i ≠ 0 → qSs D1 x i = 2) := by
        by_cases g : evF x.toNat (lyF D1).2.1 = none
        · have := r1 g
          rw [if_pos g] at hai
          rw [hq, if_neg (by omega)]
          exact ⟨⟨fun w => by omega, fun w => by omega⟩, fun w => by omega, fun _ => rfl⟩
        · rw [if_neg g] at hai
          obtain ⟨z, hz⟩ := Option.ne_none_iff_exists'.mp g
          obtain ⟨w7, w8, -⟩ := r2 z hz
          obtain ⟨s1, s2⟩ := rSE_E hz
          have hv : qSs D1 x i = 0 → qSsV D1 x i = shL D1 x.toNat i.toNat (rSt D1 x.toNat) (rEn D1 x.toNat) := fun w => if_pos w
          rw [w7, w8, ← s1, ← s2]
          have eL : shL D1 x.toNat i.toNat (rSt D1 x.toNat) (rEn D1 x.toNat) = max (rSt D1 x.toNat) (shB D1 x.toNat i.toNat (rSt D1 x.toNat) (rEn D1 x.toNat)) := rfl
          have eH : shH D1 x.toNat i.toNat (rSt D1 x.toNat) (rEn D1 x.toNat) = min (rEn D1 x.toNat) (shB D1 x.toNat i.toNat (rSt D1 x.toNat) (rEn D1 x.toNat) + D1 (45 + x.toNat) (3 * i.toNat + 2)) := rfl
          rw [if_pos hai] at hq
          rw [eL, eH] at hq
          rw [eL] at hv
          clear e25 e26 e171 e91 e175 e87 sb sB t1 t2 r1 r2 la p p1 y hS1 hl5
          by_cases g2 : max (rSt D1 x.toNat) (shB D1 x.toNat i.toNat (rSt D1 x.toNat) (rEn D1 x.toNat)) < min (rEn D1 x.toNat) (shB D1 x.toNat i.toNat (rSt D1 x.toNat) (rEn D1 x.toNat) + D1 (45 + x.toNat) (3 * i.toNat + 2))
          · rw [if_pos g2] at hq
            exact ⟨⟨fun _ => by omega, fun _ => hq⟩, fun w => by rw [hv w]; omega, fun w => absurd hq w⟩
          · rw [if_neg g2] at hq
            exact ⟨⟨fun w => by omega, fun w => by omega⟩, fun w => by omega, fun _ => hq⟩
      obtain ⟨go1, go2, go3⟩ := go
      clear hq hai r1 r2
      generalize shB D1 x.toNat i.toNat (X1 (lsE X 5 x.toNat) 7) (X1 (lsE X 5 x.toNat) 8) = u at *
      by_cases g : qSs D1 x i = 0
      · have g1 := go1.mp g
        rw [go2 g]
        refine ⟨by omega, Or.inl ⟨g, ?_⟩⟩
        have kl := v2.1.1
        rw [zc]
        clear p p1 la y hS1 hl5 go1 go2 go3 u1 u2 u3 u4 v2 v3 v4 t1 t2 l3 d32 d6 ce1 l5
        generalize lsE X (X (lsE X 5 x.toNat) 3).toNat i.toNat = s at *
        generalize lsE X 5 x.toNat = a at *
        generalize D1 (45 + x.toNat) (3 * i.toNat + 2) = ln at *
        generalize (X a 3).toNat = b at *
        simp (disch := first | omega | (simp (disch := omega) only [zwr_s, zwr_a, zwr_i, zn_put, zn_new, zn_fil, zn_chg, zV_n]; omega)) only [zentry, zs0, zs1, zs2, zs3, zg_lo, zg_st, zg_st2, zg_ald, zg_ast, zs_ia, zs_i0, zcs, zg_ii, zi_max, zi_min, zi_abi, zi_abf, zi_fb, zi_bf, lget, lst, lst2, lc2, Option.map_some, zso, if_true, if_false, zc1, and_true, true_and, and_self, List.length_nil, List.length_cons, Nat.zero_le, reduceIte, reduceCtorEq, false_and, and_false, Bool.false_eq_true, zca_some, zr0, zr100, Option.bind_some, zb_none, zb_some, zrc, or_true, true_or, eq_self, ne_eq, not_true_eq_false, not_false_eq_true, zrt_i, zrt_zb, zrt_b, zrt_c, zrt_l, zrt_f, zrt_r, zrt_n, zrt_v, zft_0, zft_1, zft_zb, zft_3, zft_4, zft_5, zft_7r, zft_7n, iI_t, zb_i, zb_0, zb_1, Nat.reduceAdd, Nat.reduceLeDiff, Nat.reduceEqDiff, Nat.reduceSub, Int.reduceNeg, iI_add, iI_sub, iI_mul, iI_neg, iI_n, zbz, zchar_id, zin, zwr_s, zwr_a, zwr_i, if_pos, if_neg, Int.toNat_natCast, Int.natCast_zero, Int.reduceToNat, z64, zc3, zuE k1 k3, zuS hsk.1 hsk.2, e87, vx, e175, kl, e171, e91, e25, e26, zt1, zt2, zt3, zW_k]
      · have g1 : ¬ max u (X1 (lsE X 5 x.toNat) 7) < min (u + D1 (45 + x.toNat) (3 * i.toNat + 2)) (X1 (lsE X 5 x.toNat) 8) := fun w => g (go1.mpr w)
        have gv : qSsV D1 x i = 0 := if_neg g
        rw [gv]
        refine ⟨by omega, Or.inr (Or.inr ⟨go3 g, ?_⟩)⟩
        have kl := v2.1.1
        rw [zc]
        clear p p1 la y hS1 hl5 go1 go2 go3 u1 u2 u3 u4 v2 v3 v4 t1 t2 l3 d32 d6 ce1 l5
        generalize lsE X (X (lsE X 5 x.toNat) 3).toNat i.toNat = s at *
        generalize lsE X 5 x.toNat = a at *
        generalize D1 (45 + x.toNat) (3 * i.toNat + 2) = ln at *
        generalize (X a 3).toNat = b at *
        simp (disch := first | omega | (simp (disch := omega) only [zwr_s, zwr_a, zwr_i, zn_put, zn_new, zn_fil, zn_chg, zV_n]; omega)) only [zentry, zs0, zs1, zs2, zs3, zg_lo, zg_st, zg_st2, zg_ald, zg_ast, zs_ia, zs_i0, zcs, zg_ii, zi_max, zi_min, zi_abi, zi_abf, zi_fb, zi_bf, lget, lst, lst2, lc2, Option.map_some, zso, if_true, if_false, zc1, and_true, true_and, and_self, List.length_nil, List.length_cons, Nat.zero_le, reduceIte, reduceCtorEq, false_and, and_false, Bool.false_eq_true, zca_some, zr0, zr100, Option.bind_some, zb_none, zb_some, zrc, or_true, true_or, eq_self, ne_eq, not_true_eq_false, not_false_eq_true, zrt_i, zrt_zb, zrt_b, zrt_c, zrt_l, zrt_f, zrt_r, zrt_n, zrt_v, zft_0, zft_1, zft_zb, zft_3, zft_4, zft_5, zft_7r, zft_7n, iI_t, zb_i, zb_0, zb_1, Nat.reduceAdd, Nat.reduceLeDiff, Nat.reduceEqDiff, Nat.reduceSub, Int.reduceNeg, iI_add, iI_sub, iI_mul, iI_neg, iI_n, zbz, zchar_id, zin, zwr_s, zwr_a, zwr_i, if_pos, if_neg, Int.toNat_natCast, Int.natCast_zero, Int.reduceToNat, z64, zc3, zuE k1 k3, zuS hsk.1 hsk.2, e87, vx, e175, kl, e171, e91, e25, e26, zt1, zt2, zt3, zW_k, zgX]
    · have g1 : qSs D x i = 1 := by
        unfold qSs
        rw [if_neg (fun q => gi q.2)]
      refine ⟨X, D, ⟨p, gs.rf⟩, ?_⟩
      have gv : qSsV D x i = 0 := if_neg (by omega)
      rw [gv]
      refine ⟨by omega, Or.inr (Or.inl ⟨g1, ?_⟩)⟩
      rw [zc]
      have kl := v2.1.1
      clear p v2 v3 v4
      generalize lsE X 5 x.toNat = a at *
      generalize (X a 3).toNat = b at *
      by_cases g2 : i < 0
      · simp (disch := first | omega | (simp (disch := omega) only [zwr_s, zwr_a, zwr_i, zn_put, zn_new, zn_fil, zn_chg, zV_n]; omega)) only [zentry, zs0, zs1, zs2, zs3, zg_lo, zg_st, zg_st2, zg_ald, zg_ast, zs_ia, zs_i0, zcs, zg_ii, zi_max, zi_min, zi_abi, zi_abf, zi_fb, zi_bf, lget, lst, lst2, lc2, Option.map_some, zso, if_true, if_false, zc1, and_true, true_and, and_self, List.length_nil, List.length_cons, Nat.zero_le, reduceIte, reduceCtorEq, false_and, and_false, Bool.false_eq_true, zca_some, zr0, zr100, Option.bind_some, zb_none, zb_some, zrc, or_true, true_or, eq_self, ne_eq, not_true_eq_false, not_false_eq_true, zrt_i, zrt_zb, zrt_b, zrt_c, zrt_l, zrt_f, zrt_r, zrt_n, zrt_v, zft_0, zft_1, zft_zb, zft_3, zft_4, zft_5, zft_7r, zft_7n, iI_t, zb_i, zb_0, zb_1, Nat.reduceAdd, Nat.reduceLeDiff, Nat.reduceEqDiff, Nat.reduceSub, Int.reduceNeg, iI_add, iI_sub, iI_mul, iI_neg, iI_n, zbz, zchar_id, zin, zwr_s, zwr_a, zwr_i, if_pos, if_neg, Int.toNat_natCast, Int.natCast_zero, Int.reduceToNat, z64, zc3, zuE k1 k3, e87, vx, e175, zt1, zt2, zW_k, zgX]
      · simp (disch := first | omega | (simp (disch := omega) only [zwr_s, zwr_a, zwr_i, zn_put, zn_new, zn_fil, zn_chg, zV_n]; omega)) only [zentry, zs0, zs1, zs2, zs3, zg_lo, zg_st, zg_st2, zg_ald, zg_ast, zs_ia, zs_i0, zcs, zg_ii, zi_max, zi_min, zi_abi, zi_abf, zi_fb, zi_bf, lget, lst, lst2, lc2, Option.map_some, zso, if_true, if_false, zc1, and_true, true_and, and_self, List.length_nil, List.length_cons, Nat.zero_le, reduceIte, reduceCtorEq, false_and, and_false, Bool.false_eq_true, zca_some, zr0, zr100, Option.bind_some, zb_none, zb_some, zrc, or_true, true_or, eq_self, ne_eq, not_true_eq_false, not_false_eq_true, zrt_i, zrt_zb, zrt_b, zrt_c, zrt_l, zrt_f, zrt_r, zrt_n, zrt_v, zft_0, zft_1, zft_zb, zft_3, zft_4, zft_5, zft_7r, zft_7n, iI_t, zb_i, zb_0, zb_1, Nat.reduceAdd, Nat.reduceLeDiff, Nat.reduceEqDiff, Nat.reduceSub, Int.reduceNeg, iI_add, iI_sub, iI_mul, iI_neg, iI_n, zbz, zchar_id, zin, zwr_s, zwr_a, zwr_i, if_pos, if_neg, Int.toNat_natCast, Int.natCast_zero, Int.reduceToNat, z64, zc3, zuE k1 k3, e87, vx, e175, kl, zt1, zt2, zW_k, zgX]
  · have e87 : zc 87 2 [.ref 3, .int (Int32.ofInt x)] (zV (zU h X) D) = some (.inr 2, zV (zU (zchg h 1 6) X) D) := by
      rcases c87 p hr with ⟨e, -⟩ | ⟨-, e⟩
      · unfold qEv at e
        rw [if_neg gx] at e
        omega
      · exact e
    have g1 : qSs D x i = 1 := by
      unfold qSs
      rw [if_neg (fun q => gx q.1)]
    refine ⟨X, D, ⟨p, gs.rf⟩, ?_⟩
    have gv : qSsV D x i = 0 := if_neg (by omega)
    rw [gv]
    refine ⟨by omega, Or.inr (Or.inl ⟨g1, ?_⟩)⟩
    rw [zc]
    clear p
    simp (disch := first | omega | (simp (disch := omega) only [zwr_s, zwr_a, zwr_i, zn_put, zn_new, zn_fil, zn_chg, zV_n]; omega)) only [zentry, zs0, zs1, zs2, zs3, zg_lo, zg_st, zg_st2, zg_ald, zg_ast, zs_ia, zs_i0, zcs, zg_ii, zi_max, zi_min, zi_abi, zi_abf, zi_fb, zi_bf, lget, lst, lst2, lc2, Option.map_some, zso, if_true, if_false, zc1, and_true, true_and, and_self, List.length_nil, List.length_cons, Nat.zero_le, reduceIte, reduceCtorEq, false_and, and_false, Bool.false_eq_true, zca_some, zr0, zr100, Option.bind_some, zb_none, zb_some, zrc, or_true, true_or, eq_self, ne_eq, not_true_eq_false, not_false_eq_true, zrt_i, zrt_zb, zrt_b, zrt_c, zrt_l, zrt_f, zrt_r, zrt_n, zrt_v, zft_0, zft_1, zft_zb, zft_3, zft_4, zft_5, zft_7r, zft_7n, iI_t, zb_i, zb_0, zb_1, Nat.reduceAdd, Nat.reduceLeDiff, Nat.reduceEqDiff, Nat.reduceSub, Int.reduceNeg, iI_add, iI_sub, iI_mul, iI_neg, iI_n, zbz, zchar_id, zin, zwr_s, zwr_a, zwr_i, if_pos, if_neg, Int.toNat_natCast, Int.natCast_zero, Int.reduceToNat, z64, zc3, e87, zb_x, zt1, zt2]

/-! the class lays out an event -/
set_option maxRecDepth 20000 in
theorem c4n {h : zH} {X D : zD} {a : Nat} {s e : Int} (ha : 70 ≤ a) (hk : zk h a = 1) (h1 : 0 ≤ X a 1 ∧ X a 1 ≤ 65535) (h2 : X a 1 ≠ 106) : zc 4 3 [.ref a, .int (Int32.ofInt s), .int (Int32.ofInt e)] (zV (zU h X) D) = some (.inl none, zV (zU h (evOn X a s e)) D) := by
  rw [zc]
  unfold evOn
  rw [zb_f (fun q => h2 q.1)]
  simp (disch := first | omega | (simp (disch := omega) only [zwr_s, zwr_a, zwr_i, zn_put, zn_new, zn_fil, zn_chg, zV_n]; omega)) only [zentry, zs0, zs1, zs2, zs3, zg_lo, zg_st, zg_st2, zg_ald, zg_ast, zs_ia, zs_i0, zcs, zg_ii, zi_max, zi_min, zi_abi, zi_abf, zi_fb, zi_bf, lget, lst, lst2, lc2, Option.map_some, zso, if_true, if_false, zc1, and_true, true_and, and_self, List.length_nil, List.length_cons, Nat.zero_le, reduceIte, reduceCtorEq, false_and, and_false, Bool.false_eq_true, zca_some, zr0, zr100, Option.bind_some, zb_none, zb_some, zrc, or_true, true_or, eq_self, ne_eq, not_true_eq_false, not_false_eq_true, zrt_i, zrt_zb, zrt_b, zrt_c, zrt_l, zrt_f, zrt_r, zrt_n, zrt_v, zft_0, zft_1, zft_zb, zft_3, zft_4, zft_5, zft_7r, zft_7n, iI_t, zb_i, zb_0, zb_1, Nat.reduceAdd, Nat.reduceLeDiff, Nat.reduceEqDiff, Nat.reduceSub, Int.reduceNeg, iI_add, iI_sub, iI_mul, iI_neg, iI_n, zbz, zchar_id, zin, zwr_s, zwr_a, zwr_i, if_pos, if_neg, Int.toNat_natCast, Int.natCast_zero, Int.reduceToNat, z4, zuE ha hk]
def lyB (S : zD) : Prop := mCl S ∧ mEvs S ∧ FP.Core.fIsNaN (mLst S) = false ∧ fiNu S ∧ fiP3 S
theorem up_n1 {cu : Nat → Int} : (fun n : Nat => if (-1 : Int) = n then (1 : Int) else cu n) = cu := by
  funext n
  rw [if_neg (by omega)]
set_option maxRecDepth 20000 in
theorem c94 {e : Nat} {t : Int} {sp : zSp} {ba cu jo : Nat → Int} {h : zH} {X D S : zD} (hB : lyB S) (hC : clO h X S) (hS : evS h X S) (he : (e : Int) < S 32 15) (hX : lyX S X e sp ba cu jo) (hD : lyD S D sp) (hI : lyI S e t sp) :
    ∃ X' D', zc 94 7 [.ref 3, .int (Int32.ofInt (e : Int)), .ref (lsE X 5 e), .int (Int32.ofInt t)] (zV (zU h X) D) = some (.inl (some (.int (Int32.ofInt (lyEv S e t sp).1))), zV (zU h X') D') ∧ evY h X X' ∧ lyD S D' (lyEv S e t sp).2.1 ∧
      lyX S X' (e + 1) (lyEv S e t sp).2.1 (upN ba e (X (lsE X 5 e) 5)) (upN (fun n => if (lyEv S e t sp).2.2.1 = n then 1 else cu n) e 0) (upN jo e (lyEv S e t sp).2.2.2) := by
  obtain ⟨hM, hE, hn, hN, h3⟩ := hB
  obtain ⟨v1, v2, v3, v4⟩ := hE.2.1 e he
  have h12 := hE.1.2
  have hvE : ∀ e : Nat, (e : Int) < S 32 15 → 0 ≤ S 40 e ∧ S 40 e < S 32 7 := fun e he => (hE.2.1 e he).1
  have hl := (hM.2.2 (S 40 e).toNat (by omega)).1
  have h7 := hM.1
  obtain ⟨i1, i2, i3, i4, i5⟩ := id hI
  have t0 := spC_nn i1
  have hb := lyI_B hE hM (by omega) hI
  obtain ⟨k1, k2, k3⟩ := hS.K he
  obtain ⟨x0, x1, x2, x4⟩ := hS.2.2 e he
  obtain ⟨d1, d2, d3⟩ := hC.K (e := (S 40 e).toNat) (by omega)
  obtain ⟨y0, -, y2, -⟩ := hC.2 (S 40 e).toNat (by omega)
  have y0 : X (lsE X 4 (S 40 e).toNat) 0 = S 40 e := by omega
  have hne : lsE X 4 (S 40 e).toNat ≠ lsE X 5 e := fun w => by rw [w] at d3; omega
  -- on air: the state behind it
  have on : ∀ (Y E : zD) (s en : Int), (Y (lsE X 5 e) 1 = 106 → iR s ∧ iR en) → (∀ i, i < 5 → Y (lsE X 5 e) i = X (lsE X 5 e) i) → (∀ i, Y (lsE X 4 (S 40 e).toNat) i = X (lsE X 4 (S 40 e).toNat) i) → 
      zc 4 3 [.ref (lsE X 5 e), .int (Int32.ofInt s), .int (Int32.ofInt en)] (zV (zU h Y) E) = some (.inl none, zV (zU h (evOn Y (lsE X 5 e) s en)) E) ∧ evOn Y (lsE X 5 e) s en (lsE X 5 e) 0 = (lsE X 4 (S 40 e).toNat : Nat) ∧ evOn Y (lsE X 5 e) s en (lsE X 4 (S 40 e).toNat) 0 = S 40 e := by
    intro Y E s en r1 r2 r3
    have m1 : Y (lsE X 5 e) 1 = S 43 e := (r2 1 (by omega)).trans x1
    refine ⟨?_, ?_, ?_⟩
    · by_cases g : S 43 e = 106
      · have := v4 (by omega)
        exact c4 k1 k3 (by omega) (by rw [r2 2 (by omega), x2]; omega) (r1 (by omega)).1 (r1 (by omega)).2
      · exact c4n k1 k3 (by omega) (by omega)
    · unfold evOn
      rw [zwr_i (by omega), zwr_i (by omega), zwr_i (by omega), zwr_i (by omega), r2 0 (by omega)]
      exact x0
    · rw [evOn_o hne, r3]
      exact y0
  have hln : lyLn S e = S 33 (S 40 e).toNat + S 42 e := rfl
  generalize hq : lsE X 4 (S 40 e).toNat = c at *
  by_cases g0 : S 43 e = 102
  · have hst : lySt S e t = t := if_pos g0
    have ev : lyEv S e t sp = (t + lyLn S e, (S 40 e, (e : Int), t, t + lyLn S e) :: sp, -1, 0) := by
      unfold lyEv
      rw [hst, if_neg (by omega), if_neg (by omega), if_neg (by omega)]
    rw [ev]
    simp only []
    rw [up_n1]
    obtain ⟨o1, o2, o3⟩ := on X D t (t + lyLn S e) (fun q => by omega) (fun _ _ => rfl) (fun _ => rfl)
    refine ⟨evOn X (lsE X 5 e) t (t + lyLn S e), tAdd 6 D (S 40 e) t (t + lyLn S e), ?_, evOn_y k3, hD.add, lyX_push hS hX he (by omega) rfl (zb_f (by omega))⟩
    have h6 := hD.1
    have e30 := c30_6 (c := S 40 e) (s := t) (e := t + lyLn S e) (h := zU h (evOn X (lsE X 5 e) t (t + lyLn S e))) (D := D) (by omega)
    rw [hln] at *
    rw [zc]
    clear hM hE hn hN h3 hI hC hS hX hD on i1 i4 i5 hb ev hvE
    generalize evOn X (lsE X 5 e) t (t + (S 33 (S 40 e).toNat + S 42 e)) = X2 at *
    generalize tAdd 6 D (S 40 e) t (t + (S 33 (S 40 e).toNat + S 42 e)) = D2 at *
    generalize lsE X 5 e = a at *
    simp (disch := first | omega | (simp (disch := omega) only [zwr_s, zwr_a, zwr_i, zn_put, zn_new, zn_fil, zn_chg, zV_n]; omega)) only [zentry, zs0, zs1, zs2, zs3, zg_lo, zg_st, zg_st2, zg_ald, zg_ast, zs_ia, zs_i0, zcs, zg_ii, zi_max, zi_min, zi_abi, zi_abf, zi_fb, zi_bf, lget, lst, lst2, lc2, Option.map_some, zso, if_true, if_false, zc1, and_true, true_and, and_self, List.length_nil, List.length_cons, Nat.zero_le, reduceIte, reduceCtorEq, false_and, and_false, Bool.false_eq_true, zca_some, zr0, zr100, Option.bind_some, zb_none, zb_some, zrc, or_true, true_or, eq_self, ne_eq, not_true_eq_false, not_false_eq_true, zrt_i, zrt_zb, zrt_b, zrt_c, zrt_l, zrt_f, zrt_r, zrt_n, zrt_v, zft_0, zft_1, zft_zb, zft_3, zft_4, zft_5, zft_7r, zft_7n, iI_t, zb_i, zb_0, zb_1, Nat.reduceAdd, Nat.reduceLeDiff, Nat.reduceEqDiff, Nat.reduceSub, Int.reduceNeg, iI_add, iI_sub, iI_mul, iI_neg, iI_n, zbz, zchar_id, zin, zwr_s, zwr_a, zwr_i, if_pos, if_neg, Int.toNat_natCast, Int.natCast_zero, Int.reduceToNat, z94, zc3, zc6, zuE k1 k3, zuC d1 d3, x0, x1, x2, x4, y2, g0, o1, o2, o3, e30, zt3, zt4]
  · have hst : lySt S e t = S 41 e := if_neg g0
    have v4 := v4 g0
    by_cases g1 : t < S 41 e
    · have ev : lyEv S e t sp = (S 41 e + lyLn S e, (S 40 e, (e : Int), S 41 e, S 41 e + lyLn S e) :: lyGap S t (S 41 e) sp, -1, 0) := by
        unfold lyEv
        rw [hst, if_pos g1]
      rw [ev]
      simp only []
      rw [up_n1]
      obtain ⟨a1, a2, a3, a4⟩ := lyGap_p hM hE.2.2.2 hn (f := t) (t := S 41 e) (by omega) i1 i4
      have e96 := c96 (p := e) (D := D) hS hC hvE h12 (by omega) (fun n hn => by
        have := (hX n hn).1.1
        omega)
      rw [leX_ly hS hC hvE (fun n hn => (hX n hn).1) i1 i4 e (by omega) i5] at e96
      have lvb := lyLev_b hM (lyI_v hI)
      obtain ⟨D1, e95, hD1⟩ := c95' (h := zU h X) (f := t) (t := S 41 e) hM hE.2.2.2 hn hN h3 hD i4 (by omega) (by omega) (by omega)
      obtain ⟨o1, o2, o3⟩ := on X D1 (S 41 e) (S 41 e + lyLn S e) (fun q => by omega) (fun _ _ => rfl) (fun _ => rfl)
      refine ⟨evOn X (lsE X 5 e) (S 41 e) (S 41 e + lyLn S e), tAdd 6 D1 (S 40 e) (S 41 e) (S 41 e + lyLn S e), ?_, evOn_y k3, hD1.add, lyX_push hS (lyX_gap hX) he (by omega) rfl (zb_f (by omega))⟩
      have h6 := hD1.1
      have e30 := c30_6 (c := S 40 e) (s := S 41 e) (e := S 41 e + lyLn S e) (h := zU h (evOn X (lsE X 5 e) (S 41 e) (S 41 e + lyLn S e))) (D := D1) (by omega)
      rw [hln] at *
      rw [zc]
      clear hM hE hn hN h3 hI hC hS hX hD hD1 on i1 i4 i5 hb ev hvE a1 a2 a3 a4
      generalize evOn X (lsE X 5 e) (S 41 e) (S 41 e + (S 33 (S 40 e).toNat + S 42 e)) = X2 at *
      generalize tAdd 6 D1 (S 40 e) (S 41 e) (S 41 e + (S 33 (S 40 e).toNat + S 42 e)) = D2 at *
      generalize lsE X 5 e = a at *
      generalize lyLev S sp = lv at *
      simp (disch := first | omega | (simp (disch := omega) only [zwr_s, zwr_a, zwr_i, zn_put, zn_new, zn_fil, zn_chg, zV_n]; omega)) only [zentry, zs0, zs1, zs2, zs3, zg_lo, zg_st, zg_st2, zg_ald, zg_ast, zs_ia, zs_i0, zcs, zg_ii, zi_max, zi_min, zi_abi, zi_abf, zi_fb, zi_bf, lget, lst, lst2, lc2, Option.map_some, zso, if_true, if_false, zc1, and_true, true_and, and_self, List.length_nil, List.length_cons, Nat.zero_le, reduceIte, reduceCtorEq, false_and, and_false, Bool.false_eq_true, zca_some, zr0, zr100, Option.bind_some, zb_none, zb_some, zrc, or_true, true_or, eq_self, ne_eq, not_true_eq_false, not_false_eq_true, zrt_i, zrt_zb, zrt_b, zrt_c, zrt_l, zrt_f, zrt_r, zrt_n, zrt_v, zft_0, zft_1, zft_zb, zft_3, zft_4, zft_5, zft_7r, zft_7n, iI_t, zb_i, zb_0, zb_1, Nat.reduceAdd, Nat.reduceLeDiff, Nat.reduceEqDiff, Nat.reduceSub, Int.reduceNeg, iI_add, iI_sub, iI_mul, iI_neg, iI_n, zbz, zchar_id, zin, zwr_s, zwr_a, zwr_i, if_pos, if_neg, Int.toNat_natCast, Int.natCast_zero, Int.reduceToNat, z94, zc3, zc6, zuE k1 k3, zuC d1 d3, x0, x1, x2, x4, y2, e96, e95, o1, o2, o3, e30, zt2, zt3, zt4]
    · by_cases g2 : S 43 e = 99
      · have ev : lyEv S e t sp = (S 41 e + lyLn S e, (S 40 e, (e : Int), S 41 e, S 41 e + lyLn S e) :: lyCut (S 41 e) sp, lyCe (S 41 e) sp, 0) := by
          unfold lyEv
          rw [hst, if_neg g1, if_pos g2]
        rw [ev]
        simp only []
        have hy := itX_y hS (g := cutR (S 41 e)) (fun r i q => if_neg (by omega)) (S 32 15).toNat (by omega)
        obtain ⟨hS1, hl2⟩ := hy.es hC hvE hS
        obtain ⟨hC1, hl4⟩ := hy.ev.cl hC
        have hX1 := lyX_cut hS hX i1 i5 (t := S 41 e) (by omega)
        have e97 := c97 (t := S 41 e) (D := D) (sp := sp) hS h12 (by omega) (fun n hn => by
          have := (hX n hn).1.1
          omega) hD.1 (by omega) hD.2.1 hb
        have hD1 := hD.cut (t := S 41 e)
        have lc := lyCut_l (t := S 41 e) (sp := sp)
        have l2e := hl2 e he
        obtain ⟨o1, o2, o3⟩ := on (itX (cutR (S 41 e)) X (S 32 15).toNat) (tCut 6 (S 41 e) sp D) (S 41 e) (S 41 e + lyLn S e) (fun q => by omega) (fun i hi => hy _ _ (Or.inr (Or.inl hi))) (fun i => hy _ _ (Or.inl (by omega)))
        have hp := lyX_push (s := S 41 e) (en := S 41 e + lyLn S e) (c := S 40 e) (b := X (lsE X 5 e) 5) (j := 0) hS1 hX1 he (by omega) (by
          rw [l2e, itX_e (S 32 15).toNat (fun a b ha hb => hS.2.1 a b (by omega) (by omega)) e (by omega)]
          rfl) (zb_f (by rw [l2e, hy _ 1 (Or.inr (Or.inl (by omega))), x1]; omega))
        rw [l2e] at hp
        refine ⟨evOn (itX (cutR (S 41 e)) X (S 32 15).toNat) (lsE X 5 e) (S 41 e) (S 41 e + lyLn S e), tAdd 6 (tCut 6 (S 41 e) sp D) (S 40 e) (S 41 e) (S 41 e + lyLn S e), ?_, hy.tr (evOn_y k3), hD1.add, hp⟩
        have h6 := hD1.1
        have e30 := c30_6 (c := S 40 e) (s := S 41 e) (e := S 41 e + lyLn S e) (h := zU h (evOn (itX (cutR (S 41 e)) X (S 32 15).toNat) (lsE X 5 e) (S 41 e) (S 41 e + lyLn S e))) (D := tCut 6 (S 41 e) sp D) (by omega)
        have w1 : itX (cutR (S 41 e)) X (S 32 15).toNat (lsE X 5 e) 2 = S 41 e := (hy _ 2 (Or.inr (Or.inl (by omega)))).trans x2
        rw [hln] at *
        rw [zc]
        clear hM hE hn hN h3 hI hC hS hX hD hD1 on i1 i4 i5 hb ev hvE hy hS1 hC1 hl2 hl4 hX1 hp lc l2e
        generalize itX (cutR (S 41 e)) X (S 32 15).toNat = X1 at *
        generalize evOn X1 (lsE X 5 e) (S 41 e) (S 41 e + (S 33 (S 40 e).toNat + S 42 e)) = X2 at *
        generalize tCut 6 (S 41 e) sp D = D1 at *
        generalize tAdd 6 D1 (S 40 e) (S 41 e) (S 41 e + (S 33 (S 40 e).toNat + S 42 e)) = D2 at *
        generalize lsE X 5 e = a at *
        simp (disch := first | omega | (simp (disch := omega) only [zwr_s, zwr_a, zwr_i, zn_put, zn_new, zn_fil, zn_chg, zV_n]; omega)) only [zentry, zs0, zs1, zs2, zs3, zg_lo, zg_st, zg_st2, zg_ald, zg_ast, zs_ia, zs_i0, zcs, zg_ii, zi_max, zi_min, zi_abi, zi_abf, zi_fb, zi_bf, lget, lst, lst2, lc2, Option.map_some, zso, if_true, if_false, zc1, and_true, true_and, and_self, List.length_nil, List.length_cons, Nat.zero_le, reduceIte, reduceCtorEq, false_and, and_false, Bool.false_eq_true, zca_some, zr0, zr100, Option.bind_some, zb_none, zb_some, zrc, or_true, true_or, eq_self, ne_eq, not_true_eq_false, not_false_eq_true, zrt_i, zrt_zb, zrt_b, zrt_c, zrt_l, zrt_f, zrt_r, zrt_n, zrt_v, zft_0, zft_1, zft_zb, zft_3, zft_4, zft_5, zft_7r, zft_7n, iI_t, zb_i, zb_0, zb_1, Nat.reduceAdd, Nat.reduceLeDiff, Nat.reduceEqDiff, Nat.reduceSub, Int.reduceNeg, iI_add, iI_sub, iI_mul, iI_neg, iI_n, zbz, zchar_id, zin, zwr_s, zwr_a, zwr_i, if_pos, if_neg, Int.toNat_natCast, Int.natCast_zero, Int.reduceToNat, z94, zc3, zc6, zuE k1 k3, zuC d1 d3, x0, x1, x2, x4, y2, g2, w1, e97, o1, o2, o3, e30, zt2, zt3, zt4]
      · by_cases g3 : S 43 e = 106
        · by_cases g4 : S 41 e + lyLn S e ≤ t
          · have ev : lyEv S e t sp = (t, sp, -1, 0) := by
              unfold lyEv
              rw [hst, if_neg g1, if_neg g2, if_pos g3, if_pos g4]
            rw [ev]
            simp only []
            rw [up_n1]
            refine ⟨X, D, ?_, evY.rf, hD, lyX_skip hX i5 (fun _ => rfl)⟩
            rw [hln] at *
            rw [zc]
            clear hM hE hn hN h3 hI hC hS hX hD on i1 i4 i5 hb ev hvE
            generalize lsE X 5 e = a at *
            simp (disch := first | omega | (simp (disch := omega) only [zwr_s, zwr_a, zwr_i, zn_put, zn_new, zn_fil, zn_chg, zV_n]; omega)) only [zentry, zs0, zs1, zs2, zs3, zg_lo, zg_st, zg_st2, zg_ald, zg_ast, zs_ia, zs_i0, zcs, zg_ii, zi_max, zi_min, zi_abi, zi_abf, zi_fb, zi_bf, lget, lst, lst2, lc2, Option.map_some, zso, if_true, if_false, zc1, and_true, true_and, and_self, List.length_nil, List.length_cons, Nat.zero_le, reduceIte, reduceCtorEq, false_and, and_false, Bool.false_eq_true, zca_some, zr0, zr100, Option.bind_some, zb_none, zb_some, zrc, or_true, true_or, eq_self, ne_eq, not_true_eq_false, not_false_eq_true, zrt_i, zrt_zb, zrt_b, zrt_c, zrt_l, zrt_f, zrt_r, zrt_n, zrt_v, zft_0, zft_1, zft_zb, zft_3, zft_4, zft_5, zft_7r, zft_7n, iI_t, zb_i, zb_0, zb_1, Nat.reduceAdd, Nat.reduceLeDiff, Nat.reduceEqDiff, Nat.reduceSub, Int.reduceNeg, iI_add, iI_sub, iI_mul, iI_neg, iI_n, zbz, zchar_id, zin, zwr_s, zwr_a, zwr_i, if_pos, if_neg, Int.toNat_natCast, Int.natCast_zero, Int.reduceToNat, z94, zc3, zc6, zuE k1 k3, zuC d1 d3, x0, x1, x2, x4, y2, g3, zt3, zt4]
          · have ev : lyEv S e t sp = (S 41 e + lyLn S e, (S 40 e, (e : Int), t, S 41 e + lyLn S e) :: sp, -1, zb (S 41 e < t)) := by
              unfold lyEv
              rw [hst, if_neg g1, if_neg g2, if_pos g3, if_neg g4]
            rw [ev]
            simp only []
            rw [up_n1]
            obtain ⟨o1, o2, o3⟩ := on X D t (S 41 e + lyLn S e) (fun q => by omega) (fun _ _ => rfl) (fun _ => rfl)
            have hj : zb (X (lsE X 5 e) 1 = 106 ∧ X (lsE X 5 e) 2 < t) = zb (S 41 e < t) := by
              rw [x1, x2]
              by_cases g5 : S 41 e < t
              · rw [zb_t g5, zb_t ⟨g3, g5⟩]
              · rw [zb_f g5, zb_f (fun w => g5 w.2)]
            refine ⟨evOn X (lsE X 5 e) t (S 41 e + lyLn S e), tAdd 6 D (S 40 e) t (S 41 e + lyLn S e), ?_, evOn_y k3, hD.add, lyX_push hS hX he (by omega) rfl hj⟩
            have h6 := hD.1
            have e30 := c30_6 (c := S 40 e) (s := t) (e := S 41 e + lyLn S e) (h := zU h (evOn X (lsE X 5 e) t (S 41 e + lyLn S e))) (D := D) (by omega)
            rw [hln] at *
            rw [zc]
            clear hM hE hn hN h3 hI hC hS hX hD on i1 i4 i5 hb ev hvE hj
            generalize evOn X (lsE X 5 e) t (S 41 e + (S 33 (S 40 e).toNat + S 42 e)) = X2 at *
            generalize tAdd 6 D (S 40 e) t (S 41 e + (S 33 (S 40 e).toNat + S 42 e)) = D2 at *
            generalize lsE X 5 e = a at *
            simp (disch := first | omega | (simp (disch := omega) only [zwr_s, zwr_a, zwr_i, zn_put, zn_new, zn_fil, zn_chg, zV_n]; omega)) only [zentry, zs0, zs1, zs2, zs3, zg_lo, zg_st, zg_st2, zg_ald, zg_ast, zs_ia, zs_i0, zcs, zg_ii, zi_max, zi_min, zi_abi, zi_abf, zi_fb, zi_bf, lget, lst, lst2, lc2, Option.map_some, zso, if_true, if_false, zc1, and_true, true_and, and_self, List.length_nil, List.length_cons, Nat.zero_le, reduceIte, reduceCtorEq, false_and, and_false, Bool.false_eq_true, zca_some, zr0, zr100, Option.bind_some, zb_none, zb_some, zrc, or_true, true_or, eq_self, ne_eq, not_true_eq_false, not_false_eq_true, zrt_i, zrt_zb, zrt_b, zrt_c, zrt_l, zrt_f, zrt_r, zrt_n, zrt_v, zft_0, zft_1, zft_zb, zft_3, zft_4, zft_5, zft_7r, zft_7n, iI_t, zb_i, zb_0, zb_1, Nat.reduceAdd, Nat.reduceLeDiff, Nat.reduceEqDiff, Nat.reduceSub, Int.reduceNeg, iI_add, iI_sub, iI_mul, iI_neg, iI_n, zbz, zchar_id, zin, zwr_s, zwr_a, zwr_i, if_pos, if_neg, Int.toNat_natCast, Int.natCast_zero, Int.reduceToNat, z94, zc3, zc6, zuE k1 k3, zuC d1 d3, x0, x1, x2, x4, y2, g3, o1, o2, o3, e30, zt3, zt4]
        · have ev : lyEv S e t sp = (t + lyLn S e, (S 40 e, (e : Int), t, t + lyLn S e) :: sp, -1, 0) := by
            unfold lyEv
            rw [hst, if_neg g1, if_neg g2, if_neg g3]
          rw [ev]
          simp only []
          rw [up_n1]
          obtain ⟨o1, o2, o3⟩ := on X D t (t + lyLn S e) (fun q => by omega) (fun _ _ => rfl) (fun _ => rfl)
          refine ⟨evOn X (lsE X 5 e) t (t + lyLn S e), tAdd 6 D (S 40 e) t (t + lyLn S e), ?_, evOn_y k3, hD.add, lyX_push hS hX he (by omega) rfl (zb_f (by omega))⟩
          have h6 := hD.1
          have e30 := c30_6 (c := S 40 e) (s := t) (e := t + lyLn S e) (h := zU h (evOn X (lsE X 5 e) t (t + lyLn S e))) (D := D) (by omega)
          rw [hln] at *
          rw [zc]
          clear hM hE hn hN h3 hI hC hS hX hD on i1 i4 i5 hb ev hvE
          generalize evOn X (lsE X 5 e) t (t + (S 33 (S 40 e).toNat + S 42 e)) = X2 at *
          generalize tAdd 6 D (S 40 e) t (t + (S 33 (S 40 e).toNat + S 42 e)) = D2 at *
          generalize lsE X 5 e = a at *
          simp (disch := first | omega | (simp (disch := omega) only [zwr_s, zwr_a, zwr_i, zn_put, zn_new, zn_fil, zn_chg, zV_n]; omega)) only [zentry, zs0, zs1, zs2, zs3, zg_lo, zg_st, zg_st2, zg_ald, zg_ast, zs_ia, zs_i0, zcs, zg_ii, zi_max, zi_min, zi_abi, zi_abf, zi_fb, zi_bf, lget, lst, lst2, lc2, Option.map_some, zso, if_true, if_false, zc1, and_true, true_and, and_self, List.length_nil, List.length_cons, Nat.zero_le, reduceIte, reduceCtorEq, false_and, and_false, Bool.false_eq_true, zca_some, zr0, zr100, Option.bind_some, zb_none, zb_some, zrc, or_true, true_or, eq_self, ne_eq, not_true_eq_false, not_false_eq_true, zrt_i, zrt_zb, zrt_b, zrt_c, zrt_l, zrt_f, zrt_r, zrt_n, zrt_v, zft_0, zft_1, zft_zb, zft_3, zft_4, zft_5, zft_7r, zft_7n, iI_t, zb_i, zb_0, zb_1, Nat.reduceAdd, Nat.reduceLeDiff, Nat.reduceEqDiff, Nat.reduceSub, Int.reduceNeg, iI_add, iI_sub, iI_mul, iI_neg, iI_n, zbz, zchar_id, zin, zwr_s, zwr_a, zwr_i, if_pos, if_neg, Int.toNat_natCast, Int.natCast_zero, Int.reduceToNat, z94, zc3, zc6, zuE k1 k3, zuC d1 d3, x0, x1, x2, x4, y2, o1, o2, o3, e30, zt3, zt4]

/-! the class lays out the day -/
set_option maxRecDepth 20000 in
theorem c91_s {e : Nat} {st : zLS} {h : zH} {X D S : zD} {x3 : Option Value} (hB : lyB S) (hd : S 3 5 = S 32 16) (hC : clO h X S) (hS : evS h X S) (he : (e : Int) < S 32 15) (hI : lyI3 S e st) (hX : lyX S X e st.2.1 st.2.2.1 st.2.2.2.1 st.2.2.2.2) (hD : lyD S D st.2.1) :
    ∃ X' D' x3', zx 91 16 [some (.ref 3), some (.int (Int32.ofInt st.1)), some (.int (Int32.ofInt (e : Int))), x3] [] (zV (zU h X) D) = zx 91 16 [some (.ref 3), some (.int (Int32.ofInt (lyS S e st).1)), some (.int (Int32.ofInt ((e + 1 : Nat) : Int))), x3'] [] (zV (zU h X') D') ∧ evY h X X' ∧
      lyX S X' (e + 1) (lyS S e st).2.1 (lyS S e st).2.2.1 (lyS S e st).2.2.2.1 (lyS S e st).2.2.2.2 ∧ lyD S D' (lyS S e st).2.1 := by
  have hM := hB.1
  have hE := hB.2.1
  have h12 := hE.1.2
  have hvE : ∀ e : Nat, (e : Int) < S 32 15 → 0 ≤ S 40 e ∧ S 40 e < S 32 7 := fun e he => (hE.2.1 e he).1
  have h0 := hS.1.1
  obtain ⟨k1, k2, k3⟩ := hS.K he
  have e171 := c171 (D := D) (i := (e : Int)) (Or.inr (Or.inl rfl)) hS.1 (by omega)
  rw [Int.toNat_natCast] at e171
  have e175 := c175 (h := h) (X := X) (D := D) (a := 5) (by omega) h0.1
  rw [h0.2.1] at e175
  have e93 := c93 (ba := st.2.2.1) (D := D) hS hC hE hM ((hD.2.2.1 3 5 (by omega) (by omega) (by omega)).trans hd) he (fun n hn => ⟨((hX n (by omega)).2.1 hn).1, (hI.2 n).1⟩)
  have x0 := (hS.2.2 e he).1
  have yb : ∀ b, evY h X (zwr X (lsE X 5 e) 5 b) := fun b => (evY.rf (X := X)).wr (by omega) k3
  have hbar := fun b => lyX_bar (b := b) hS hX he
  have htb := hI.1.2.1
  have ht0 := spC_nn hI.1.1
  by_cases g : lyBar S st.2.2.1 e
  · rw [zb_t g] at e93
    have hs : lyS S e st = (st.1, st.2.1, upN st.2.2.1 e 1, upN st.2.2.2.1 e 0, upN st.2.2.2.2 e 0) := by unfold lyS; rw [if_pos g]
    rw [hs]
    have l2e := ((yb 1).es hC hvE hS).2 e he
    refine ⟨zwr X (lsE X 5 e) 5 1, D, some (.ref (lsE X 5 e)), ?_, yb 1, lyX_skip (hbar 1) hI.1.2.2.2.2 (fun _ => by rw [l2e, zwr_s]), hD⟩
    have ei : ((e + 1 : Nat) : Int) = (e : Int) + 1 := by omega
    conv => lhs; rw [z91_16]
    simp only []
    clear hB hM hE hC hS hI hX hD hbar yb hvE l2e hs g
    generalize lsE X 4 (S 40 e).toNat = c at *
    generalize lsE X 5 e = a at *
    generalize st.1 = t at *
    simp (disch := first | omega | (simp (disch := omega) only [zwr_s, zwr_a, zwr_i, zn_put, zn_new, zn_fil, zn_chg, zV_n]; omega)) only [zentry, zs0, zs1, zs2, zs3, zg_lo, zg_st, zg_st2, zg_ald, zg_ast, zs_ia, zs_i0, zcs, zg_ii, zi_max, zi_min, zi_abi, zi_abf, zi_fb, zi_bf, lget, lst, lst2, lc2, Option.map_some, zso, if_true, if_false, zc1, and_true, true_and, and_self, List.length_nil, List.length_cons, Nat.zero_le, reduceIte, reduceCtorEq, false_and, and_false, Bool.false_eq_true, zca_some, zr0, zr100, Option.bind_some, zb_none, zb_some, zrc, or_true, true_or, eq_self, ne_eq, not_true_eq_false, not_false_eq_true, zrt_i, zrt_zb, zrt_b, zrt_c, zrt_l, zrt_f, zrt_r, zrt_n, zrt_v, zft_0, zft_1, zft_zb, zft_3, zft_4, zft_5, zft_7r, zft_7n, iI_t, zb_i, zb_0, zb_1, Nat.reduceAdd, Nat.reduceLeDiff, Nat.reduceEqDiff, Nat.reduceSub, Int.reduceNeg, iI_add, iI_sub, iI_mul, iI_neg, iI_n, zbz, zchar_id, zin, zwr_s, zwr_a, zwr_i, if_pos, if_neg, Int.toNat_natCast, Int.natCast_zero, Int.reduceToNat, z91, zc3, zuL (a := 5) (Or.inr (Or.inl rfl)) h0.1, zuE k1 k3, x0, e171, e175, e93, ei, zt1, zt2, zt3]
  · rw [zb_f g] at e93
    have hs : lyS S e st = ((lyEv S e st.1 st.2.1).1, (lyEv S e st.1 st.2.1).2.1, upN st.2.2.1 e 0, upN (fun n => if (lyEv S e st.1 st.2.1).2.2.1 = n then 1 else st.2.2.2.1 n) e 0, upN st.2.2.2.2 e (lyEv S e st.1 st.2.1).2.2.2) := by unfold lyS; rw [if_neg g]
    rw [hs]
    obtain ⟨hS1, l2⟩ := (yb 0).es hC hvE hS
    have l2e := l2 e he
    obtain ⟨X', D', e94, q1, q2, q3⟩ := c94 hB ((yb 0).ev.cl hC).1 hS1 he (hbar 0) hD hI.1
    rw [l2e, zwr_s] at q3
    rw [l2e] at e94
    refine ⟨X', D', some (.ref (lsE X 5 e)), ?_, (yb 0).tr q1, q3, q2⟩
    have ei : ((e + 1 : Nat) : Int) = (e : Int) + 1 := by omega
    conv => lhs; rw [z91_16]
    simp only []
    clear hB hM hE hC hS hI hX hD hbar yb hvE l2e hs g hS1 l2 q1 q2 q3
    generalize lsE X 4 (S 40 e).toNat = c at *
    generalize lsE X 5 e = a at *
    generalize (lyEv S e st.1 st.2.1).1 = t2 at *
    generalize st.1 = t at *
    simp (disch := first | omega | (simp (disch := omega) only [zwr_s, zwr_a, zwr_i, zn_put, zn_new, zn_fil, zn_chg, zV_n]; omega)) only [zentry, zs0, zs1, zs2, zs3, zg_lo, zg_st, zg_st2, zg_ald, zg_ast, zs_ia, zs_i0, zcs, zg_ii, zi_max, zi_min, zi_abi, zi_abf, zi_fb, zi_bf, lget, lst, lst2, lc2, Option.map_some, zso, if_true, if_false, zc1, and_true, true_and, and_self, List.length_nil, List.length_cons, Nat.zero_le, reduceIte, reduceCtorEq, false_and, and_false, Bool.false_eq_true, zca_some, zr0, zr100, Option.bind_some, zb_none, zb_some, zrc, or_true, true_or, eq_self, ne_eq, not_true_eq_false, not_false_eq_true, zrt_i, zrt_zb, zrt_b, zrt_c, zrt_l, zrt_f, zrt_r, zrt_n, zrt_v, zft_0, zft_1, zft_zb, zft_3, zft_4, zft_5, zft_7r, zft_7n, iI_t, zb_i, zb_0, zb_1, Nat.reduceAdd, Nat.reduceLeDiff, Nat.reduceEqDiff, Nat.reduceSub, Int.reduceNeg, iI_add, iI_sub, iI_mul, iI_neg, iI_n, zbz, zchar_id, zin, zwr_s, zwr_a, zwr_i, if_pos, if_neg, Int.toNat_natCast, Int.natCast_zero, Int.reduceToNat, z91, zc3, zuL (a := 5) (Or.inr (Or.inl rfl)) h0.1, zuE k1 k3, x0, e171, e175, e93, e94, ei, zt1, zt2, zt3, zt4]
theorem c91_n {h : zH} {X D S : zD} {x3 : Option Value} (hB : lyB S) (hd : S 3 5 = S 32 16) (hC : clO h X S) (hS : evS h X S) (hX : lyX S X 0 [] (fun _ => 0) (fun _ => 0) (fun _ => 0)) (hD : lyD S D []) : ∀ e : Nat, (e : Int) ≤ S 32 15 →
    ∃ X' D' x3', zx 91 16 [some (.ref 3), some (.int (Int32.ofInt 0)), some (.int (Int32.ofInt 0)), x3] [] (zV (zU h X) D) = zx 91 16 [some (.ref 3), some (.int (Int32.ofInt (lyN S e).1)), some (.int (Int32.ofInt (e : Int))), x3'] [] (zV (zU h X') D') ∧ evY h X X' ∧
      lyX S X' e (lyN S e).2.1 (lyN S e).2.2.1 (lyN S e).2.2.2.1 (lyN S e).2.2.2.2 ∧ lyD S D' (lyN S e).2.1
  | 0, _ => ⟨X, D, x3, rfl, evY.rf, hX, hD⟩
  | e + 1, he => by
    obtain ⟨X1, D1, x1, e1, y1, X1h, D1h⟩ := c91_n (x3 := x3) hB hd hC hS hX hD e (by omega)
    have hvE : ∀ e : Nat, (e : Int) < S 32 15 → 0 ≤ S 40 e ∧ S 40 e < S 32 7 := fun e he => (hB.2.1.2.1 e he).1
    obtain ⟨X2, D2, x2, e2, y2, X2h, D2h⟩ := c91_s (x3 := x1) hB hd (y1.ev.cl hC).1 (y1.es hC hvE hS).1 (by omega) (lyN_p hB.1 hB.2.1 hB.2.2.1 e (by omega)) X1h D1h
    exact ⟨X2, D2, x2, e1.trans e2, y1.tr y2, X2h, D2h⟩
theorem lyCut_n {t0 t : Int} : ∀ {sp : zSp}, spC t0 sp → t0 ≤ t → lyCut t sp = sp ∧ lyCe t sp = -1
  | [], _, _ => ⟨rfl, rfl⟩
  | x :: r, ⟨h1, h2, h3⟩, ht => by
    unfold lyCut lyCe
    rw [if_neg (by omega), if_neg (by omega), if_neg (by omega), if_neg (by omega)]
    exact ⟨rfl, rfl⟩
set_option maxRecDepth 20000 in
theorem c91 {h : zH} {X D : zD} (hB : lyB D) (hd : D 3 5 = D 32 16) (hC : clO h X D) (hS : evS h X D) (hF : fiO D) (h6 : D 3 6 = 0) :
    ∃ X' D', zc 91 4 [.ref 3] (zV (zU h X) D) = some (.inl none, zV (zU h X') (zwr D' 3 6 1)) ∧ evY h X X' ∧ lyD D D' (lyF D).2.1 ∧ lyX D X' (D 32 15).toNat (lyF D).2.1 (lyF D).2.2.1 (lyF D).2.2.2.1 (lyF D).2.2.2.2 := by
  have hM := hB.1
  have hE := hB.2.1
  have h12 := hE.1
  have hN : (((D 32 15).toNat : Nat) : Int) = D 32 15 := by omega
  have hvE : ∀ e : Nat, (e : Int) < D 32 15 → 0 ≤ D 40 e ∧ D 40 e < D 32 7 := fun e he => (hE.2.1 e he).1
  have hy0 := itX_y hS (g := offR) (fun r i q => if_neg (by omega)) (D 32 15).toNat (by omega)
  obtain ⟨hS0, l20⟩ := hy0.es hC hvE hS
  have hC0 := (hy0.ev.cl hC).1
  have e92 := c92 (D := D) hS h12.2
  have hD0 : lyD D (zwr D 6 3 0) [] := ⟨by rw [zwr_s]; rfl, trivial, fun a i q1 q2 q3 => by rw [zwr_a (by omega)], hF.c fun a i q => zwr_a (by omega)⟩
  have hX0 : lyX D (itX offR X (D 32 15).toNat) 0 [] (fun _ => 0) (fun _ => 0) (fun _ => 0) := by
    intro n hn
    have ev := itX_e (g := offR) (X := X) (D 32 15).toNat (fun a b ha hb => hS.2.1 a b (by omega) (by omega)) n (by omega)
    rw [l20 n hn]
    have z7 : itX offR X (D 32 15).toNat (lsE X 5 n) 7 = 0 := by rw [ev]; rfl
    have z8 : itX offR X (D 32 15).toNat (lsE X 5 n) 8 = 0 := by rw [ev]; rfl
    have z9 : itX offR X (D 32 15).toNat (lsE X 5 n) 9 = 0 := by rw [ev]; rfl
    have z6 : itX offR X (D 32 15).toNat (lsE X 5 n) 6 = 0 := by rw [ev]; rfl
    refine ⟨⟨⟨by omega, by omega, by omega⟩, fun _ => by omega, fun x hx => nomatch hx⟩, fun q => by omega, fun _ => z6⟩
  obtain ⟨X1, D1, x1, e1, y1, hX1, hD1⟩ := c91_n (x3 := none) hB hd hC0 hS0 hX0 hD0 (D 32 15).toNat (by omega)
  have hI := (lyN_p hM hE hB.2.2.1 (D 32 15).toNat (by omega)).1
  obtain ⟨i1, i2, i3, i4, i5⟩ := id hI
  have t0 := spC_nn i1
  obtain ⟨hS1, -⟩ := y1.es hC0 hvE hS0
  have hC1 := (y1.ev.cl hC0).1
  have e97 := c97 (t := 3600) (D := D1) (sp := (lyN D (D 32 15).toNat).2.1) hS1 h12.2 (by omega) (fun n hn => by
    have := (hX1 n hn).1.1
    omega) hD1.1 (by omega) hD1.2.1 (lyI_B hE hM (by omega) hI)
  have hy2 := itX_y hS1 (g := cutR 3600) (fun r i q => if_neg (by omega)) (D 32 15).toNat (by omega)
  obtain ⟨hS2, -⟩ := hy2.es hC1 hvE hS1
  have hC2 := (hy2.ev.cl hC1).1
  have hD2 := hD1.cut (t := 3600)
  have hX2 := lyX_cut hS1 hX1 i1 i5 (t := 3600) (by omega)
  have e175a := c175 (h := h) (X := X1) (D := D1) (a := 5) (by omega) hS1.1.1.1
  rw [hS1.1.1.2.1] at e175a
  have h0 := hS.1.1
  rw [hN] at e1
  have start : zc 91 4 [.ref 3] (zV (zU h X) D) = zx 91 16 [some (.ref 3), some (.int (Int32.ofInt 0)), some (.int (Int32.ofInt 0)), none] [] (zV (zU h (itX offR X (D 32 15).toNat)) (zwr D 6 3 0)) := by
    rw [zc]
    clear hB hC hS hF hM hE hy0 hS0 hC0 hD0 hX0 e1 y1 hX1 hD1 hI i1 i3 i4 i5 hS1 hC1 e97 hy2 hS2 hC2 hD2 hX2 e175a hvE l20
    generalize itX offR X (D 32 15).toNat = X0 at *
    simp (disch := first | omega | (simp (disch := omega) only [zwr_s, zwr_a, zwr_i, zn_put, zn_new, zn_fil, zn_chg, zV_n]; omega)) only [zentry, zs0, zs1, zs2, zs3, zg_lo, zg_st, zg_st2, zg_ald, zg_ast, zs_ia, zs_i0, zcs, zg_ii, zi_max, zi_min, zi_abi, zi_abf, zi_fb, zi_bf, lget, lst, lst2, lc2, Option.map_some, zso, if_true, if_false, zc1, and_true, true_and, and_self, List.length_nil, List.length_cons, Nat.zero_le, reduceIte, reduceCtorEq, false_and, and_false, Bool.false_eq_true, zca_some, zr0, zr100, Option.bind_some, zb_none, zb_some, zrc, or_true, true_or, eq_self, ne_eq, not_true_eq_false, not_false_eq_true, zrt_i, zrt_zb, zrt_b, zrt_c, zrt_l, zrt_f, zrt_r, zrt_n, zrt_v, zft_0, zft_1, zft_zb, zft_3, zft_4, zft_5, zft_7r, zft_7n, iI_t, zb_i, zb_0, zb_1, Nat.reduceAdd, Nat.reduceLeDiff, Nat.reduceEqDiff, Nat.reduceSub, Int.reduceNeg, iI_add, iI_sub, iI_mul, iI_neg, iI_n, zbz, zchar_id, zin, zwr_s, zwr_a, zwr_i, if_pos, if_neg, Int.toNat_natCast, Int.natCast_zero, Int.reduceToNat, z91, zc3, h6, e92, zt1]
  rw [start, e1]
  by_cases g : (lyN D (D 32 15).toNat).1 < 3600
  · obtain ⟨n1, n2⟩ := lyCut_n (t := 3600) i1 (by omega)
    rw [n1] at hX2 hD2
    rw [n2, up_n1] at hX2
    have eF : lyF D = (3600, lyGap D (lyN D (D 32 15).toNat).1 3600 (lyN D (D 32 15).toNat).2.1, (lyN D (D 32 15).toNat).2.2) := by
      unfold lyF lyE
      rw [if_pos g]
    rw [eF]
    have e96 := c96 (p := (D 32 15).toNat) (D := tCut 6 3600 (lyN D (D 32 15).toNat).2.1 D1) hS2 hC2 hvE h12.2 (by omega) (fun n hn => by
      have := (hX2 n hn).1.1
      omega)
    rw [leX_ly hS2 hC2 hvE (fun n hn => (hX2 n hn).1) i1 i4 (D 32 15).toNat (by omega) i5, hN] at e96
    have lvb := lyLev_b hM (lyI_v hI)
    obtain ⟨D3, e95, hD3⟩ := c95' (h := zU h (itX (cutR 3600) X1 (D 32 15).toNat)) (f := (lyN D (D 32 15).toNat).1) (t := 3600) hM hE.2.2.2 hB.2.2.1 hB.2.2.2.1 hB.2.2.2.2 hD2 i4 (by omega) (by omega) (by omega)
    have e175b := c175 (h := h) (X := itX (cutR 3600) X1 (D 32 15).toNat) (D := tCut 6 3600 (lyN D (D 32 15).toNat).2.1 D1) (a := 5) (by omega) hS2.1.1.1
    rw [hS2.1.1.2.1] at e175b
    refine ⟨itX (cutR 3600) X1 (D 32 15).toNat, D3, ?_, (hy0.tr y1).tr hy2, hD3, lyX_gap hX2⟩
    rw [z91_16]
    clear hB hC hS hF hM hE hy0 hS0 hC0 hD0 hX0 e1 y1 hX1 hD1 hI i1 i3 i4 i5 hS1 hC1 hy2 hS2 hC2 hD2 hX2 hvE l20 start eF n1 n2 hD3
    generalize itX (cutR 3600) X1 (D 32 15).toNat = X2 at *
    generalize tCut 6 3600 (lyN D (D 32 15).toNat).2.1 D1 = D2 at *
    generalize lyLev D (lyN D (D 32 15).toNat).2.1 = lv at *
    generalize (lyN D (D 32 15).toNat).1 = t at *
    simp (disch := first | omega | (simp (disch := omega) only [zwr_s, zwr_a, zwr_i, zn_put, zn_new, zn_fil, zn_chg, zV_n]; omega)) only [zentry, zs0, zs1, zs2, zs3, zg_lo, zg_st, zg_st2, zg_ald, zg_ast, zs_ia, zs_i0, zcs, zg_ii, zi_max, zi_min, zi_abi, zi_abf, zi_fb, zi_bf, lget, lst, lst2, lc2, Option.map_some, zso, if_true, if_false, zc1, and_true, true_and, and_self, List.length_nil, List.length_cons, Nat.zero_le, reduceIte, reduceCtorEq, false_and, and_false, Bool.false_eq_true, zca_some, zr0, zr100, Option.bind_some, zb_none, zb_some, zrc, or_true, true_or, eq_self, ne_eq, not_true_eq_false, not_false_eq_true, zrt_i, zrt_zb, zrt_b, zrt_c, zrt_l, zrt_f, zrt_r, zrt_n, zrt_v, zft_0, zft_1, zft_zb, zft_3, zft_4, zft_5, zft_7r, zft_7n, iI_t, zb_i, zb_0, zb_1, Nat.reduceAdd, Nat.reduceLeDiff, Nat.reduceEqDiff, Nat.reduceSub, Int.reduceNeg, iI_add, iI_sub, iI_mul, iI_neg, iI_n, zbz, zchar_id, zin, zwr_s, zwr_a, zwr_i, if_pos, if_neg, Int.toNat_natCast, Int.natCast_zero, Int.reduceToNat, z91, zc3, zuL (a := 5) (Or.inr (Or.inl rfl)) h0.1, e175a, e175b, e97, e96, e95, zt1, zt2, zt4]
  · have eF : lyF D = ((lyN D (D 32 15).toNat).1, lyCut 3600 (lyN D (D 32 15).toNat).2.1, (lyN D (D 32 15).toNat).2.2.1, (fun n : Nat => if lyCe 3600 (lyN D (D 32 15).toNat).2.1 = n then 1 else (lyN D (D 32 15).toNat).2.2.2.1 n), (lyN D (D 32 15).toNat).2.2.2.2) := by
      unfold lyF lyE
      rw [if_neg g]
    rw [eF]
    refine ⟨itX (cutR 3600) X1 (D 32 15).toNat, tCut 6 3600 (lyN D (D 32 15).toNat).2.1 D1, ?_, (hy0.tr y1).tr hy2, hD2, hX2⟩
    rw [z91_16]
    clear hB hC hS hF hM hE hy0 hS0 hC0 hD0 hX0 e1 y1 hX1 hD1 hI i1 i3 i4 i5 hS1 hC1 hy2 hS2 hC2 hD2 hX2 hvE l20 start eF
    generalize itX (cutR 3600) X1 (D 32 15).toNat = X2 at *
    generalize tCut 6 3600 (lyN D (D 32 15).toNat).2.1 D1 = D2 at *
    generalize (lyN D (D 32 15).toNat).1 = t at *
    simp (disch := first | omega | (simp (disch := omega) only [zwr_s, zwr_a, zwr_i, zn_put, zn_new, zn_fil, zn_chg, zV_n]; omega)) only [zentry, zs0, zs1, zs2, zs3, zg_lo, zg_st, zg_st2, zg_ald, zg_ast, zs_ia, zs_i0, zcs, zg_ii, zi_max, zi_min, zi_abi, zi_abf, zi_fb, zi_bf, lget, lst, lst2, lc2, Option.map_some, zso, if_true, if_false, zc1, and_true, true_and, and_self, List.length_nil, List.length_cons, Nat.zero_le, reduceIte, reduceCtorEq, false_and, and_false, Bool.false_eq_true, zca_some, zr0, zr100, Option.bind_some, zb_none, zb_some, zrc, or_true, true_or, eq_self, ne_eq, not_true_eq_false, not_false_eq_true, zrt_i, zrt_zb, zrt_b, zrt_c, zrt_l, zrt_f, zrt_r, zrt_n, zrt_v, zft_0, zft_1, zft_zb, zft_3, zft_4, zft_5, zft_7r, zft_7n, iI_t, zb_i, zb_0, zb_1, Nat.reduceAdd, Nat.reduceLeDiff, Nat.reduceEqDiff, Nat.reduceSub, Int.reduceNeg, iI_add, iI_sub, iI_mul, iI_neg, iI_n, zbz, zchar_id, zin, zwr_s, zwr_a, zwr_i, if_pos, if_neg, Int.toNat_natCast, Int.natCast_zero, Int.reduceToNat, z91, zc3, zuL (a := 5) (Or.inr (Or.inl rfl)) h0.1, e175a, e97, zt1, zt2, zt4]
/-- nothing of a barred event is aired -/
theorem lyN_bar {S : zD} (hM : mCl S) (hE : mEvs S) (hn : FP.Core.fIsNaN (mLst S) = false) : ∀ e : Nat, (e : Int) ≤ S 32 15 → ∀ n : Nat, (lyN S e).2.2.1 n = 1 → evF n (lyN S e).2.1 = none
  | 0, _, n, h => by
    have : (0 : Int) = 1 := h
    omega
  | e + 1, he, n, h => by
    have ih := lyN_bar hM hE hn e (by omega) n
    obtain ⟨⟨i1, i2, i3, i4, i5⟩, -⟩ := lyN_p hM hE hn e (by omega)
    have hs : lyN S (e + 1) = lyS S e (lyN S e) := rfl
    rw [hs] at h ⊢
    generalize lyN S e = st at *
    by_cases g : lyBar S st.2.2.1 e
    · have hs : lyS S e st = (st.1, st.2.1, upN st.2.2.1 e 1, upN st.2.2.2.1 e 0, upN st.2.2.2.2 e 0) := by unfold lyS; rw [if_pos g]
      rw [hs] at h ⊢
      by_cases q : n = e
      · subst q
        exact evF_no i5 (Int.le_refl _)
      · exact ih (by simpa [upN, q] using h)
    · have hs : lyS S e st = ((lyEv S e st.1 st.2.1).1, (lyEv S e st.1 st.2.1).2.1, upN st.2.2.1 e 0, upN (fun n => if (lyEv S e st.1 st.2.1).2.2.1 = n then 1 else st.2.2.2.1 n) e 0, upN st.2.2.2.2 e (lyEv S e st.1 st.2.1).2.2.2) := by unfold lyS; rw [if_neg g]
      rw [hs] at h ⊢
      by_cases q : n = e
      · subst q
        simp [upN] at h
      · have ih := ih (by simpa [upN, q] using h)
        have pu : ∀ (c s en : Int) (r : zSp), evF n r = none → evF n ((c, (e : Int), s, en) :: r) = none := fun c s en r hr => by
          show (if (e : Int) = n then _ else evF n r) = none
          rw [if_neg (by omega)]
          exact hr
        show evF n (lyEv S e st.1 st.2.1).2.1 = none
        unfold lyEv
        split
        · exact pu _ _ _ _ (by rw [evF_gap]; exact ih)
        · split
          · exact pu _ _ _ _ (by rw [evF_cut i1 i5, ih]; rfl)
          · split
            · split
              · exact ih
              · exact pu _ _ _ _ ih
            · exact pu _ _ _ _ ih
theorem lyF_bar {S : zD} (hM : mCl S) (hE : mEvs S) (hn : FP.Core.fIsNaN (mLst S) = false) (n : Nat) (h : (lyF S).2.2.1 n = 1) : evF n (lyF S).2.1 = none := by
  have h15 := hE.1
  have L := lyN_bar hM hE hn (S 32 15).toNat (by omega) n
  obtain ⟨⟨i1, i2, i3, i4, i5⟩, -⟩ := lyN_p hM hE hn (S 32 15).toNat (by omega)
  unfold lyF lyE at h ⊢
  split at h
  · rename_i g
    rw [if_pos g]
    show evF n (lyGap _ _ _ _) = none
    rw [evF_gap]
    exact L h
  · rename_i g
    rw [if_neg g]
    show evF n (lyCut _ _) = none
    rw [evF_cut i1 i5, L h]
    rfl

/-! .. what their sums need at least -/
theorem zby0 : ((List.range 128).all fun x => decide (zbyte (Int32.ofInt (x : Int)) = Int32.ofInt (x : Int))) = true := by decide +kernel
theorem zby {x : Int} (h : 0 ≤ x ∧ x ≤ 127) : zbyte (Int32.ofInt x) = Int32.ofInt x := by
  have := of_decide_eq_true (List.all_eq_true.mp zby0 x.toNat (List.mem_range.mpr (by omega)))
  rwa [show ((x.toNat : Nat) : Int) = x by omega] at this
def lnF (D : zD) : Nat → Nat → List Int
  | _, 0 => []
  | i, n + 1 => D 16 i :: lnF D (i + 1) n
theorem lnF_c {D D' : zD} (h : ∀ i, D' 16 i = D 16 i) : ∀ (n i : Nat), lnF D' i n = lnF D i n
  | 0, _ => rfl
  | n + 1, i => by rw [lnF, lnF, h i, lnF_c h n]
/-- the cells of row r below j hold what Ls needs at least -/
def fiR (D : zD) (r : Nat) (Ls : List Int) (j : Nat) : zD := fun a i => if a = 19 + r ∧ i < j then fewR Ls i else D a i
theorem fiR_0 {D : zD} {r : Nat} {Ls : List Int} : fiR D r Ls 0 = D := by
  funext a i
  unfold fiR
  rw [if_neg (by omega)]
theorem fiR_o {D : zD} {r j a i : Nat} {Ls : List Int} (h : a ≠ 19 + r) : fiR D r Ls j a i = D a i := by
  unfold fiR
  rw [if_neg (by omega)]
theorem fiR_s {D : zD} {r j : Nat} {Ls : List Int} : zwr (fiR D r Ls j) (19 + r) j (fewR Ls j) = fiR D r Ls (j + 1) := by
  funext a i
  rw [zwr_e]
  unfold fiR
  by_cases g : a = 19 + r ∧ i = j
  · rw [if_pos g, if_pos (by omega), g.2]
  · rw [if_neg g]
    by_cases g2 : a = 19 + r ∧ i < j
    · rw [if_pos g2, if_pos (by omega)]
    · rw [if_neg g2, if_neg (by omega)]
def fiN (D : zD) (r j : Nat) : zD := fun a i => if a = 19 + r ∧ i < j then 9 else D a i
theorem fiN_0 {D : zD} {r : Nat} : fiN D r 0 = D := by
  funext a i
  unfold fiN
  rw [if_neg (by omega)]
theorem fiN_s {D : zD} {r j : Nat} : zwr (fiN D r j) (19 + r) j 9 = fiN D r (j + 1) := by
  funext a i
  rw [zwr_e]
  unfold fiN
  by_cases g : a = 19 + r ∧ i = j
  · rw [if_pos g, if_pos (by omega)]
  · rw [if_neg g]
    by_cases g2 : a = 19 + r ∧ i < j
    · rw [if_pos g2, if_pos (by omega)]
    · rw [if_neg g2, if_neg (by omega)]
theorem fiN_z {D : zD} {r : Nat} : zwr (fiN D r 3601) (19 + r) 0 0 = fiR D r [] 3601 := by
  funext a i
  rw [zwr_e]
  unfold fiN fiR fewR
  by_cases g : a = 19 + r ∧ i = 0
  · rw [if_pos g, if_pos (by omega), if_pos (by omega)]
  · rw [if_neg g]
    by_cases g2 : a = 19 + r ∧ i < 3601
    · rw [if_pos g2, if_pos g2, if_neg (by omega)]
    · rw [if_neg g2, if_neg g2]
theorem zloop' {k pc : Nat} (ls : Nat → Option Value → zL) (h : Nat → zH) (n : Nat) (hs : ∀ i, i < n → ∀ x, ∃ y, zx k pc (ls i x) [] (h i) = zx k pc (ls (i + 1) y) [] (h (i + 1))) : ∀ m, m ≤ n → ∀ x, ∃ y, zx k pc (ls 0 x) [] (h 0) = zx k pc (ls m y) [] (h m)
  | 0, _, x => ⟨x, rfl⟩
  | m + 1, hm, x => by
    obtain ⟨y, e⟩ := zloop' ls h n hs m (by omega) x
    obtain ⟨z, e2⟩ := hs m (by omega) y
    exact ⟨z, e.trans e2⟩
set_option maxRecDepth 20000 in
theorem c181 {r : Nat} {h : zH} {D : zD} (hr : r < 9) : zc 181 4 [.ref (19 + r), .int (Int32.ofInt 9)] (zV h D) = some (.inl none, zV h (fiN D r 3601)) := by
  have b9 := zby (x := 9) (by omega)
  have e3 : Int32.ofNat 3601 = Int32.ofInt 3601 := rfl
  have hloop := zloop (k := 181) (pc := 5) (fun i => [some (.ref (19 + r)), some (.int (Int32.ofInt 9)), some (.int (Int32.ofInt (i : Int))), some (.int (Int32.ofInt 3601))]) (fun i => zV h (fiN D r i)) 3601 (fun i hi => by
    have ei : ((i + 1 : Nat) : Int) = (i : Int) + 1 := by omega
    have en : ((i : Int)).toNat = i := by omega
    have s := fiN_s (D := D) (r := r) (j := i)
    conv => lhs; rw [z181_5]
    rw [← s]
    clear s
    generalize fiN D r i = D1 at *
    simp (disch := first | omega | (simp (disch := omega) only [zwr_s, zwr_a, zwr_i, zn_put, zn_new, zn_fil, zn_chg, zV_n]; omega)) only [zentry, zs0, zs1, zs2, zs3, zg_lo, zg_st, zg_st2, zg_ald, zg_ast, zs_ia, zs_i0, zg_ii, zi_max, zi_min, zi_abi, zi_abf, zi_fb, zi_bf, lget, lst, lst2, lc2, Option.map_some, zso, if_true, if_false, zc1, and_true, true_and, and_self, List.length_nil, List.length_cons, Nat.zero_le, reduceIte, reduceCtorEq, false_and, and_false, Bool.false_eq_true, zca_some, zr0, zr100, Option.bind_some, zb_none, zb_some, zrc, or_true, true_or, eq_self, ne_eq, not_true_eq_false, not_false_eq_true, zrt_i, zrt_zb, zrt_b, zrt_c, zrt_l, zrt_f, zrt_r, zrt_n, zrt_v, zft_0, zft_1, zft_zb, zft_3, zft_4, zft_5, zft_7r, zft_7n, iI_t, zb_i, zb_0, zb_1, Nat.reduceAdd, Nat.reduceLeDiff, Nat.reduceEqDiff, Nat.reduceSub, Int.reduceNeg, iI_add, iI_sub, iI_mul, iI_neg, zbz, zchar_id, zin, zwr_s, zwr_a, zwr_i, if_pos, if_neg, Int.toNat_natCast, Int.natCast_zero, Int.reduceToNat, z181, b9, ei, en, zcF_k hr, zcF_l hr, zcF_p hr]) 3601 (Nat.le_refl _)
  have st : zc 181 4 [.ref (19 + r), .int (Int32.ofInt 9)] (zV h D) = zx 181 5 [some (.ref (19 + r)), some (.int (Int32.ofInt 9)), some (.int (Int32.ofInt ((0 : Nat) : Int))), some (.int (Int32.ofInt 3601))] [] (zV h (fiN D r 0)) := by
    rw [zc, fiN_0]
    clear hloop
    simp (disch := first | omega | (simp (disch := omega) only [zwr_s, zwr_a, zwr_i, zn_put, zn_new, zn_fil, zn_chg, zV_n]; omega)) only [zentry, zs0, zs1, zs2, zs3, zg_lo, zg_st, zg_st2, zg_ald, zg_ast, zs_ia, zs_i0, zg_ii, zi_max, zi_min, zi_abi, zi_abf, zi_fb, zi_bf, lget, lst, lst2, lc2, Option.map_some, zso, if_true, if_false, zc1, and_true, true_and, and_self, List.length_nil, List.length_cons, Nat.zero_le, reduceIte, reduceCtorEq, false_and, and_false, Bool.false_eq_true, zca_some, zr0, zr100, Option.bind_some, zb_none, zb_some, zrc, or_true, true_or, eq_self, ne_eq, not_true_eq_false, not_false_eq_true, zrt_i, zrt_zb, zrt_b, zrt_c, zrt_l, zrt_f, zrt_r, zrt_n, zrt_v, zft_0, zft_1, zft_zb, zft_3, zft_4, zft_5, zft_7r, zft_7n, iI_t, zb_i, zb_0, zb_1, Nat.reduceAdd, Nat.reduceLeDiff, Nat.reduceEqDiff, Nat.reduceSub, Int.reduceNeg, iI_add, iI_sub, iI_mul, iI_neg, zbz, zchar_id, zin, zwr_s, zwr_a, zwr_i, if_pos, if_neg, Int.toNat_natCast, Int.natCast_zero, Int.reduceToNat, z181, zcF_k hr, zcF_l hr, e3, Int.natCast_zero]
  rw [st]
  refine Eq.trans hloop ?_
  rw [z181_5]
  have e4 : ((3601 : Nat) : Int) = 3601 := rfl
  generalize fiN D r 3601 = D1
  clear hloop st
  simp (disch := first | omega | (simp (disch := omega) only [zwr_s, zwr_a, zwr_i, zn_put, zn_new, zn_fil, zn_chg, zV_n]; omega)) only [zentry, zs0, zs1, zs2, zs3, zg_lo, zg_st, zg_st2, zg_ald, zg_ast, zs_ia, zs_i0, zg_ii, zi_max, zi_min, zi_abi, zi_abf, zi_fb, zi_bf, lget, lst, lst2, lc2, Option.map_some, zso, if_true, if_false, zc1, and_true, true_and, and_self, List.length_nil, List.length_cons, Nat.zero_le, reduceIte, reduceCtorEq, false_and, and_false, Bool.false_eq_true, zca_some, zr0, zr100, Option.bind_some, zb_none, zb_some, zrc, or_true, true_or, eq_self, ne_eq, not_true_eq_false, not_false_eq_true, zrt_i, zrt_zb, zrt_b, zrt_c, zrt_l, zrt_f, zrt_r, zrt_n, zrt_v, zft_0, zft_1, zft_zb, zft_3, zft_4, zft_5, zft_7r, zft_7n, iI_t, zb_i, zb_0, zb_1, Nat.reduceAdd, Nat.reduceLeDiff, Nat.reduceEqDiff, Nat.reduceSub, Int.reduceNeg, iI_add, iI_sub, iI_mul, iI_neg, zbz, zchar_id, zin, zwr_s, zwr_a, zwr_i, if_pos, if_neg, Int.toNat_natCast, Int.natCast_zero, Int.reduceToNat, z181, e4]
set_option maxRecDepth 20000 in
/-- one piece more -/
theorem c17 {r : Nat} {l : Int} {Ls : List Int} {h : zH} {D : zD} (hr : r < 8) (hl : 1 ≤ l ∧ l ≤ 900) (hR : ∀ s : Nat, s ≤ 3600 → D (19 + (r + 1)) s = fewR Ls s) : zc 17 5 [.ref 14, .int (Int32.ofInt (r : Int)), .int (Int32.ofInt l)] (zV h D) = some (.inl none, zV h (fiR D r (l :: Ls) 3601)) := by
  have er : ((r : Int) + 1).toNat = r + 1 := by omega
  have rr : zm (zV h D) 18 r = .ref (19 + r) := zc18r (by omega)
  have hloop := zloop' (k := 17) (pc := 17) (fun i (x4 : Option Value) => [some (.ref 14), some (.int (Int32.ofInt (r : Int))), some (.int (Int32.ofInt l)), some (.int (Int32.ofInt (i : Int))), x4]) (fun i => zV h (fiR D r (l :: Ls) i)) 3601 (fun i hi x4 => by
    have ei : ((i + 1 : Nat) : Int) = (i : Int) + 1 := by omega
    have en : ((i : Int)).toNat = i := by omega
    have s := fiR_s (D := D) (r := r) (j := i) (Ls := l :: Ls)
    have r1 : fiR D r (l :: Ls) i (19 + (r + 1)) i = fewR Ls i := by rw [fiR_o (by omega)]; exact hR i (by omega)
    have b1 := fewR_r Ls i
    have bb1 := zby (x := fewR Ls i) (by omega)
    rw [← s]
    have r18 : ∀ (D : zD), zm (zV h D) 18 r = .ref (19 + r) := fun D => zc18r (by omega)
    have r18' : ∀ (D : zD), zm (zV h D) 18 (r + 1) = .ref (19 + (r + 1)) := fun D => zc18r (by omega)
    by_cases g : l ≤ i
    · have r2 : fiR D r (l :: Ls) i (19 + (r + 1)) ((i : Int) - l).toNat = fewR Ls ((i : Int) - l) := by rw [fiR_o (by omega), hR _ (by omega), show ((((i : Int) - l).toNat : Nat) : Int) = (i : Int) - l by omega]
      have b2 := fewR_r Ls ((i : Int) - l)
      have hf : fewR (l :: Ls) i = if fewR Ls ((i : Int) - l) + 1 < fewR Ls i then fewR Ls ((i : Int) - l) + 1 else fewR Ls i := by
        rw [fewR]
        by_cases g2 : fewR Ls ((i : Int) - l) + 1 < fewR Ls i
        · rw [if_pos ⟨g, g2⟩, if_pos g2]
        · rw [if_neg (fun q => g2 q.2), if_neg g2]
      rw [hf]
      clear hf s hR rr
      generalize fewR Ls ((i : Int) - l) = f2 at *
      generalize fewR Ls i = f1 at *
      generalize fiR D r (l :: Ls) i = D1 at *
      by_cases g2 : f2 + 1 < f1
      · have bb2 := zby (x := f2 + 1) (by omega)
        rw [if_pos g2]
        refine ⟨some (.int (Int32.ofInt (f2 + 1))), ?_⟩
        conv => lhs; rw [z17_17]
        simp (disch := first | omega | (simp (disch := omega) only [zwr_s, zwr_a, zwr_i, zn_put, zn_new, zn_fil, zn_chg, zV_n]; omega)) only [zentry, zs0, zs1, zs2, zs3, zg_lo, zg_st, zg_st2, zg_ald, zg_ast, zs_ia, zs_i0, zg_ii, zi_max, zi_min, zi_abi, zi_abf, zi_fb, zi_bf, lget, lst, lst2, lc2, Option.map_some, zso, if_true, if_false, zc1, and_true, true_and, and_self, List.length_nil, List.length_cons, Nat.zero_le, reduceIte, reduceCtorEq, false_and, and_false, Bool.false_eq_true, zca_some, zr0, zr100, Option.bind_some, zb_none, zb_some, zrc, or_true, true_or, eq_self, ne_eq, not_true_eq_false, not_false_eq_true, zrt_i, zrt_zb, zrt_b, zrt_c, zrt_l, zrt_f, zrt_r, zrt_n, zrt_v, zft_0, zft_1, zft_zb, zft_3, zft_4, zft_5, zft_7r, zft_7n, iI_t, zb_i, zb_0, zb_1, Nat.reduceAdd, Nat.reduceLeDiff, Nat.reduceEqDiff, Nat.reduceSub, Int.reduceNeg, iI_add, iI_sub, iI_mul, iI_neg, zbz, zchar_id, zin, zwr_s, zwr_a, zwr_i, if_pos, if_neg, Int.toNat_natCast, Int.natCast_zero, Int.reduceToNat, z17, bb2, ei, en, er, r18, r18', r1, r2, zc14, zc18, zcF_k (show r < 9 by omega), zcF_l (show r < 9 by omega), zcF_p (show r < 9 by omega), zcF_k (show r + 1 < 9 by omega), zcF_l (show r + 1 < 9 by omega), zcF_m (show r + 1 < 9 by omega)]
      · rw [if_neg g2]
        refine ⟨some (.int (Int32.ofInt f1)), ?_⟩
        conv => lhs; rw [z17_17]
        simp (disch := first | omega | (simp (disch := omega) only [zwr_s, zwr_a, zwr_i, zn_put, zn_new, zn_fil, zn_chg, zV_n]; omega)) only [zentry, zs0, zs1, zs2, zs3, zg_lo, zg_st, zg_st2, zg_ald, zg_ast, zs_ia, zs_i0, zg_ii, zi_max, zi_min, zi_abi, zi_abf, zi_fb, zi_bf, lget, lst, lst2, lc2, Option.map_some, zso, if_true, if_false, zc1, and_true, true_and, and_self, List.length_nil, List.length_cons, Nat.zero_le, reduceIte, reduceCtorEq, false_and, and_false, Bool.false_eq_true, zca_some, zr0, zr100, Option.bind_some, zb_none, zb_some, zrc, or_true, true_or, eq_self, ne_eq, not_true_eq_false, not_false_eq_true, zrt_i, zrt_zb, zrt_b, zrt_c, zrt_l, zrt_f, zrt_r, zrt_n, zrt_v, zft_0, zft_1, zft_zb, zft_3, zft_4, zft_5, zft_7r, zft_7n, iI_t, zb_i, zb_0, zb_1, Nat.reduceAdd, Nat.reduceLeDiff, Nat.reduceEqDiff, Nat.reduceSub, Int.reduceNeg, iI_add, iI_sub, iI_mul, iI_neg, zbz, zchar_id, zin, zwr_s, zwr_a, zwr_i, if_pos, if_neg, Int.toNat_natCast, Int.natCast_zero, Int.reduceToNat, z17, bb1, ei, en, er, r18, r18', r1, r2, zc14, zc18, zcF_k (show r < 9 by omega), zcF_l (show r < 9 by omega), zcF_p (show r < 9 by omega), zcF_k (show r + 1 < 9 by omega), zcF_l (show r + 1 < 9 by omega), zcF_m (show r + 1 < 9 by omega)]
    · have hf : fewR (l :: Ls) i = fewR Ls i := by rw [fewR, if_neg (fun q => g q.1)]
      rw [hf]
      clear hf s hR rr
      generalize fewR Ls i = f1 at *
      generalize fiR D r (l :: Ls) i = D1 at *
      refine ⟨some (.int (Int32.ofInt f1)), ?_⟩
      conv => lhs; rw [z17_17]
      simp (disch := first | omega | (simp (disch := omega) only [zwr_s, zwr_a, zwr_i, zn_put, zn_new, zn_fil, zn_chg, zV_n]; omega)) only [zentry, zs0, zs1, zs2, zs3, zg_lo, zg_st, zg_st2, zg_ald, zg_ast, zs_ia, zs_i0, zg_ii, zi_max, zi_min, zi_abi, zi_abf, zi_fb, zi_bf, lget, lst, lst2, lc2, Option.map_some, zso, if_true, if_false, zc1, and_true, true_and, and_self, List.length_nil, List.length_cons, Nat.zero_le, reduceIte, reduceCtorEq, false_and, and_false, Bool.false_eq_true, zca_some, zr0, zr100, Option.bind_some, zb_none, zb_some, zrc, or_true, true_or, eq_self, ne_eq, not_true_eq_false, not_false_eq_true, zrt_i, zrt_zb, zrt_b, zrt_c, zrt_l, zrt_f, zrt_r, zrt_n, zrt_v, zft_0, zft_1, zft_zb, zft_3, zft_4, zft_5, zft_7r, zft_7n, iI_t, zb_i, zb_0, zb_1, Nat.reduceAdd, Nat.reduceLeDiff, Nat.reduceEqDiff, Nat.reduceSub, Int.reduceNeg, iI_add, iI_sub, iI_mul, iI_neg, zbz, zchar_id, zin, zwr_s, zwr_a, zwr_i, if_pos, if_neg, Int.toNat_natCast, Int.natCast_zero, Int.reduceToNat, z17, bb1, ei, en, er, r18, r18', r1, zc14, zc18, zcF_k (show r < 9 by omega), zcF_l (show r < 9 by omega), zcF_p (show r < 9 by omega), zcF_k (show r + 1 < 9 by omega), zcF_l (show r + 1 < 9 by omega), zcF_m (show r + 1 < 9 by omega)]) 3601 (Nat.le_refl _)
  have st : zc 17 5 [.ref 14, .int (Int32.ofInt (r : Int)), .int (Int32.ofInt l)] (zV h D) = zx 17 17 [some (.ref 14), some (.int (Int32.ofInt (r : Int))), some (.int (Int32.ofInt l)), some (.int (Int32.ofInt ((0 : Nat) : Int))), none] [] (zV h (fiR D r (l :: Ls) 0)) := by
    rw [zc, fiR_0]
    clear hloop rr hR
    simp (disch := first | omega | (simp (disch := omega) only [zwr_s, zwr_a, zwr_i, zn_put, zn_new, zn_fil, zn_chg, zV_n]; omega)) only [zentry, zs0, zs1, zs2, zs3, zg_lo, zg_st, zg_st2, zg_ald, zg_ast, zs_ia, zs_i0, zg_ii, zi_max, zi_min, zi_abi, zi_abf, zi_fb, zi_bf, lget, lst, lst2, lc2, Option.map_some, zso, if_true, if_false, zc1, and_true, true_and, and_self, List.length_nil, List.length_cons, Nat.zero_le, reduceIte, reduceCtorEq, false_and, and_false, Bool.false_eq_true, zca_some, zr0, zr100, Option.bind_some, zb_none, zb_some, zrc, or_true, true_or, eq_self, ne_eq, not_true_eq_false, not_false_eq_true, zrt_i, zrt_zb, zrt_b, zrt_c, zrt_l, zrt_f, zrt_r, zrt_n, zrt_v, zft_0, zft_1, zft_zb, zft_3, zft_4, zft_5, zft_7r, zft_7n, iI_t, zb_i, zb_0, zb_1, Nat.reduceAdd, Nat.reduceLeDiff, Nat.reduceEqDiff, Nat.reduceSub, Int.reduceNeg, iI_add, iI_sub, iI_mul, iI_neg, zbz, zchar_id, zin, zwr_s, zwr_a, zwr_i, if_pos, if_neg, Int.toNat_natCast, Int.natCast_zero, Int.reduceToNat, z17, Int.natCast_zero]
  obtain ⟨x4, hl2⟩ := hloop none
  rw [st]
  refine Eq.trans hl2 ?_
  rw [z17_17]
  have e4 : ((3601 : Nat) : Int) = 3601 := rfl
  generalize fiR D r (l :: Ls) 3601 = D1
  clear hloop hl2 st rr hR
  simp (disch := first | omega | (simp (disch := omega) only [zwr_s, zwr_a, zwr_i, zn_put, zn_new, zn_fil, zn_chg, zV_n]; omega)) only [zentry, zs0, zs1, zs2, zs3, zg_lo, zg_st, zg_st2, zg_ald, zg_ast, zs_ia, zs_i0, zg_ii, zi_max, zi_min, zi_abi, zi_abf, zi_fb, zi_bf, lget, lst, lst2, lc2, Option.map_some, zso, if_true, if_false, zc1, and_true, true_and, and_self, List.length_nil, List.length_cons, Nat.zero_le, reduceIte, reduceCtorEq, false_and, and_false, Bool.false_eq_true, zca_some, zr0, zr100, Option.bind_some, zb_none, zb_some, zrc, or_true, true_or, eq_self, ne_eq, not_true_eq_false, not_false_eq_true, zrt_i, zrt_zb, zrt_b, zrt_c, zrt_l, zrt_f, zrt_r, zrt_n, zrt_v, zft_0, zft_1, zft_zb, zft_3, zft_4, zft_5, zft_7r, zft_7n, iI_t, zb_i, zb_0, zb_1, Nat.reduceAdd, Nat.reduceLeDiff, Nat.reduceEqDiff, Nat.reduceSub, Int.reduceNeg, iI_add, iI_sub, iI_mul, iI_neg, zbz, zchar_id, zin, zwr_s, zwr_a, zwr_i, if_pos, if_neg, Int.toNat_natCast, Int.natCast_zero, Int.reduceToNat, z17, e4]

/-! .. a gap is filled -/
/-- the filler has today's pieces; its table is right where it says so -/
def fiO (D : zD) : Prop := fiB D ∧ psF D 0 (D 14 3).toNat = pcs (clsD D) ∧ (D 14 5 = 0 ∨ D 14 5 = 1) ∧ (D 14 5 = 1 → fiT D)
/-- a choice as the class writes it -/
noncomputable def mkB (D : zD) (gap lev : Int) : Nat := maskK 0 (selC (clsD D) (bestM D gap lev))
theorem selC_0 : ∀ (cs : zCL) (x : Bool), x ∈ selC cs 0 → x = false
  | [], x, h => by cases h
  | q :: r, x, h => by
    have e : (0 : Nat) / 2 = 0 := rfl
    rcases Bool.eq_false_or_eq_true q.1 with hq | hq
    · rw [selC_t hq, e] at h
      rcases List.mem_cons.mp h with rfl | h
      · rfl
      · exact selC_0 r x h
    · rw [selC_f hq, e] at h
      exact selC_0 r x h
/-- only what the filler works with differs -/
def fiQ (D D' : zD) : Prop := ∀ a i, a < 19 ∨ 32 ≤ a → a ≠ 14 ∨ (i ≠ 10 ∧ i ≠ 5) → D' a i = D a i
theorem fiQ.tr {D D1 D2 : zD} (h : fiQ D D1) (h' : fiQ D1 D2) : fiQ D D2 := fun a i q1 q2 => (h' a i q1 q2).trans (h a i q1 q2)
theorem clsF_c {D D' : zD} (h : ∀ a i, 32 ≤ a → D' a i = D a i) : ∀ (n c : Nat), clsF D' c n = clsF D c n
  | 0, _ => rfl
  | n + 1, c => by
    rw [clsF, clsF, clsF_c h n]
    unfold zflag
    rw [h 38 c (by omega), h 36 c (by omega), h 37 c (by omega), h 32 16 (by omega), h 33 c (by omega), h 34 c (by omega)]
theorem clsD_c {D D' : zD} (h : ∀ a i, 32 ≤ a → D' a i = D a i) : clsD D' = clsD D := by
  unfold clsD
  rw [h 32 7 (by omega), clsF_c h]
set_option maxRecDepth 20000 in
theorem c15 {gap lev : Int} {h : zH} {D : zD} (hC : mCl D) (h8 : (pcs (clsD D)).length ≤ 8) (hnl : FP.Core.fIsNaN (mLst D) = false) (hF : fiO D) (hg : 1 ≤ gap ∧ gap ≤ 3600) (hl : -60 ≤ lev ∧ lev ≤ 0) :
    ∃ D', zc 15 7 [.ref 14, .int (Int32.ofInt gap), .int (Int32.ofInt lev)] (zV h D) = some (.inl (some (.int (Int32.ofInt (mkB D gap lev : Nat)))), zV h D') ∧ fiQ D D' ∧ fiO D' ∧ (mkB D gap lev = 0 ↔ bestM D gap lev = 0) := by
  obtain ⟨hB, hP, h5, hT⟩ := hF
  have hn := hB.1
  have hp1 : ∀ q ∈ clsD D, 1 ≤ q.2.1 := fun q hq => by
    obtain ⟨i, i1, i2, rfl⟩ := clsF_mem 0 _ q hq
    exact (hC.2.2 i (by omega)).1.1
  -- the table
  obtain ⟨D1, hD1, hT1, hQ1, h51⟩ : ∃ D1, zx 15 14 [some (.ref 14), some (.int (Int32.ofInt gap)), some (.int (Int32.ofInt lev)), none, none, none, none] [] (zV h D) = zx 15 25 [some (.ref 14), some (.int (Int32.ofInt gap)), some (.int (Int32.ofInt lev)), none, none, none, none] [] (zV h D1) ∧ fiT D1 ∧ fiQ D D1 ∧ D1 14 5 = 1 := by
    rcases h5 with h5 | h5
    · have e16 := c16 (h := h) hB
      refine ⟨zwr (fiA D (D 14 3).toNat 0) 14 5 1, ?_, fiT_of, fun a i q1 q2 => ?_, zwr_s⟩
      · generalize zwr (fiA D (D 14 3).toNat 0) 14 5 1 = D1 at *
        clear hB hP hT hp1 hC hnl
        simp (disch := first | omega | (simp (disch := omega) only [zwr_s, zwr_a, zwr_i, zn_put, zn_new, zn_fil, zn_chg, zV_n]; omega)) only [zentry, zs0, zs1, zs2, zs3, zg_lo, zg_st, zg_st2, zg_ald, zg_ast, zs_ia, zs_i0, zcs, zg_ii, zi_max, zi_min, zi_abi, zi_abf, zi_fb, zi_bf, lget, lst, lst2, lc2, Option.map_some, zso, if_true, if_false, zc1, and_true, true_and, and_self, List.length_nil, List.length_cons, Nat.zero_le, reduceIte, reduceCtorEq, false_and, and_false, Bool.false_eq_true, zca_some, zr0, zr100, Option.bind_some, zb_none, zb_some, zrc, or_true, true_or, eq_self, ne_eq, not_true_eq_false, not_false_eq_true, zrt_i, zrt_zb, zrt_b, zrt_c, zrt_l, zrt_f, zrt_r, zrt_n, zrt_v, zft_0, zft_1, zft_zb, zft_3, zft_4, zft_5, zft_7r, zft_7n, iI_t, zb_i, zb_0, zb_1, Nat.reduceAdd, Nat.reduceLeDiff, Nat.reduceEqDiff, Nat.reduceSub, Int.reduceNeg, iI_add, iI_sub, iI_mul, iI_neg, iI_n, zbz, zchar_id, zin, zwr_s, zwr_a, zwr_i, if_pos, if_neg, Int.toNat_natCast, Int.natCast_zero, Int.reduceToNat, z15, e16, h5, zt1, zc14]
      · rw [zwr_e, if_neg (by omega), fiA_o (by omega)]
    · refine ⟨D, ?_, hT h5, fun _ _ _ _ => rfl, h5⟩
      clear hB hP hT hp1 hC hnl
      simp (disch := first | omega | (simp (disch := omega) only [zwr_s, zwr_a, zwr_i, zn_put, zn_new, zn_fil, zn_chg, zV_n]; omega)) only [zentry, zs0, zs1, zs2, zs3, zg_lo, zg_st, zg_st2, zg_ald, zg_ast, zs_ia, zs_i0, zcs, zg_ii, zi_max, zi_min, zi_abi, zi_abf, zi_fb, zi_bf, lget, lst, lst2, lc2, Option.map_some, zso, if_true, if_false, zc1, and_true, true_and, and_self, List.length_nil, List.length_cons, Nat.zero_le, reduceIte, reduceCtorEq, false_and, and_false, Bool.false_eq_true, zca_some, zr0, zr100, Option.bind_some, zb_none, zb_some, zrc, or_true, true_or, eq_self, ne_eq, not_true_eq_false, not_false_eq_true, zrt_i, zrt_zb, zrt_b, zrt_c, zrt_l, zrt_f, zrt_r, zrt_n, zrt_v, zft_0, zft_1, zft_zb, zft_3, zft_4, zft_5, zft_7r, zft_7n, iI_t, zb_i, zb_0, zb_1, Nat.reduceAdd, Nat.reduceLeDiff, Nat.reduceEqDiff, Nat.reduceSub, Int.reduceNeg, iI_add, iI_sub, iI_mul, iI_neg, iI_n, zbz, zchar_id, zin, zwr_s, zwr_a, zwr_i, if_pos, if_neg, Int.toNat_natCast, Int.natCast_zero, Int.reduceToNat, z15, h5, zt1, zc14]
  have st : zc 15 7 [.ref 14, .int (Int32.ofInt gap), .int (Int32.ofInt lev)] (zV h D) = zx 15 14 [some (.ref 14), some (.int (Int32.ofInt gap)), some (.int (Int32.ofInt lev)), none, none, none, none] [] (zV h D) := by
    rw [zc]
    clear hB hP hT hp1 hC hnl hD1 hT1 hQ1 h51
    simp (disch := first | omega | (simp (disch := omega) only [zwr_s, zwr_a, zwr_i, zn_put, zn_new, zn_fil, zn_chg, zV_n]; omega)) only [zentry, zs0, zs1, zs2, zs3, zg_lo, zg_st, zg_st2, zg_ald, zg_ast, zs_ia, zs_i0, zcs, zg_ii, zi_max, zi_min, zi_abi, zi_abf, zi_fb, zi_bf, lget, lst, lst2, lc2, Option.map_some, zso, if_true, if_false, zc1, and_true, true_and, and_self, List.length_nil, List.length_cons, Nat.zero_le, reduceIte, reduceCtorEq, false_and, and_false, Bool.false_eq_true, zca_some, zr0, zr100, Option.bind_some, zb_none, zb_some, zrc, or_true, true_or, eq_self, ne_eq, not_true_eq_false, not_false_eq_true, zrt_i, zrt_zb, zrt_b, zrt_c, zrt_l, zrt_f, zrt_r, zrt_n, zrt_v, zft_0, zft_1, zft_zb, zft_3, zft_4, zft_5, zft_7r, zft_7n, iI_t, zb_i, zb_0, zb_1, Nat.reduceAdd, Nat.reduceLeDiff, Nat.reduceEqDiff, Nat.reduceSub, Int.reduceNeg, iI_add, iI_sub, iI_mul, iI_neg, iI_n, zbz, zchar_id, zin, zwr_s, zwr_a, zwr_i, if_pos, if_neg, Int.toNat_natCast, Int.natCast_zero, Int.reduceToNat, z15, zc14]
  rw [st, hD1]
  clear st hD1
  have f3 : D1 14 3 = D 14 3 := hQ1 14 3 (by omega) (by omega)
  have hps : psF D1 0 (D1 14 3).toNat = pcs (clsD D1) := by
    rw [f3, psF_c (fun i => ⟨hQ1 16 i (by omega) (by omega), hQ1 17 i (by omega) (by omega)⟩), hP, clsD_c (fun a i ha => hQ1 a i (by omega) (by omega))]
  have hB1 : fiB D1 := by
    refine ⟨by rw [f3]; exact hn, fun i hi => ?_⟩
    rw [hQ1 15 i (by omega) (by omega), hQ1 16 i (by omega) (by omega), hQ1 17 i (by omega) (by omega)]
    exact hB.2 i (by omega)
  have hcl : clsD D1 = clsD D := clsD_c (fun a i ha => hQ1 a i (by omega) (by omega))
  have hLs : lnF D1 0 (D1 14 3).toNat = lns (pcs (clsD D)) := by rw [psF_l, hps, hcl]
  have hcell : D1 19 gap.toNat = fewR (lns (pcs (clsD D))) gap := by
    have := hT1 0 gap.toNat (by omega) (by omega)
    rw [Nat.sub_zero, hLs, show ((gap.toNat : Nat) : Int) = gap by omega] at this
    exact this
  have hfr := fewR_r (lns (pcs (clsD D))) gap
  have r18 : ∀ (D : zD), zm (zV h D) 18 0 = .ref 19 := fun D => zc18r (by omega)
  by_cases g9 : fewR (lns (pcs (clsD D))) gap = 9
  · have hb0 : bestM D gap lev = 0 := bestM_of (isB_0 hp1 (by rw [clsD_len hC.1]; have := hC.1; omega) h8 g9)
    have hm0 : mkB D gap lev = 0 := by
      unfold mkB
      rw [hb0]
      exact mk_0 _ _ (fun x hx => selC_0 _ x hx)
    refine ⟨D1, ?_, hQ1, ⟨hB1, hps, Or.inr h51, fun _ => hT1⟩, by rw [hb0, hm0]⟩
    rw [hm0]
    rw [g9] at hcell
    clear hB hP hT hp1 hC hnl hT1 hQ1 hps hB1 hcl hLs hb0 hm0
    simp (disch := first | omega | (simp (disch := omega) only [zwr_s, zwr_a, zwr_i, zn_put, zn_new, zn_fil, zn_chg, zV_n]; omega)) only [zentry, zs0, zs1, zs2, zs3, zg_lo, zg_st, zg_st2, zg_ald, zg_ast, zs_ia, zs_i0, zcs, zg_ii, zi_max, zi_min, zi_abi, zi_abf, zi_fb, zi_bf, lget, lst, lst2, lc2, Option.map_some, zso, if_true, if_false, zc1, and_true, true_and, and_self, List.length_nil, List.length_cons, Nat.zero_le, reduceIte, reduceCtorEq, false_and, and_false, Bool.false_eq_true, zca_some, zr0, zr100, Option.bind_some, zb_none, zb_some, zrc, or_true, true_or, eq_self, ne_eq, not_true_eq_false, not_false_eq_true, zrt_i, zrt_zb, zrt_b, zrt_c, zrt_l, zrt_f, zrt_r, zrt_n, zrt_v, zft_0, zft_1, zft_zb, zft_3, zft_4, zft_5, zft_7r, zft_7n, iI_t, zb_i, zb_0, zb_1, Nat.reduceAdd, Nat.reduceLeDiff, Nat.reduceEqDiff, Nat.reduceSub, Int.reduceNeg, iI_add, iI_sub, iI_mul, iI_neg, iI_n, zbz, zchar_id, zin, zwr_s, zwr_a, zwr_i, if_pos, if_neg, Int.toNat_natCast, Int.natCast_zero, Int.reduceToNat, z15, hcell, r18, zc14, zc18, zc19, Int.natCast_zero]
  · obtain ⟨D2, e18, k1, k2, k3, k4⟩ := c18 (h := h) hT1 hB1 hg (by rw [hLs]; omega)
    rw [hLs] at k1 k2 k3
    have hRK := runK_eq (lns (pcs (clsD D))) 0 [(0, gap)] (fun q hq => by
      cases List.mem_singleton.mp hq
      show fewR _ gap ≤ 8
      omega)
    rw [List.flatMap_cons, List.flatMap_nil, List.append_nil] at hRK
    have hRK : runK (lns (pcs (clsD D))) 0 [(0, gap)] = (selR (lns (pcs (clsD D))) gap (fewR (lns (pcs (clsD D))) gap)).map (fun b => (0 ||| maskK 0 b, 0)) := hRK
    rw [hRK] at k1 k2 k3
    rw [List.length_map] at k2 k3
    obtain ⟨b0, hb0⟩ := few_sel (lns (pcs (clsD D))) gap (by omega)
    have hcnt : (lns (pcs (clsD D))).length = (D 14 3).toNat := by
      unfold lns
      rw [List.length_map, ← hP, psF_len]
    have hSl : ∀ b ∈ selR (lns (pcs (clsD D))) gap (fewR (lns (pcs (clsD D))) gap), b.length = (D 14 3).toNat ∧ true ∈ b := fun b hb => ⟨by rw [sel_ln _ _ _ b hb, hcnt], sel_tr _ _ _ b hb (by omega)⟩
    have g3 : D2 14 3 = D 14 3 := (k4 14 3 (by omega) (by omega)).trans f3
    have hps2 : psF D2 0 (D2 14 3).toNat = pcs (clsD D) := by
      rw [g3, ← f3, psF_c (fun i => ⟨k4 16 i (by omega) (by omega), k4 17 i (by omega) (by omega)⟩), hps, hcl]
    have hQ2 : fiQ D D2 := fun a i q1 q2 => (k4 a i (by omega) (by omega)).trans (hQ1 a i q1 q2)
    generalize hS : selR (lns (pcs (clsD D))) gap (fewR (lns (pcs (clsD D))) gap) = S at *
    obtain ⟨s0, S', rfl⟩ : ∃ s0 S', S = s0 :: S' := by
      cases S with
      | nil => cases hb0
      | cons s0 S' => exact ⟨s0, S', rfl⟩
    have h28 : ∀ k (hk : k < (s0 :: S').length), D2 28 k = (maskK 0 (s0 :: S')[k] : Nat) := fun k hk => by
      have := (k1 k (by rw [List.length_map]; exact hk)).1
      rw [List.getElem_map] at this
      rw [this]
      show ((0 ||| maskK 0 (s0 :: S')[k] : Nat) : Int) = _
      rw [Nat.zero_or]
    obtain ⟨b', pre', suf', f1, f2, f3', f4⟩ := c15_l (n := (s0 :: S').length) (h := h) (S := s0 :: S') (fiG.b k4 hB1) hg hl k2 rfl k3 h28 (fun b hb => by rw [g3]; exact hSl b hb) S' [] [] s0 (some (.float (fdv D2 (maskK 0 s0) gap lev))) (by simp) (fun x hx => by cases hx) (fun x hx => by cases hx)
    rw [hps2] at f2 f3'
    obtain ⟨m, m1, m2, m3⟩ := isB_of (K := fun m => FP.Core.fkey (mdv D m gap lev)) (KP := keyP (pcs (clsD D)) gap lev) hp1 (fun m hm => keyP_m hC hm) (hS.trans f1) f2 f3'
    have hbm := bestM_of m1
    have hmk : mkB D gap lev = maskK 0 b' := by
      unfold mkB
      rw [hbm, m3]
    have hb'S : b' ∈ s0 :: S' := by rw [f1]; simp
    have hb' := hSl b' hb'S
    have hnz := mk_nz hb'.2 (by omega)
    refine ⟨D2, ?_, hQ2, ⟨fiG.b k4 hB1, by rw [hps2, clsD_c (fun a i ha => hQ2 a i (by omega) (by omega))], Or.inr ((k4 14 5 (by omega) (by omega)).trans h51), fun _ => fiG.t k4 hT1⟩, ?_⟩
    · rw [hmk, ← f4]
      have q28 := h28 0 (by simp)
      have q28 : D2 28 0 = (maskK 0 s0 : Nat) := q28
      have hs0 := hSl s0 List.mem_cons_self
      have mx := mk_lt s0 0 (by omega)
      have e14 := c14 (m := maskK 0 s0) (h := h) (fiG.b k4 hB1) mx hg hl
      have l0 : D2 14 10 = ((S'.length : Nat) : Int) + 1 := by
        rw [k2, List.length_cons]
        omega
      have l1 : ((S'.length : Nat) : Int) + 1 ≤ 70 := by
        rw [List.length_cons] at k3
        omega
      have e53 : zx 15 53 [some (.ref 14), some (.int (Int32.ofInt gap)), some (.int (Int32.ofInt lev)), some (.int (Int32.ofInt 0)), some (.float FP.fconst0), some (.int (Int32.ofInt 0)), none] [] (zV h D2) = zx 15 53 [some (.ref 14), some (.int (Int32.ofInt gap)), some (.int (Int32.ofInt lev)), some (.int (Int32.ofInt (maskK 0 s0 : Nat))), some (.float (fdv D2 (maskK 0 s0) gap lev)), some (.int (Int32.ofInt ((([] : List (List Bool)).length + 1 + ([] : List (List Bool)).length : Nat) : Int))), some (.float (fdv D2 (maskK 0 s0) gap lev))] [] (zV h D2) := by
        have ek : ((([] : List (List Bool)).length + 1 + ([] : List (List Bool)).length : Nat) : Int) = 0 + 1 := rfl
        rw [ek]
        conv => lhs; rw [z15_53]
        generalize fdv D2 (maskK 0 s0) gap lev = F at *
        generalize maskK 0 s0 = M at *
        have l2 : 0 ≤ ((S'.length : Nat) : Int) := by omega
        generalize ((S'.length : Nat) : Int) = sl at *
        clear hB hP hT hp1 hC hnl hT1 hQ1 hps hB1 hcl hLs hS hSl h28 k1 k4 f1 f2 f3' f4 m1 m2 m3 hb0 hb'S hb' hs0 hRK e18 hps2 hQ2 ek
        simp (disch := first | omega | (simp (disch := omega) only [zwr_s, zwr_a, zwr_i, zn_put, zn_new, zn_fil, zn_chg, zV_n]; omega)) only [zentry, zs0, zs1, zs2, zs3, zg_lo, zg_st, zg_st2, zg_ald, zg_ast, zs_ia, zs_i0, zcs, zg_ii, zi_max, zi_min, zi_abi, zi_abf, zi_fb, zi_bf, lget, lst, lst2, lc2, Option.map_some, zso, if_true, if_false, zc1, and_true, true_and, and_self, List.length_nil, List.length_cons, Nat.zero_le, reduceIte, reduceCtorEq, false_and, and_false, Bool.false_eq_true, zca_some, zr0, zr100, Option.bind_some, zb_none, zb_some, zrc, or_true, true_or, eq_self, ne_eq, not_true_eq_false, not_false_eq_true, zrt_i, zrt_zb, zrt_b, zrt_c, zrt_l, zrt_f, zrt_r, zrt_n, zrt_v, zft_0, zft_1, zft_zb, zft_3, zft_4, zft_5, zft_7r, zft_7n, iI_t, zb_i, zb_0, zb_1, Nat.reduceAdd, Nat.reduceLeDiff, Nat.reduceEqDiff, Nat.reduceSub, Int.reduceNeg, iI_add, iI_sub, iI_mul, iI_neg, iI_n, zbz, zchar_id, zin, zwr_s, zwr_a, zwr_i, if_pos, if_neg, Int.toNat_natCast, Int.natCast_zero, Int.reduceToNat, z15, l0, q28, e14, zt4, zc14, zc28]
      rw [← e53]
      clear e53
      generalize fewR (lns (pcs (clsD D))) gap = fw at *
      clear hB hP hT hp1 hC hnl hT1 hQ1 hps hB1 hcl hLs hS hSl h28 k1 k4 f1 f2 f3' f4 m1 m2 m3 hb0 hb'S hb' hs0 hRK hps2 hQ2 e14 q28 mx
      simp (disch := first | omega | (simp (disch := omega) only [zwr_s, zwr_a, zwr_i, zn_put, zn_new, zn_fil, zn_chg, zV_n]; omega)) only [zentry, zs0, zs1, zs2, zs3, zg_lo, zg_st, zg_st2, zg_ald, zg_ast, zs_ia, zs_i0, zcs, zg_ii, zi_max, zi_min, zi_abi, zi_abf, zi_fb, zi_bf, lget, lst, lst2, lc2, Option.map_some, zso, if_true, if_false, zc1, and_true, true_and, and_self, List.length_nil, List.length_cons, Nat.zero_le, reduceIte, reduceCtorEq, false_and, and_false, Bool.false_eq_true, zca_some, zr0, zr100, Option.bind_some, zb_none, zb_some, zrc, or_true, true_or, eq_self, ne_eq, not_true_eq_false, not_false_eq_true, zrt_i, zrt_zb, zrt_b, zrt_c, zrt_l, zrt_f, zrt_r, zrt_n, zrt_v, zft_0, zft_1, zft_zb, zft_3, zft_4, zft_5, zft_7r, zft_7n, iI_t, zb_i, zb_0, zb_1, Nat.reduceAdd, Nat.reduceLeDiff, Nat.reduceEqDiff, Nat.reduceSub, Int.reduceNeg, iI_add, iI_sub, iI_mul, iI_neg, iI_n, zbz, zchar_id, zin, zwr_s, zwr_a, zwr_i, if_pos, if_neg, Int.toNat_natCast, Int.natCast_zero, Int.reduceToNat, z15, hcell, e18, r18, zt2, zc14, zc18, zc19]
    · rw [hmk, hbm]
      refine ⟨fun q => absurd q hnz, fun q => ?_⟩
      rw [q] at m2
      have : sumC (clsD D) 0 = gap := m2.2
      have z : ∀ cs : zCL, sumC cs 0 = 0 := by
        intro cs
        induction cs with
        | nil => rfl
        | cons q r ih =>
          rw [sumC_0 rfl]
          exact ih
      rw [z] at this
      omega

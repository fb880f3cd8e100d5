/-! calls: class and reference side by side -/
theorem qEv_c {D D' : zD} {p : Int} (q : cEq D D') : qEv D' p = qEv D p := by
  unfold qEv
  rw [q 32 15 (by omega)]
theorem qAi_c {D D' : zD} {p : Int} (q : cEq D D') : qAi D' p = qAi D p := by
  unfold qAi
  rw [q 32 15 (by omega), lyF_cc q]
theorem rSt_c {D D' : zD} {p : Nat} (q : cEq D D') : rSt D' p = rSt D p := by
  unfold rSt
  rw [lyF_cc q]
theorem rEn_c {D D' : zD} {p : Nat} (q : cEq D D') : rEn D' p = rEn D p := by
  unfold rEn
  rw [lyF_cc q]
theorem rFate_c {D D' : zD} {p : Nat} (q : cEq D D') : rFate D' p = rFate D p := by
  unfold rFate
  rw [lyF_cc q]
theorem qSp_c {D D' : zD} {p : Int} (q : cEq D D') : qSp D' p = qSp D p := by
  unfold qSp
  rw [lyF_cc q]
theorem rAir_c {D D' : zD} {p : Int} (q : cEq D D') : rAir D' p = rAir D p := by
  unfold rAir
  rw [lyF_cc q]
theorem mPlT_c {D D' : zD} {p : Int} (q : cEq D D') : mPlT D' p = mPlT D p := by
  unfold mPlT
  rw [q 32 7 (by omega), q 38 _ (by omega)]
theorem mEnT_c {D D' : zD} {p : Int} (q : cEq D D') : mEnT D' p = mEnT D p := by
  unfold mEnT
  rw [q 32 30 (by omega)]
theorem mAiT_c {D D' : zD} {p : Int} (q : cEq D D') : mAiT D' p = mAiT D p := by
  unfold mAiT
  rw [q 32 7 (by omega)]
theorem mAft_w {D : zD} {τ : Int} (hn : FP.Core.fIsNaN (mLst D) = false) : mAft D (zwr D 32 32 τ) τ := ⟨zwr_32, zwr_s, zwr_32n hn⟩
/-- the script stays -/
def SC (h h' : zH) : Prop := zk h' 0 = zk h 0 ∧ zl h' 0 = zl h 0 ∧ zm h' 0 = zm h 0
theorem SC.rf {h : zH} : SC h h := ⟨rfl, rfl, rfl⟩
theorem SC.sh {h h' : zH} {c s : Nat} (hn : 70 ≤ zn h) (p : shX h h' c s) : SC h h' := p.2.2.2 0 (by omega)
theorem SC.tr {h h1 h2 : zH} (a : SC h h1) (b : SC h1 h2) : SC h h2 := ⟨b.1.trans a.1, b.2.1.trans a.2.1, b.2.2.trans a.2.2⟩
def QK (c : Nat) (h : zH) (X D : zD) (w m : zH → Option (zR × zH)) : Prop := ∃ (k b : Int) (h1 h2 : zH) (X' D1 D2 : zD), w (zV (zU h X) D) = some (.inl (some (.int (Int32.ofInt k))), zV (zU h1 X') D1) ∧ m (zV (zU h1 X') D1) = some (.inl (some (.int (Int32.ofInt b))), zV (zU h2 X') D2) ∧ D2 32 32 = k ∧ (iR k ∧ iR b) ∧ (k = 0 → D2 68 0 = b) ∧ Inv (c + 1) h2 X' D2 ∧ SC h h2
def QN (c : Nat) (h : zH) (X D : zD) (w m : zH → Option (zR × zH)) : Prop := ∃ (b : Int) (X' D1 D2 : zD), w (zV (zU h X) D) = some (.inl (some (.int (Int32.ofInt b))), zV (zU h X') D1) ∧ m (zV (zU h X') D1) = some (.inl (some (.int (Int32.ofInt b))), zV (zU h X') D2) ∧ Inv (c + 1) h X' D2
theorem QK.of {c : Nat} {h : zH} {X D X1 D1 : zD} {w m : zH → Option (zR × zH)} {τ v : Int} (hw : wR (w (zV (zU h X) D)) τ v h X1 D1) (p : Inv c h X1 D1) (hc : c < 600) (ht : iR τ)
    (hm : ∀ (h2 : zH) (D2 : zD), cEq D1 D2 → Inv (c + 1) h2 X1 D2 → ∃ (b : Int) (D3 : zD), m (zV (zU h2 X1) D2) = some (.inl (some (.int (Int32.ofInt b))), zV (zU h2 X1) D3) ∧ mAft D2 D3 τ ∧ iR b ∧ (τ = 0 → b = v)) : QK c h X D w m := by
  obtain ⟨h2, D2, e, hd⟩ := hw
  have o : D2 = zwr D1 68 0 v ∨ D2 = D1 := by
    rcases hd with ⟨-, -, q⟩ | ⟨-, -, q⟩
    · exact Or.inl q
    · exact Or.inr q
  have ce : cEq D1 D2 := by
    rcases o with rfl | rfl
    · exact fun a i q => zwr_a (by omega)
    · exact cEq.rf
  have p2 : Inv (c + 1) h2 X1 D2 ∧ SC h h2 := by
    rcases hd with ⟨-, q1, q2⟩ | ⟨-, q1, q2⟩
    · rw [q1, q2]
      exact ⟨(p.o (Or.inl rfl)).t hc, SC.rf⟩
    · rw [q1, q2]
      exact ⟨p.s hc, SC.rf⟩
  obtain ⟨b, D3, e3, a3, hb, hv⟩ := hm h2 D2 ce p2.1
  refine ⟨τ, b, h2, h2, X1, D2, D3, e, e3, a3.2.1, ⟨ht, hb⟩, fun k0 => ?_, p2.1.m a3, p2.2⟩
  rw [hv k0, a3.1 68 0 (by omega) (by omega)]
  rcases hd with ⟨-, -, q⟩ | ⟨q, -, -⟩
  · rw [q, zwr_s]
  · exact absurd k0 q
/-! .. without a layout -/
set_option maxRecDepth 20000 in
theorem c44 {x : Int} {c : Nat} {h : zH} {X D : zD} (p : Inv c h X D) (hr : iR x) :
    cV (zc 44 2 [.ref 3, .int (Int32.ofInt x)] (zV (zU h X) D)) (mPlT D x) (D 35 x.toNat) h X D ∨ cE (zc 44 2 [.ref 3, .int (Int32.ofInt x)] (zV (zU h X) D)) (mPlT D x) 1 2 h X D ∨ cE (zc 44 2 [.ref 3, .int (Int32.ofInt x)] (zV (zU h X) D)) (mPlT D x) 2 3 h X D := by
  rcases c86 p hr with ⟨e0, e⟩ | ⟨e0, e⟩ | ⟨e0, e⟩
  · refine Or.inl ⟨e0, ?_⟩
    have hx : 0 ≤ x ∧ x ≤ D 32 7 - 1 := by
      unfold mPlT at e0
      by_cases g : 0 ≤ x ∧ x ≤ D 32 7 - 1
      · exact g
      · rw [if_neg g] at e0
        omega
    obtain ⟨k1, k2, k3⟩ := p.2.1.1.K (e := x.toNat) (by omega)
    have q6 := (p.2.1.1.2 x.toNat (by omega)).2.2.2.2.2.2.1
    rw [zc]
    clear p
    generalize lsE X 4 x.toNat = a at *
    simp (disch := first | omega | (simp (disch := omega) only [zwr_s, zwr_a, zwr_i, zn_put, zn_new, zn_fil, zn_chg, zV_n]; omega)) only [zentry, zs0, zs1, zs2, zs3, zg_lo, zg_st, zg_st2, zg_ald, zg_ast, zs_ia, zs_i0, zcs, zg_ii, zi_max, zi_min, zi_abi, zi_abf, zi_fb, zi_bf, lget, lst, lst2, lc2, Option.map_some, zso, if_true, if_false, zc1, and_true, true_and, and_self, List.length_nil, List.length_cons, Nat.zero_le, reduceIte, reduceCtorEq, false_and, and_false, Bool.false_eq_true, zca_some, zr0, zr100, Option.bind_some, zb_none, zb_some, zrc, or_true, true_or, eq_self, ne_eq, not_true_eq_false, not_false_eq_true, zrt_i, zrt_zb, zrt_b, zrt_c, zrt_l, zrt_f, zrt_r, zrt_n, zrt_v, zft_0, zft_1, zft_zb, zft_3, zft_4, zft_5, zft_7r, zft_7n, iI_t, zb_i, zb_0, zb_1, Nat.reduceAdd, Nat.reduceLeDiff, Nat.reduceEqDiff, Nat.reduceSub, Int.reduceNeg, iI_add, iI_sub, iI_mul, iI_neg, iI_n, zbz, zchar_id, zin, zwr_s, zwr_a, zwr_i, if_pos, if_neg, Int.toNat_natCast, Int.natCast_zero, Int.reduceToNat, z44, zc3, zuC k1 k3, e, q6, zt2]
  · refine Or.inr (Or.inl ⟨e0, ?_⟩)
    rw [zc]
    clear p
    simp (disch := first | omega | (simp (disch := omega) only [zwr_s, zwr_a, zwr_i, zn_put, zn_new, zn_fil, zn_chg, zV_n]; omega)) only [zentry, zs0, zs1, zs2, zs3, zg_lo, zg_st, zg_st2, zg_ald, zg_ast, zs_ia, zs_i0, zcs, zg_ii, zi_max, zi_min, zi_abi, zi_abf, zi_fb, zi_bf, lget, lst, lst2, lc2, Option.map_some, zso, if_true, if_false, zc1, and_true, true_and, and_self, List.length_nil, List.length_cons, Nat.zero_le, reduceIte, reduceCtorEq, false_and, and_false, Bool.false_eq_true, zca_some, zr0, zr100, Option.bind_some, zb_none, zb_some, zrc, or_true, true_or, eq_self, ne_eq, not_true_eq_false, not_false_eq_true, zrt_i, zrt_zb, zrt_b, zrt_c, zrt_l, zrt_f, zrt_r, zrt_n, zrt_v, zft_0, zft_1, zft_zb, zft_3, zft_4, zft_5, zft_7r, zft_7n, iI_t, zb_i, zb_0, zb_1, Nat.reduceAdd, Nat.reduceLeDiff, Nat.reduceEqDiff, Nat.reduceSub, Int.reduceNeg, iI_add, iI_sub, iI_mul, iI_neg, iI_n, zbz, zchar_id, zin, zwr_s, zwr_a, zwr_i, if_pos, if_neg, Int.toNat_natCast, Int.natCast_zero, Int.reduceToNat, z44, zc3, e, zb_x, zt2]
  · refine Or.inr (Or.inr ⟨e0, ?_⟩)
    rw [zc]
    clear p
    simp (disch := first | omega | (simp (disch := omega) only [zwr_s, zwr_a, zwr_i, zn_put, zn_new, zn_fil, zn_chg, zV_n]; omega)) only [zentry, zs0, zs1, zs2, zs3, zg_lo, zg_st, zg_st2, zg_ald, zg_ast, zs_ia, zs_i0, zcs, zg_ii, zi_max, zi_min, zi_abi, zi_abf, zi_fb, zi_bf, lget, lst, lst2, lc2, Option.map_some, zso, if_true, if_false, zc1, and_true, true_and, and_self, List.length_nil, List.length_cons, Nat.zero_le, reduceIte, reduceCtorEq, false_and, and_false, Bool.false_eq_true, zca_some, zr0, zr100, Option.bind_some, zb_none, zb_some, zrc, or_true, true_or, eq_self, ne_eq, not_true_eq_false, not_false_eq_true, zrt_i, zrt_zb, zrt_b, zrt_c, zrt_l, zrt_f, zrt_r, zrt_n, zrt_v, zft_0, zft_1, zft_zb, zft_3, zft_4, zft_5, zft_7r, zft_7n, iI_t, zb_i, zb_0, zb_1, Nat.reduceAdd, Nat.reduceLeDiff, Nat.reduceEqDiff, Nat.reduceSub, Int.reduceNeg, iI_add, iI_sub, iI_mul, iI_neg, iI_n, zbz, zchar_id, zin, zwr_s, zwr_a, zwr_i, if_pos, if_neg, Int.toNat_natCast, Int.natCast_zero, Int.reduceToNat, z44, zc3, e, zb_x, zt2]
theorem q2 {x : Int} {c : Nat} {h : zH} {X D : zD} (p : Inv c h X D) (hc : c < 600) (hr : iR x) : QK c h X D (fun H => zc 190 4 [.ref 3, .int (Int32.ofInt x), .ref 68] H) (fun H => zc 111 2 [.ref 32, .int (Int32.ofInt x)] H) := by
  have b35 := (p.1.2.2.2.2 x.toNat).1
  refine QK.of (w190 (by omega) (c44 p hr)) p hc (by unfold mPlT; split <;> first | omega | (split <;> omega)) (fun h2 D2 ce p2 => ?_)
  have e := m111 (c := x) (h := zU h2 X) (D := D2) hr p2.1.1.1.1 (fun i => (p2.1.2.2.2.2 i).2)
  rw [mPlT_c ce, ce 35 x.toNat (by omega)] at e
  exact ⟨_, _, e, mAft_w p2.1.1.2.2.1, by split <;> omega, fun k0 => if_pos k0⟩
set_option maxRecDepth 20000 in
theorem c52 {x : Int} {c : Nat} {h : zH} {X D : zD} (p : Inv c h X D) (hr : iR x) :
    cV (zc 52 2 [.ref 3, .int (Int32.ofInt x)] (zV (zU h X) D)) (qEv D x) (D 40 x.toNat) h X D ∨ cE (zc 52 2 [.ref 3, .int (Int32.ofInt x)] (zV (zU h X) D)) (qEv D x) 1 2 h X D := by
  rcases c87 p hr with ⟨e0, e⟩ | ⟨e0, e⟩
  · refine Or.inl ⟨e0, ?_⟩
    have hx : 0 ≤ x ∧ x ≤ D 32 15 - 1 := by
      unfold qEv at e0
      by_cases g : 0 ≤ x ∧ x ≤ D 32 15 - 1
      · exact g
      · rw [if_neg g] at e0
        omega
    obtain ⟨k1, k2, k3⟩ := p.2.1.2.1.K (e := x.toNat) (by omega)
    have x0 := (p.2.1.2.1.2.2 x.toNat (by omega)).1
    have v := p.vE x.toNat (by omega)
    obtain ⟨d1, d2, d3⟩ := p.2.1.1.K (e := (D 40 x.toNat).toNat) (by omega)
    have y0 : X (lsE X 4 (D 40 x.toNat).toNat) 0 = D 40 x.toNat := by
      have := (p.2.1.1.2 (D 40 x.toNat).toNat (by omega)).1
      omega
    rw [zc]
    clear p
    generalize lsE X 4 (D 40 x.toNat).toNat = cc at *
    generalize lsE X 5 x.toNat = a at *
    simp (disch := first | omega | (simp (disch := omega) only [zwr_s, zwr_a, zwr_i, zn_put, zn_new, zn_fil, zn_chg, zV_n]; omega)) only [zentry, zs0, zs1, zs2, zs3, zg_lo, zg_st, zg_st2, zg_ald, zg_ast, zs_ia, zs_i0, zcs, zg_ii, zi_max, zi_min, zi_abi, zi_abf, zi_fb, zi_bf, lget, lst, lst2, lc2, Option.map_some, zso, if_true, if_false, zc1, and_true, true_and, and_self, List.length_nil, List.length_cons, Nat.zero_le, reduceIte, reduceCtorEq, false_and, and_false, Bool.false_eq_true, zca_some, zr0, zr100, Option.bind_some, zb_none, zb_some, zrc, or_true, true_or, eq_self, ne_eq, not_true_eq_false, not_false_eq_true, zrt_i, zrt_zb, zrt_b, zrt_c, zrt_l, zrt_f, zrt_r, zrt_n, zrt_v, zft_0, zft_1, zft_zb, zft_3, zft_4, zft_5, zft_7r, zft_7n, iI_t, zb_i, zb_0, zb_1, Nat.reduceAdd, Nat.reduceLeDiff, Nat.reduceEqDiff, Nat.reduceSub, Int.reduceNeg, iI_add, iI_sub, iI_mul, iI_neg, iI_n, zbz, zchar_id, zin, zwr_s, zwr_a, zwr_i, if_pos, if_neg, Int.toNat_natCast, Int.natCast_zero, Int.reduceToNat, z52, zc3, zuE k1 k3, zuC d1 d3, e, x0, y0, zt2]
  · refine Or.inr ⟨e0, ?_⟩
    rw [zc]
    clear p
    simp (disch := first | omega | (simp (disch := omega) only [zwr_s, zwr_a, zwr_i, zn_put, zn_new, zn_fil, zn_chg, zV_n]; omega)) only [zentry, zs0, zs1, zs2, zs3, zg_lo, zg_st, zg_st2, zg_ald, zg_ast, zs_ia, zs_i0, zcs, zg_ii, zi_max, zi_min, zi_abi, zi_abf, zi_fb, zi_bf, lget, lst, lst2, lc2, Option.map_some, zso, if_true, if_false, zc1, and_true, true_and, and_self, List.length_nil, List.length_cons, Nat.zero_le, reduceIte, reduceCtorEq, false_and, and_false, Bool.false_eq_true, zca_some, zr0, zr100, Option.bind_some, zb_none, zb_some, zrc, or_true, true_or, eq_self, ne_eq, not_true_eq_false, not_false_eq_true, zrt_i, zrt_zb, zrt_b, zrt_c, zrt_l, zrt_f, zrt_r, zrt_n, zrt_v, zft_0, zft_1, zft_zb, zft_3, zft_4, zft_5, zft_7r, zft_7n, iI_t, zb_i, zb_0, zb_1, Nat.reduceAdd, Nat.reduceLeDiff, Nat.reduceEqDiff, Nat.reduceSub, Int.reduceNeg, iI_add, iI_sub, iI_mul, iI_neg, iI_n, zbz, zchar_id, zin, zwr_s, zwr_a, zwr_i, if_pos, if_neg, Int.toNat_natCast, Int.natCast_zero, Int.reduceToNat, z52, zc3, e, zb_x, zt2]
theorem q10 {x : Int} {c : Nat} {h : zH} {X D : zD} (p : Inv c h X D) (hc : c < 600) (hr : iR x) : QK c h X D (fun H => zc 197 4 [.ref 3, .int (Int32.ofInt x), .ref 68] H) (fun H => zc 121 2 [.ref 32, .int (Int32.ofInt x)] H) := by
  have hb : qEv D x = 0 → 0 ≤ D 40 x.toNat ∧ D 40 x.toNat < 12 := fun e0 => by
    have h7 := p.1.1.1.1
    unfold qEv at e0
    by_cases g : 0 ≤ x ∧ x ≤ D 32 15 - 1
    · have := p.vE x.toNat (by omega)
      omega
    · rw [if_neg g] at e0
      omega
  by_cases g : qEv D x = 0
  · refine QK.of (w197 (by have := hb g; omega) (c52 p hr)) p hc (by unfold qEv; split <;> omega) (fun h2 D2 ce p2 => ?_)
    have e := m121 (e := x) (h := zU h2 X) (D := D2) hr p2.1.1.2.1.1
    have et : mPgT D2 x = qEv D x := by rw [← qEv_c ce]; rfl
    rw [et, ce 40 x.toNat (by omega)] at e
    exact ⟨_, _, e, mAft_w p2.1.1.2.2.1, by rw [if_pos g]; have := hb g; omega, fun k0 => if_pos k0⟩
  · have h52 := (c52 p hr).resolve_left (fun w => g w.1)
    refine QK.of (v := 0) (w197 (by omega) (Or.inr h52)) p hc (by unfold qEv; split <;> omega) (fun h2 D2 ce p2 => ?_)
    have e := m121 (e := x) (h := zU h2 X) (D := D2) hr p2.1.1.2.1.1
    have et : mPgT D2 x = qEv D x := by rw [← qEv_c ce]; rfl
    rw [et, if_neg g] at e
    exact ⟨_, _, e, mAft_w p2.1.1.2.2.1, by omega, fun _ => rfl⟩
set_option maxRecDepth 20000 in
theorem c77 {x : Int} {c : Nat} {h : zH} {X D : zD} (p : Inv c h X D) (hr : iR x) :
    (mAiT D x = 0 ∧ zc 77 2 [.ref 3, .int (Int32.ofInt x)] (zV (zU h X) D) = some (.inl (some (.long (Int64.ofInt (D 39 x.toNat)))), zV (zU h X) D)) ∨ cE (zc 77 2 [.ref 3, .int (Int32.ofInt x)] (zV (zU h X) D)) (mAiT D x) 1 2 h X D := by
  have hO := p.2.1.1
  have h0 := hO.1.1
  have h7 := p.1.1.1.1
  unfold mAiT
  by_cases g : 0 ≤ x ∧ x ≤ D 32 7 - 1
  · have e80 := c80_t (x := x) (X := X) (D := D) h0.1 (by omega) (by omega)
    have e171 := c171 (D := D) (i := x) (Or.inl rfl) hO.1 (by omega)
    obtain ⟨k1, k2, k3⟩ := hO.K (e := x.toNat) (by omega)
    have q7 := (hO.2 x.toNat (by omega)).2.2.2.2.2.2.2
    rw [if_pos g]
    refine Or.inl ⟨rfl, ?_⟩
    rw [zc]
    clear p hO
    generalize lsE X 4 x.toNat = a at *
    simp (disch := first | omega | (simp (disch := omega) only [zwr_s, zwr_a, zwr_i, zn_put, zn_new, zn_fil, zn_chg, zV_n]; omega)) only [zentry, zs0, zs1, zs2, zs3, zg_lo, zg_st, zg_st2, zg_ald, zg_ast, zs_ia, zs_i0, zcs, zg_ii, zi_max, zi_min, zi_abi, zi_abf, zi_fb, zi_bf, lget, lst, lst2, lc2, Option.map_some, zso, if_true, if_false, zc1, and_true, true_and, and_self, List.length_nil, List.length_cons, Nat.zero_le, reduceIte, reduceCtorEq, false_and, and_false, Bool.false_eq_true, zca_some, zr0, zr100, Option.bind_some, zb_none, zb_some, zrc, or_true, true_or, eq_self, ne_eq, not_true_eq_false, not_false_eq_true, zrt_i, zrt_zb, zrt_b, zrt_c, zrt_l, zrt_f, zrt_r, zrt_n, zrt_v, zft_0, zft_1, zft_zb, zft_3, zft_4, zft_5, zft_7r, zft_7n, iI_t, zb_i, zb_0, zb_1, Nat.reduceAdd, Nat.reduceLeDiff, Nat.reduceEqDiff, Nat.reduceSub, Int.reduceNeg, iI_add, iI_sub, iI_mul, iI_neg, iI_n, zbz, zchar_id, zin, zwr_s, zwr_a, zwr_i, if_pos, if_neg, Int.toNat_natCast, Int.natCast_zero, Int.reduceToNat, z77, zc3, zuL (a := 4) (Or.inl rfl) h0.1, zuC k1 k3, e80, e171, q7, zt2]
  · have e80 := c80_f (x := x) (X := X) (D := D) h0.1 (by omega) hr (by omega)
    rw [if_neg g]
    refine Or.inr ⟨rfl, ?_⟩
    rw [zc]
    clear p hO
    simp (disch := first | omega | (simp (disch := omega) only [zwr_s, zwr_a, zwr_i, zn_put, zn_new, zn_fil, zn_chg, zV_n]; omega)) only [zentry, zs0, zs1, zs2, zs3, zg_lo, zg_st, zg_st2, zg_ald, zg_ast, zs_ia, zs_i0, zcs, zg_ii, zi_max, zi_min, zi_abi, zi_abf, zi_fb, zi_bf, lget, lst, lst2, lc2, Option.map_some, zso, if_true, if_false, zc1, and_true, true_and, and_self, List.length_nil, List.length_cons, Nat.zero_le, reduceIte, reduceCtorEq, false_and, and_false, Bool.false_eq_true, zca_some, zr0, zr100, Option.bind_some, zb_none, zb_some, zrc, or_true, true_or, eq_self, ne_eq, not_true_eq_false, not_false_eq_true, zrt_i, zrt_zb, zrt_b, zrt_c, zrt_l, zrt_f, zrt_r, zrt_n, zrt_v, zft_0, zft_1, zft_zb, zft_3, zft_4, zft_5, zft_7r, zft_7n, iI_t, zb_i, zb_0, zb_1, Nat.reduceAdd, Nat.reduceLeDiff, Nat.reduceEqDiff, Nat.reduceSub, Int.reduceNeg, iI_add, iI_sub, iI_mul, iI_neg, iI_n, zbz, zchar_id, zin, zwr_s, zwr_a, zwr_i, if_pos, if_neg, Int.toNat_natCast, Int.natCast_zero, Int.reduceToNat, z77, zc3, e80, zb_x, zt2]
theorem lgL {D : zD} (hO : mOk D) (p : lgO D) : D 10 3 = D 32 30 ∧ (0 ≤ D 10 3 ∧ D 10 3 ≤ 116) ∧ ∀ k : Nat, (k : Int) < D 10 3 → D 11 k = D 66 k ∧ D 12 k = D 67 k ∧ (-1 ≤ D 66 k ∧ D 66 k < 12) ∧ (0 ≤ D 67 k ∧ D 67 k ≤ 3600) := by
  have h30 := hO.2.2.2.2.1
  rcases p.2 with ⟨a, b, d⟩ | ⟨a, lg, l, b, d⟩
  · exact ⟨by omega, by omega, fun k hk => by omega⟩
  · obtain ⟨l1, l2, l3, l4, l5⟩ := l
    refine ⟨by omega, by omega, fun k hk => ?_⟩
    obtain ⟨r1, r2, r3⟩ := tRp_K d k (by omega)
    obtain ⟨s1, s2⟩ := l4 k (by omega)
    have m := spK_mem (sp := lg) (k := k) (by omega)
    have := spC_b l1 _ m
    have := l5 _ m
    refine ⟨r1.trans s1.symm, r2.trans s2.symm, by omega, by omega⟩
set_option maxRecDepth 20000 in
theorem c74 {x : Int} {c : Nat} {h : zH} {X D : zD} (p : Inv c h X D) (hr : iR x) :
    cV (zc 74 2 [.ref 3, .int (Int32.ofInt x)] (zV (zU h X) D)) (mEnT D x) (if mEnT D x = 0 then D 66 x.toNat else 0) h X D ∨ cE (zc 74 2 [.ref 3, .int (Int32.ofInt x)] (zV (zU h X) D)) (mEnT D x) 1 2 h X D := by
  obtain ⟨g1, g2, g3⟩ := lgL p.1.1 p.2.2.1.2
  have e34 := c34_10 (i := x) (h := zU h X) (D := D) hr g2
  unfold mEnT
  by_cases g : 0 ≤ x ∧ x ≤ D 32 30 - 1
  · have e83 := c83_t (x := x) (h := zU h X) (D := D) g2.2 (by omega)
    rw [if_pos g, if_pos rfl]
    refine Or.inl ⟨rfl, ?_⟩
    have g4 := (g3 x.toNat (by omega)).1
    rw [if_pos (by omega), g4] at e34
    rw [zc]
    clear p g3
    simp (disch := first | omega | (simp (disch := omega) only [zwr_s, zwr_a, zwr_i, zn_put, zn_new, zn_fil, zn_chg, zV_n]; omega)) only [zentry, zs0, zs1, zs2, zs3, zg_lo, zg_st, zg_st2, zg_ald, zg_ast, zs_ia, zs_i0, zcs, zg_ii, zi_max, zi_min, zi_abi, zi_abf, zi_fb, zi_bf, lget, lst, lst2, lc2, Option.map_some, zso, if_true, if_false, zc1, and_true, true_and, and_self, List.length_nil, List.length_cons, Nat.zero_le, reduceIte, reduceCtorEq, false_and, and_false, Bool.false_eq_true, zca_some, zr0, zr100, Option.bind_some, zb_none, zb_some, zrc, or_true, true_or, eq_self, ne_eq, not_true_eq_false, not_false_eq_true, zrt_i, zrt_zb, zrt_b, zrt_c, zrt_l, zrt_f, zrt_r, zrt_n, zrt_v, zft_0, zft_1, zft_zb, zft_3, zft_4, zft_5, zft_7r, zft_7n, iI_t, zb_i, zb_0, zb_1, Nat.reduceAdd, Nat.reduceLeDiff, Nat.reduceEqDiff, Nat.reduceSub, Int.reduceNeg, iI_add, iI_sub, iI_mul, iI_neg, iI_n, zbz, zchar_id, zin, zwr_s, zwr_a, zwr_i, if_pos, if_neg, Int.toNat_natCast, Int.natCast_zero, Int.reduceToNat, z74, zc3, zc10, e83, e34, zt2]
  · have e83 := c83_f (x := x) (X := X) (h := h) (D := D) g2 hr (by omega)
    rw [if_neg g]
    refine Or.inr ⟨rfl, ?_⟩
    rw [zc]
    clear p g3
    simp (disch := first | omega | (simp (disch := omega) only [zwr_s, zwr_a, zwr_i, zn_put, zn_new, zn_fil, zn_chg, zV_n]; omega)) only [zentry, zs0, zs1, zs2, zs3, zg_lo, zg_st, zg_st2, zg_ald, zg_ast, zs_ia, zs_i0, zcs, zg_ii, zi_max, zi_min, zi_abi, zi_abf, zi_fb, zi_bf, lget, lst, lst2, lc2, Option.map_some, zso, if_true, if_false, zc1, and_true, true_and, and_self, List.length_nil, List.length_cons, Nat.zero_le, reduceIte, reduceCtorEq, false_and, and_false, Bool.false_eq_true, zca_some, zr0, zr100, Option.bind_some, zb_none, zb_some, zrc, or_true, true_or, eq_self, ne_eq, not_true_eq_false, not_false_eq_true, zrt_i, zrt_zb, zrt_b, zrt_c, zrt_l, zrt_f, zrt_r, zrt_n, zrt_v, zft_0, zft_1, zft_zb, zft_3, zft_4, zft_5, zft_7r, zft_7n, iI_t, zb_i, zb_0, zb_1, Nat.reduceAdd, Nat.reduceLeDiff, Nat.reduceEqDiff, Nat.reduceSub, Int.reduceNeg, iI_add, iI_sub, iI_mul, iI_neg, iI_n, zbz, zchar_id, zin, zwr_s, zwr_a, zwr_i, if_pos, if_neg, Int.toNat_natCast, Int.natCast_zero, Int.reduceToNat, z74, zc3, zc10, e83, zb_x, zt2]
theorem q32 {x : Int} {c : Nat} {h : zH} {X D : zD} (p : Inv c h X D) (hc : c < 600) (hr : iR x) : QK c h X D (fun H => zc 215 4 [.ref 3, .int (Int32.ofInt x), .ref 68] H) (fun H => zc 160 2 [.ref 32, .int (Int32.ofInt x)] H) := by
  obtain ⟨g1, g2, g3⟩ := lgL p.1.1 p.2.2.1.2
  have hb : iR (if mEnT D x = 0 then D 66 x.toNat else 0) := by
    by_cases g : mEnT D x = 0
    · rw [if_pos g]
      unfold mEnT at g
      by_cases g0 : 0 ≤ x ∧ x ≤ D 32 30 - 1
      · have := g3 x.toNat (by omega)
        omega
      · rw [if_neg g0] at g
        omega
    · rw [if_neg g]
      omega
  refine QK.of (w215 hb (c74 p hr)) p hc (by unfold mEnT; split <;> omega) (fun h2 D2 ce p2 => ?_)
  have e := m160 (e := x) (h := zU h2 X) (D := D2) hr (by have := p2.1.1.2.2.2.2.1; omega)
  rw [mEnT_c ce, ce 66 x.toNat (by omega)] at e
  exact ⟨_, _, e, mAft_w p2.1.1.2.2.1, hb, fun _ => rfl⟩
set_option maxRecDepth 20000 in
theorem c75 {x : Int} {c : Nat} {h : zH} {X D : zD} (p : Inv c h X D) (hr : iR x) :
    cV (zc 75 2 [.ref 3, .int (Int32.ofInt x)] (zV (zU h X) D)) (mEnT D x) (if mEnT D x = 0 then D 67 x.toNat else 0) h X D ∨ cE (zc 75 2 [.ref 3, .int (Int32.ofInt x)] (zV (zU h X) D)) (mEnT D x) 1 2 h X D := by
  obtain ⟨g1, g2, g3⟩ := lgL p.1.1 p.2.2.1.2
  have e34 := c35_10 (i := x) (h := zU h X) (D := D) hr g2
  unfold mEnT
  by_cases g : 0 ≤ x ∧ x ≤ D 32 30 - 1
  · have e83 := c83_t (x := x) (h := zU h X) (D := D) g2.2 (by omega)
    rw [if_pos g, if_pos rfl]
    refine Or.inl ⟨rfl, ?_⟩
    have g4 := (g3 x.toNat (by omega)).2.1
    rw [if_pos (by omega), g4] at e34
    rw [zc]
    clear p g3
    simp (disch := first | omega | (simp (disch := omega) only [zwr_s, zwr_a, zwr_i, zn_put, zn_new, zn_fil, zn_chg, zV_n]; omega)) only [zentry, zs0, zs1, zs2, zs3, zg_lo, zg_st, zg_st2, zg_ald, zg_ast, zs_ia, zs_i0, zcs, zg_ii, zi_max, zi_min, zi_abi, zi_abf, zi_fb, zi_bf, lget, lst, lst2, lc2, Option.map_some, zso, if_true, if_false, zc1, and_true, true_and, and_self, List.length_nil, List.length_cons, Nat.zero_le, reduceIte, reduceCtorEq, false_and, and_false, Bool.false_eq_true, zca_some, zr0, zr100, Option.bind_some, zb_none, zb_some, zrc, or_true, true_or, eq_self, ne_eq, not_true_eq_false, not_false_eq_true, zrt_i, zrt_zb, zrt_b, zrt_c, zrt_l, zrt_f, zrt_r, zrt_n, zrt_v, zft_0, zft_1, zft_zb, zft_3, zft_4, zft_5, zft_7r, zft_7n, iI_t, zb_i, zb_0, zb_1, Nat.reduceAdd, Nat.reduceLeDiff, Nat.reduceEqDiff, Nat.reduceSub, Int.reduceNeg, iI_add, iI_sub, iI_mul, iI_neg, iI_n, zbz, zchar_id, zin, zwr_s, zwr_a, zwr_i, if_pos, if_neg, Int.toNat_natCast, Int.natCast_zero, Int.reduceToNat, z75, zc3, zc10, e83, e34, zt2]
  · have e83 := c83_f (x := x) (X := X) (h := h) (D := D) g2 hr (by omega)
    rw [if_neg g]
    refine Or.inr ⟨rfl, ?_⟩
    rw [zc]
    clear p g3
    simp (disch := first | omega | (simp (disch := omega) only [zwr_s, zwr_a, zwr_i, zn_put, zn_new, zn_fil, zn_chg, zV_n]; omega)) only [zentry, zs0, zs1, zs2, zs3, zg_lo, zg_st, zg_st2, zg_ald, zg_ast, zs_ia, zs_i0, zcs, zg_ii, zi_max, zi_min, zi_abi, zi_abf, zi_fb, zi_bf, lget, lst, lst2, lc2, Option.map_some, zso, if_true, if_false, zc1, and_true, true_and, and_self, List.length_nil, List.length_cons, Nat.zero_le, reduceIte, reduceCtorEq, false_and, and_false, Bool.false_eq_true, zca_some, zr0, zr100, Option.bind_some, zb_none, zb_some, zrc, or_true, true_or, eq_self, ne_eq, not_true_eq_false, not_false_eq_true, zrt_i, zrt_zb, zrt_b, zrt_c, zrt_l, zrt_f, zrt_r, zrt_n, zrt_v, zft_0, zft_1, zft_zb, zft_3, zft_4, zft_5, zft_7r, zft_7n, iI_t, zb_i, zb_0, zb_1, Nat.reduceAdd, Nat.reduceLeDiff, Nat.reduceEqDiff, Nat.reduceSub, Int.reduceNeg, iI_add, iI_sub, iI_mul, iI_neg, iI_n, zbz, zchar_id, zin, zwr_s, zwr_a, zwr_i, if_pos, if_neg, Int.toNat_natCast, Int.natCast_zero, Int.reduceToNat, z75, zc3, zc10, e83, zb_x, zt2]
theorem q33 {x : Int} {c : Nat} {h : zH} {X D : zD} (p : Inv c h X D) (hc : c < 600) (hr : iR x) : QK c h X D (fun H => zc 216 4 [.ref 3, .int (Int32.ofInt x), .ref 68] H) (fun H => zc 161 2 [.ref 32, .int (Int32.ofInt x)] H) := by
  obtain ⟨g1, g2, g3⟩ := lgL p.1.1 p.2.2.1.2
  have hb : iR (if mEnT D x = 0 then D 67 x.toNat else 0) := by
    by_cases g : mEnT D x = 0
    · rw [if_pos g]
      unfold mEnT at g
      by_cases g0 : 0 ≤ x ∧ x ≤ D 32 30 - 1
      · have := g3 x.toNat (by omega)
        omega
      · rw [if_neg g0] at g
        omega
    · rw [if_neg g]
      omega
  refine QK.of (w216 hb (c75 p hr)) p hc (by unfold mEnT; split <;> omega) (fun h2 D2 ce p2 => ?_)
  have e := m161 (e := x) (h := zU h2 X) (D := D2) hr (by have := p2.1.1.2.2.2.2.1; omega)
  rw [mEnT_c ce, ce 67 x.toNat (by omega)] at e
  exact ⟨_, _, e, mAft_w p2.1.1.2.2.1, hb, fun _ => rfl⟩
set_option maxRecDepth 20000 in
theorem q9 {c : Nat} {h : zH} {X D : zD} (p : Inv c h X D) (hc : c < 600) : QN c h X D (fun H => zc 51 1 [.ref 3] H) (fun H => zc 120 1 [.ref 32] H) := by
  have h0 := p.2.1.2.1.1.1
  have e := c175 (h := h) (X := X) (D := D) (a := 5) (by omega) h0.1
  rw [h0.2.1] at e
  refine ⟨D 32 15, X, D, zwr D 32 32 0, ?_, m120, (p.m (mAft_w p.1.1.2.2.1)).t hc⟩
  show zc 51 1 [.ref 3] _ = _
  rw [zc]
  clear p
  simp (disch := first | omega | (simp (disch := omega) only [zwr_s, zwr_a, zwr_i, zn_put, zn_new, zn_fil, zn_chg, zV_n]; omega)) only [zentry, zs0, zs1, zs2, zs3, zg_lo, zg_st, zg_st2, zg_ald, zg_ast, zs_ia, zs_i0, zcs, zg_ii, zi_max, zi_min, zi_abi, zi_abf, zi_fb, zi_bf, lget, lst, lst2, lc2, Option.map_some, zso, if_true, if_false, zc1, and_true, true_and, and_self, List.length_nil, List.length_cons, Nat.zero_le, reduceIte, reduceCtorEq, false_and, and_false, Bool.false_eq_true, zca_some, zr0, zr100, Option.bind_some, zb_none, zb_some, zrc, or_true, true_or, eq_self, ne_eq, not_true_eq_false, not_false_eq_true, zrt_i, zrt_zb, zrt_b, zrt_c, zrt_l, zrt_f, zrt_r, zrt_n, zrt_v, zft_0, zft_1, zft_zb, zft_3, zft_4, zft_5, zft_7r, zft_7n, iI_t, zb_i, zb_0, zb_1, Nat.reduceAdd, Nat.reduceLeDiff, Nat.reduceEqDiff, Nat.reduceSub, Int.reduceNeg, iI_add, iI_sub, iI_mul, iI_neg, iI_n, zbz, zchar_id, zin, zwr_s, zwr_a, zwr_i, if_pos, if_neg, Int.toNat_natCast, Int.natCast_zero, Int.reduceToNat, z51, zc3, zuL (a := 5) (Or.inr (Or.inl rfl)) h0.1, e, zt1]
set_option maxRecDepth 20000 in
theorem q30 {c : Nat} {h : zH} {X D : zD} (p : Inv c h X D) (hc : c < 600) : QN c h X D (fun H => zc 72 1 [.ref 3] H) (fun H => zc 158 1 [.ref 32] H) := by
  have h0 := p.2.2.1.1.1
  refine ⟨D 32 16, X, D, zwr D 32 32 0, ?_, m158, (p.m (mAft_w p.1.1.2.2.1)).t hc⟩
  show zc 72 1 [.ref 3] _ = _
  rw [zc]
  clear p
  simp (disch := first | omega | (simp (disch := omega) only [zwr_s, zwr_a, zwr_i, zn_put, zn_new, zn_fil, zn_chg, zV_n]; omega)) only [zentry, zs0, zs1, zs2, zs3, zg_lo, zg_st, zg_st2, zg_ald, zg_ast, zs_ia, zs_i0, zcs, zg_ii, zi_max, zi_min, zi_abi, zi_abf, zi_fb, zi_bf, lget, lst, lst2, lc2, Option.map_some, zso, if_true, if_false, zc1, and_true, true_and, and_self, List.length_nil, List.length_cons, Nat.zero_le, reduceIte, reduceCtorEq, false_and, and_false, Bool.false_eq_true, zca_some, zr0, zr100, Option.bind_some, zb_none, zb_some, zrc, or_true, true_or, eq_self, ne_eq, not_true_eq_false, not_false_eq_true, zrt_i, zrt_zb, zrt_b, zrt_c, zrt_l, zrt_f, zrt_r, zrt_n, zrt_v, zft_0, zft_1, zft_zb, zft_3, zft_4, zft_5, zft_7r, zft_7n, iI_t, zb_i, zb_0, zb_1, Nat.reduceAdd, Nat.reduceLeDiff, Nat.reduceEqDiff, Nat.reduceSub, Int.reduceNeg, iI_add, iI_sub, iI_mul, iI_neg, iI_n, zbz, zchar_id, zin, zwr_s, zwr_a, zwr_i, if_pos, if_neg, Int.toNat_natCast, Int.natCast_zero, Int.reduceToNat, z72, zc3, h0]
set_option maxRecDepth 20000 in
theorem q31 {c : Nat} {h : zH} {X D : zD} (p : Inv c h X D) (hc : c < 600) : QN c h X D (fun H => zc 73 1 [.ref 3] H) (fun H => zc 159 1 [.ref 32] H) := by
  have h0 := (lgL p.1.1 p.2.2.1.2).1
  refine ⟨D 32 30, X, D, zwr D 32 32 0, ?_, m159, (p.m (mAft_w p.1.1.2.2.1)).t hc⟩
  show zc 73 1 [.ref 3] _ = _
  rw [zc]
  clear p
  simp (disch := first | omega | (simp (disch := omega) only [zwr_s, zwr_a, zwr_i, zn_put, zn_new, zn_fil, zn_chg, zV_n]; omega)) only [zentry, zs0, zs1, zs2, zs3, zg_lo, zg_st, zg_st2, zg_ald, zg_ast, zs_ia, zs_i0, zcs, zg_ii, zi_max, zi_min, zi_abi, zi_abf, zi_fb, zi_bf, lget, lst, lst2, lc2, Option.map_some, zso, if_true, if_false, zc1, and_true, true_and, and_self, List.length_nil, List.length_cons, Nat.zero_le, reduceIte, reduceCtorEq, false_and, and_false, Bool.false_eq_true, zca_some, zr0, zr100, Option.bind_some, zb_none, zb_some, zrc, or_true, true_or, eq_self, ne_eq, not_true_eq_false, not_false_eq_true, zrt_i, zrt_zb, zrt_b, zrt_c, zrt_l, zrt_f, zrt_r, zrt_n, zrt_v, zft_0, zft_1, zft_zb, zft_3, zft_4, zft_5, zft_7r, zft_7n, iI_t, zb_i, zb_0, zb_1, Nat.reduceAdd, Nat.reduceLeDiff, Nat.reduceEqDiff, Nat.reduceSub, Int.reduceNeg, iI_add, iI_sub, iI_mul, iI_neg, iI_n, zbz, zchar_id, zin, zwr_s, zwr_a, zwr_i, if_pos, if_neg, Int.toNat_natCast, Int.natCast_zero, Int.reduceToNat, z73, zc3, zc10, h0]

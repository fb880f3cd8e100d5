/-! each call of the class that changes it; the rest -/
set_option maxRecDepth 20000 in
theorem k761 {c : Nat} {h : zH} {X D : zD} (p : Inv c h X D) : ∃ X1 D1, InvG c h D X1 D1 ∧ ((∃ v : Int, (0 ≤ v ∧ v ≤ 3600) ∧ D 32 31 = 1 ∧ zc 76 1 [.ref 3] (zV (zU h X) D) = some (.inl (some (.int (Int32.ofInt v))), zV (zU h X1) D1)) ∨ (D 32 31 = 0 ∧ zc 76 1 [.ref 3] (zV (zU h X) D) = some (.inr 4, zV (zU (zchg h 1 6) X1) D1))) := by
  have hl := p.2.2.1.2
  rcases hl.2 with ⟨a1, a2, a3⟩ | ⟨a1, lg, l1, l2, l3⟩
  · have h37 : D 3 7 = 0 := by rw [hl.1]; exact a1
    refine ⟨X, D, ⟨p, gs.rf⟩, Or.inr ⟨a1, ?_⟩⟩
    rw [zc]
    clear p hl
    simp (disch := first | omega | (simp (disch := omega) only [zwr_s, zwr_a, zwr_i, zn_put, zn_new, zn_fil, zn_chg, zV_n]; omega)) only [zentry, zs0, zs1, zs2, zs3, zg_lo, zg_st, zg_st2, zg_ald, zg_ast, zs_ia, zs_i0, zcs, zg_ii, zi_max, zi_min, zi_abi, zi_abf, zi_fb, zi_bf, lget, lst, lst2, lc2, Option.map_some, zso, if_true, if_false, zc1, and_true, true_and, and_self, List.length_nil, List.length_cons, Nat.zero_le, reduceIte, reduceCtorEq, false_and, and_false, Bool.false_eq_true, zca_some, zr0, zr100, Option.bind_some, zb_none, zb_some, zrc, or_true, true_or, eq_self, ne_eq, not_true_eq_false, not_false_eq_true, zrt_i, zrt_zb, zrt_b, zrt_c, zrt_l, zrt_f, zrt_r, zrt_n, zrt_v, zft_0, zft_1, zft_zb, zft_3, zft_4, zft_5, zft_7r, zft_7n, iI_t, zb_i, zb_0, zb_1, Nat.reduceAdd, Nat.reduceLeDiff, Nat.reduceEqDiff, Nat.reduceSub, Int.reduceNeg, iI_add, iI_sub, iI_mul, iI_neg, iI_n, zbz, zchar_id, zin, zwr_s, zwr_a, zwr_i, if_pos, if_neg, Int.toNat_natCast, Int.natCast_zero, Int.reduceToNat, z76, zc3, h37, zgX]
  · obtain ⟨X1, D1, e91, p1, la, l36, y, d32, d6⟩ := lay p
    have h37 : D 3 7 = 1 := by rw [hl.1]; exact a1
    have ce1 : cEq D D1 := fun a i q => d32 a i (by omega)
    have hl1 := p1.2.2.1.2
    have f1 : D1 32 31 = 1 := by rw [ce1 32 31 (by omega)]; exact a1
    obtain ⟨lg, m1, m2, m3⟩ : ∃ lg, mLg D1 lg ∧ D1 10 3 = lg.length ∧ tRp 10 D1 lg := by
      rcases hl1.2 with ⟨b1, -⟩ | ⟨-, b⟩
      · omega
      · exact b
    have hO := p1.1.1
    obtain ⟨s1, s2, s3, -⟩ := lyF_ok hO
    have h7 := hO.1.1
    have e40 := c40 (h := zU h X1) la.1 s1 s2 la.2.1 (fun x hx => by rcases s3 x hx with v | v <;> omega) m2 m1.1 m1.2.1 m3 m1.2.2.2.2
    have b := apS_b (sp := (lyF D1).2.1) (lg := lg) 3600
    refine ⟨X1, D1, ⟨p1, d32⟩, Or.inl ⟨apS (lyF D1).2.1 lg 3600, by omega, a1, ?_⟩⟩
    rw [zc]
    clear p p1 la hl hl1 l1 l3 m1 m3 hO s1 s3 b
    generalize apS (lyF D1).2.1 lg 3600 = v at *
    simp (disch := first | omega | (simp (disch := omega) only [zwr_s, zwr_a, zwr_i, zn_put, zn_new, zn_fil, zn_chg, zV_n]; omega)) only [zentry, zs0, zs1, zs2, zs3, zg_lo, zg_st, zg_st2, zg_ald, zg_ast, zs_ia, zs_i0, zcs, zg_ii, zi_max, zi_min, zi_abi, zi_abf, zi_fb, zi_bf, lget, lst, lst2, lc2, Option.map_some, zso, if_true, if_false, zc1, and_true, true_and, and_self, List.length_nil, List.length_cons, Nat.zero_le, reduceIte, reduceCtorEq, false_and, and_false, Bool.false_eq_true, zca_some, zr0, zr100, Option.bind_some, zb_none, zb_some, zrc, or_true, true_or, eq_self, ne_eq, not_true_eq_false, not_false_eq_true, zrt_i, zrt_zb, zrt_b, zrt_c, zrt_l, zrt_f, zrt_r, zrt_n, zrt_v, zft_0, zft_1, zft_zb, zft_3, zft_4, zft_5, zft_7r, zft_7n, iI_t, zb_i, zb_0, zb_1, Nat.reduceAdd, Nat.reduceLeDiff, Nat.reduceEqDiff, Nat.reduceSub, Int.reduceNeg, iI_add, iI_sub, iI_mul, iI_neg, iI_n, zbz, zchar_id, zin, zwr_s, zwr_a, zwr_i, if_pos, if_neg, Int.toNat_natCast, Int.natCast_zero, Int.reduceToNat, z76, zc3, zc6, zc10, h37, e91, e40, zt1, zt2]
section STC
variable {L : Nat} {xs : Nat → Int32} {c n : Nat} {G : zD} {H : zH}
theorem St.x42 {len lev pl fi ld : Int} (p : St L xs c n G H) (hc : c < 600) (r1 : iR len) (r2 : iR lev) (r3 : iR pl) (r4 : iR fi) (r5 : iR ld) : sC L xs c n 42 7 [.ref 3, .int (Int32.ofInt len), .int (Int32.ofInt lev), .int (Int32.ofInt pl), .int (Int32.ofInt fi), .int (Int32.ofInt ld)] H (mApgT G len lev pl fi ld) (fun _ _ => True) ∨ sE L xs c n G 42 7 [.ref 3, .int (Int32.ofInt len), .int (Int32.ofInt lev), .int (Int32.ofInt pl), .int (Int32.ofInt fi), .int (Int32.ofInt ld)] H (mApgT G len lev pl fi ld) 1 0 ∨ sE L xs c n G 42 7 [.ref 3, .int (Int32.ofInt len), .int (Int32.ofInt lev), .int (Int32.ofInt pl), .int (Int32.ofInt fi), .int (Int32.ofInt ld)] H (mApgT G len lev pl fi ld) 2 1 := by
  obtain ⟨I, h, X, D, a, b, R, q, g, g9, gd, la, lb⟩ := p
  have et : mApgT D len lev pl fi ld = mApgT G len lev pl fi ld := by
    unfold mApgT
    rw [g 32 7 (by omega)]
  rcases t42 q hc r1 r2 r3 r4 r5 with ⟨t0, v, h1, X1, D1, D9, e, hv, q9, q9i, w39, w16⟩ | u | u
  · exact Or.inl (St.ofC I R la lb rfl rfl (et.symm.trans t0) e hv q9 q9i (fun i => by have := g9 i; rw [w39, g 39 i (by omega)]; omega) (by rw [w16, g 32 16 (by omega)]; omega) trivial)
  · exact Or.inr (Or.inl (St.ofE I R g9 gd la lb rfl rfl g ⟨q, gs.rf⟩ u et))
  · exact Or.inr (Or.inr (St.ofE I R g9 gd la lb rfl rfl g ⟨q, gs.rf⟩ u et))
theorem St.x43 {len lev fi ld : Int} (p : St L xs c n G H) (hc : c < 600) (r1 : iR len) (r2 : iR lev) (r4 : iR fi) (r5 : iR ld) : sC L xs c n 43 6 [.ref 3, .int (Int32.ofInt len), .int (Int32.ofInt lev), .int (Int32.ofInt fi), .int (Int32.ofInt ld)] H (mApcT G len lev fi ld) (fun _ _ => True) ∨ sE L xs c n G 43 6 [.ref 3, .int (Int32.ofInt len), .int (Int32.ofInt lev), .int (Int32.ofInt fi), .int (Int32.ofInt ld)] H (mApcT G len lev fi ld) 1 0 ∨ sE L xs c n G 43 6 [.ref 3, .int (Int32.ofInt len), .int (Int32.ofInt lev), .int (Int32.ofInt fi), .int (Int32.ofInt ld)] H (mApcT G len lev fi ld) 2 1 := by
  obtain ⟨I, h, X, D, a, b, R, q, g, g9, gd, la, lb⟩ := p
  have et : mApcT D len lev fi ld = mApcT G len lev fi ld := by
    unfold mApcT
    rw [g 32 7 (by omega), g 32 8 (by omega)]
  rcases t43 q hc r1 r2 r4 r5 with ⟨t0, v, h1, X1, D1, D9, e, hv, q9, q9i, w39, w16⟩ | u | u
  · exact Or.inl (St.ofC I R la lb rfl rfl (et.symm.trans t0) e hv q9 q9i (fun i => by have := g9 i; rw [w39, g 39 i (by omega)]; omega) (by rw [w16, g 32 16 (by omega)]; omega) trivial)
  · exact Or.inr (Or.inl (St.ofE I R g9 gd la lb rfl rfl g ⟨q, gs.rf⟩ u et))
  · exact Or.inr (Or.inr (St.ofE I R g9 gd la lb rfl rfl g ⟨q, gs.rf⟩ u et))
theorem St.x45 {x pl : Int} (p : St L xs c n G H) (hc : c < 600) (hr : iR x) (hl : iR pl) : sC L xs c n 45 4 [.ref 3, .int (Int32.ofInt x), .int (Int32.ofInt pl)] H (mApT G x pl) (fun _ _ => True) ∨ sE L xs c n G 45 4 [.ref 3, .int (Int32.ofInt x), .int (Int32.ofInt pl)] H (mApT G x pl) 1 2 ∨ sE L xs c n G 45 4 [.ref 3, .int (Int32.ofInt x), .int (Int32.ofInt pl)] H (mApT G x pl) 2 3 ∨ sE L xs c n G 45 4 [.ref 3, .int (Int32.ofInt x), .int (Int32.ofInt pl)] H (mApT G x pl) 3 0 := by
  obtain ⟨I, h, X, D, a, b, R, q, g, g9, gd, la, lb⟩ := p
  have et : mApT D x pl = mApT G x pl := by
    unfold mApT
    rw [g 32 7 (by omega), g 38 _ (by omega)]
  rcases t45 q hc hr hl with ⟨t0, v, h1, X1, D1, D9, e, hv, q9, q9i, w39, w16⟩ | u | u | u
  · exact Or.inl (St.ofC I R la lb rfl rfl (et.symm.trans t0) e hv q9 q9i (fun i => by have := g9 i; rw [w39, g 39 i (by omega)]; omega) (by rw [w16, g 32 16 (by omega)]; omega) trivial)
  · exact Or.inr (Or.inl (St.ofE I R g9 gd la lb rfl rfl g ⟨q, gs.rf⟩ u et))
  · exact Or.inr (Or.inr (Or.inl (St.ofE I R g9 gd la lb rfl rfl g ⟨q, gs.rf⟩ u et)))
  · exact Or.inr (Or.inr (Or.inr (St.ofE I R g9 gd la lb rfl rfl g ⟨q, gs.rf⟩ u et)))
theorem St.x46 {x cl md st : Int} (p : St L xs c n G H) (hc : c < 600) (hr : iR x) (hcl : iR cl) (hm : 0 ≤ md ∧ md ≤ 65535) (hst : iR st) : sC L xs c n 46 6 [.ref 3, .int (Int32.ofInt x), .int (Int32.ofInt cl), .int (Int32.ofInt md), .int (Int32.ofInt st)] H (qIn G x cl md st) (fun _ _ => True) ∨ sE L xs c n G 46 6 [.ref 3, .int (Int32.ofInt x), .int (Int32.ofInt cl), .int (Int32.ofInt md), .int (Int32.ofInt st)] H (qIn G x cl md st) 1 2 ∨ sE L xs c n G 46 6 [.ref 3, .int (Int32.ofInt x), .int (Int32.ofInt cl), .int (Int32.ofInt md), .int (Int32.ofInt st)] H (qIn G x cl md st) 2 3 ∨ sE L xs c n G 46 6 [.ref 3, .int (Int32.ofInt x), .int (Int32.ofInt cl), .int (Int32.ofInt md), .int (Int32.ofInt st)] H (qIn G x cl md st) 3 0 ∨ sE L xs c n G 46 6 [.ref 3, .int (Int32.ofInt x), .int (Int32.ofInt cl), .int (Int32.ofInt md), .int (Int32.ofInt st)] H (qIn G x cl md st) 4 1 := by
  obtain ⟨I, h, X, D, a, b, R, q, g, g9, gd, la, lb⟩ := p
  have et : qIn D x cl md st = qIn G x cl md st := by
    unfold qIn
    rw [g 32 7 (by omega), g 32 15 (by omega), g 38 _ (by omega)]
  rcases t46 q hc hr hcl hm hst with ⟨t0, v, h1, X1, D1, D9, e, hv, q9, q9i, w39, w16⟩ | u | u | u | u
  · exact Or.inl (St.ofC I R la lb rfl rfl (et.symm.trans t0) e hv q9 q9i (fun i => by have := g9 i; rw [w39, g 39 i (by omega)]; omega) (by rw [w16, g 32 16 (by omega)]; omega) trivial)
  · exact Or.inr (Or.inl (St.ofE I R g9 gd la lb rfl rfl g ⟨q, gs.rf⟩ u et))
  · exact Or.inr (Or.inr (Or.inl (St.ofE I R g9 gd la lb rfl rfl g ⟨q, gs.rf⟩ u et)))
  · exact Or.inr (Or.inr (Or.inr (Or.inl (St.ofE I R g9 gd la lb rfl rfl g ⟨q, gs.rf⟩ u et))))
  · exact Or.inr (Or.inr (Or.inr (Or.inr (St.ofE I R g9 gd la lb rfl rfl g ⟨q, gs.rf⟩ u et))))
theorem St.x47 {x : Int} (p : St L xs c n G H) (hc : c < 600) (hr : iR x) : sC L xs c n 47 2 [.ref 3, .int (Int32.ofInt x)] H (qEv G x) (fun _ _ => True) ∨ sE L xs c n G 47 2 [.ref 3, .int (Int32.ofInt x)] H (qEv G x) 1 2 := by
  obtain ⟨I, h, X, D, a, b, R, q, g, g9, gd, la, lb⟩ := p
  have et : qEv D x = qEv G x := qEv_c g.ce
  rcases t47 q hc hr with ⟨t0, v, h1, X1, D1, D9, e, hv, q9, q9i, w39, w16⟩ | u
  · exact Or.inl (St.ofC I R la lb rfl rfl (et.symm.trans t0) e hv q9 q9i (fun i => by have := g9 i; rw [w39, g 39 i (by omega)]; omega) (by rw [w16, g 32 16 (by omega)]; omega) trivial)
  · exact Or.inr (St.ofE I R g9 gd la lb rfl rfl g ⟨q, gs.rf⟩ u et)
theorem St.x48 {x t : Int} (p : St L xs c n G H) (hc : c < 600) (hr : iR x) (ht : iR t) : sC L xs c n 48 4 [.ref 3, .int (Int32.ofInt x), .int (Int32.ofInt t)] H (qMv G x t) (fun _ _ => True) ∨ sE L xs c n G 48 4 [.ref 3, .int (Int32.ofInt x), .int (Int32.ofInt t)] H (qMv G x t) 1 2 := by
  obtain ⟨I, h, X, D, a, b, R, q, g, g9, gd, la, lb⟩ := p
  have et : qMv D x t = qMv G x t := by
    unfold qMv
    rw [g 32 15 (by omega)]
  rcases t48 q hc hr ht with ⟨t0, v, h1, X1, D1, D9, e, hv, q9, q9i, w39, w16⟩ | u
  · exact Or.inl (St.ofC I R la lb rfl rfl (et.symm.trans t0) e hv q9 q9i (fun i => by have := g9 i; rw [w39, g 39 i (by omega)]; omega) (by rw [w16, g 32 16 (by omega)]; omega) trivial)
  · exact Or.inr (St.ofE I R g9 gd la lb rfl rfl g ⟨q, gs.rf⟩ u et)
theorem St.x49 {x s : Int} (p : St L xs c n G H) (hc : c < 600) (hr : iR x) (hl : iR s) : sC L xs c n 49 5 [.ref 3, .int (Int32.ofInt x), .int (Int32.ofInt s)] H (mSoT G x s) (fun _ _ => True) ∨ sE L xs c n G 49 5 [.ref 3, .int (Int32.ofInt x), .int (Int32.ofInt s)] H (mSoT G x s) 1 2 ∨ sE L xs c n G 49 5 [.ref 3, .int (Int32.ofInt x), .int (Int32.ofInt s)] H (mSoT G x s) 2 0 := by
  obtain ⟨I, h, X, D, a, b, R, q, g, g9, gd, la, lb⟩ := p
  have et : mSoT D x s = mSoT G x s := by
    unfold mSoT
    rw [g 32 15 (by omega)]
  rcases t49 q hc hr hl with ⟨t0, v, h1, X1, D1, D9, e, hv, q9, q9i, w39, w16⟩ | u | u
  · exact Or.inl (St.ofC I R la lb rfl rfl (et.symm.trans t0) e hv q9 q9i (fun i => by have := g9 i; rw [w39, g 39 i (by omega)]; omega) (by rw [w16, g 32 16 (by omega)]; omega) trivial)
  · exact Or.inr (Or.inl (St.ofE I R g9 gd la lb rfl rfl g ⟨q, gs.rf⟩ u et))
  · exact Or.inr (Or.inr (St.ofE I R g9 gd la lb rfl rfl g ⟨q, gs.rf⟩ u et))
theorem St.x50 {x sd o l : Int} (p : St L xs c n G H) (hc : c < 600) (hr : iR x) (hs : 0 ≤ sd ∧ sd ≤ 65535) (ho : iR o) (hl : iR l) : sC L xs c n 50 6 [.ref 3, .int (Int32.ofInt x), .int (Int32.ofInt sd), .int (Int32.ofInt o), .int (Int32.ofInt l)] H (qAt G x sd o l) (fun _ _ => True) ∨ sE L xs c n G 50 6 [.ref 3, .int (Int32.ofInt x), .int (Int32.ofInt sd), .int (Int32.ofInt o), .int (Int32.ofInt l)] H (qAt G x sd o l) 1 2 ∨ sE L xs c n G 50 6 [.ref 3, .int (Int32.ofInt x), .int (Int32.ofInt sd), .int (Int32.ofInt o), .int (Int32.ofInt l)] H (qAt G x sd o l) 2 0 ∨ sE L xs c n G 50 6 [.ref 3, .int (Int32.ofInt x), .int (Int32.ofInt sd), .int (Int32.ofInt o), .int (Int32.ofInt l)] H (qAt G x sd o l) 3 1 := by
  obtain ⟨I, h, X, D, a, b, R, q, g, g9, gd, la, lb⟩ := p
  have et : qAt D x sd o l = qAt G x sd o l := by
    unfold qAt
    rw [g 32 15 (by omega), g 57 _ (by omega)]
  rcases t50 q hc hr hs ho hl with ⟨t0, v, h1, X1, D1, D9, e, hv, q9, q9i, w39, w16⟩ | u | u | u
  · exact Or.inl (St.ofC I R la lb rfl rfl (et.symm.trans t0) e hv q9 q9i (fun i => by have := g9 i; rw [w39, g 39 i (by omega)]; omega) (by rw [w16, g 32 16 (by omega)]; omega) trivial)
  · exact Or.inr (Or.inl (St.ofE I R g9 gd la lb rfl rfl g ⟨q, gs.rf⟩ u et))
  · exact Or.inr (Or.inr (Or.inl (St.ofE I R g9 gd la lb rfl rfl g ⟨q, gs.rf⟩ u et)))
  · exact Or.inr (Or.inr (Or.inr (St.ofE I R g9 gd la lb rfl rfl g ⟨q, gs.rf⟩ u et)))
theorem St.x71 (p : St L xs c n G H) (hc : c < 600) : sC L xs c n 71 1 [.ref 3] H ((if G 32 16 = 999 then (1 : Int) else 0)) (fun G1 v => G1 32 30 = ((lyF G).2.1.length : Int) ∧ v = G1 32 30 ∧ G1 32 16 = G 32 16 + 1 ∧ G1 32 31 = 1) ∨ sE L xs c n G 71 1 [.ref 3] H ((if G 32 16 = 999 then (1 : Int) else 0)) 1 1 := by
  obtain ⟨I, h, X, D, a, b, R, q, g, g9, gd, la, lb⟩ := p
  have et : (if D 32 16 = 999 then (1 : Int) else 0) = (if G 32 16 = 999 then (1 : Int) else 0) := by rw [g 32 16 (by omega)]
  rcases s71 q hc with ⟨t0, v, h1, X1, D1, D9, e, hv, q9, q9i, w1, w2, w3, w4, w39⟩ | u
  · exact Or.inl (St.ofC I R la lb rfl rfl (et.symm.trans t0) e hv q9 q9i (fun i => by have := g9 i; have := airS_b (lyF_ok q.1.1).1 (i := i) _ (Nat.le_refl _); have := lnS_t (lyF_ok q.1.1).1; rw [w39, g 39 i (by omega)]; omega) (by rw [w3, g 32 16 (by omega)]; omega) ⟨by rw [w1, lyF_cc g.ce], w2, by rw [w3, g 32 16 (by omega)], w4⟩)
  · exact Or.inr (St.ofE I R g9 gd la lb rfl rfl g ⟨q, gs.rf⟩ u et)
theorem St.x76 (p : St L xs c n G H) : (G 32 31 = 1 ∧ ∃ (v : Int) (H1 : zH), (0 ≤ v ∧ v ≤ 3600) ∧ zc 76 1 [.ref 3] H = some (.inl (some (.int (Int32.ofInt v))), H1) ∧ St L xs c (n + 1) G H1) ∨ sE L xs c n G 76 1 [.ref 3] H (G 32 31) 0 4 := by
  obtain ⟨I, h, X, D, a, b, R, q, g, g9, gd, la, lb⟩ := p
  have e31 : D 32 31 = G 32 31 := g 32 31 (by omega)
  obtain ⟨X1, D1, q1, ⟨v, hv, h1, e⟩ | ⟨h0, e⟩⟩ := k761 q
  · obtain ⟨-, H1, e1, p1⟩ := St.ofV (τ := 0) (τ' := 0) I R g9 gd la lb rfl rfl g q1 ⟨rfl, e⟩ rfl rfl
    exact Or.inl ⟨by omega, v, H1, hv, e1, p1⟩
  · exact Or.inr (St.ofE I R g9 gd la lb rfl rfl g q1 ⟨h0, e⟩ e31)
theorem St.x66 (p : St L xs c n G H) : sV L xs c n G 66 1 [.ref 3] H (qMn G) (.int (rMn G).toInt32) ∨ sE L xs c n G 66 1 [.ref 3] H (qMn G) 1 4 := by
  obtain ⟨I, h, X, D, a, b, R, q, g, g9, gd, la, lb⟩ := p
  obtain ⟨X1, D1, q1, v, hv, ev, u⟩ := k66 q
  have ce := (g.tr q1.2).ce
  have et : qMn D1 = qMn G := qMn_c ce
  rcases u with u | u
  · have t0 : qMn D1 = 0 := u.1
    exact Or.inl (St.ofW I R g9 gd la lb rfl rfl g q1 rfl u et (by rw [if_pos t0, ← ev, rMn_c ce]))
  · exact Or.inr (St.ofE I R g9 gd la lb rfl rfl g q1 u et)
theorem St.x70 {gap lev : Int} (p : St L xs c n G H) (hg : iR gap) (hl : iR lev) : (∃ (D1 : zD) (m : Nat), sV L xs c n G 70 3 [.ref 3, .int (Int32.ofInt gap), .int (Int32.ofInt lev)] H (mAsT G gap lev) (.float (fdv D1 m gap lev)) ∧ fiB D1) ∨ sE L xs c n G 70 3 [.ref 3, .int (Int32.ofInt gap), .int (Int32.ofInt lev)] H (mAsT G gap lev) 1 0 ∨ sE L xs c n G 70 3 [.ref 3, .int (Int32.ofInt gap), .int (Int32.ofInt lev)] H (mAsT G gap lev) 2 4 := by
  obtain ⟨I, h, X, D, a, b, R, q, g, g9, gd, la, lb⟩ := p
  obtain ⟨D1, q1, fB, u⟩ := k70 q hg hl
  have et : mAsT D gap lev = mAsT G gap lev := mAsT_c g.ce
  rcases u with u | u | u
  · have t0 : mAsT D gap lev = 0 := u.1
    exact Or.inl ⟨D1, mkB D gap lev, St.ofW I R g9 gd la lb rfl rfl g q1 rfl u et (by rw [if_pos t0]), fB⟩
  · exact Or.inr (Or.inl (St.ofE I R g9 gd la lb rfl rfl g q1 u et))
  · exact Or.inr (Or.inr (St.ofE I R g9 gd la lb rfl rfl g q1 u et))
end STC

/-! calls that change: plays, overruns -/
/-- lists and their arrays stay -/
def obX (h : zH) (X X' : zD) : Prop := ∀ b i, zk h b = 7 ∨ zk h b = 26 → X' b i = X b i
theorem lsO_b {h : zH} {X X' : zD} {a K : Nat} {n : Int} (hl : lsO h X a n K) (he : obX h X X') : lsO h X' a n K ∧ ∀ i : Nat, (i : Int) < n → lsE X' a i = lsE X a i := by
  obtain ⟨⟨h1, h2, h3⟩, h4, h5⟩ := hl
  have ea : ∀ i, X' a i = X a i := fun i => he a i (by omega)
  rcases h4 with h4 | ⟨q1, q2, q3, q4, q5⟩
  · refine ⟨⟨⟨h1, by rw [ea]; exact h2, h3⟩, Or.inl ⟨h4.1, by rw [ea]; exact h4.2⟩, fun i hi => by omega⟩, fun i hi => by omega⟩
  · have ed : ∀ i, X' (X a 1).toNat i = X (X a 1).toNat i := fun i => he _ i (by omega)
    refine ⟨⟨⟨h1, by rw [ea]; exact h2, h3⟩, Or.inr ?_, fun i hi => ?_⟩, fun i hi => ?_⟩
    · rw [ea, ed]
      exact ⟨q1, q2, q3, q4, q5⟩
    · rw [ea, ed]
      exact h5 i hi
    · unfold lsE
      rw [ea, ed]
/-- only clips, and events but for their clips and lists, differ -/
def mX (h : zH) (X X' : zD) : Prop := ∀ b i, zk h b ≠ 0 → (zk h b = 1 → i = 0 ∨ i = 3) → X' b i = X b i
theorem mX.ob {h : zH} {X X' : zD} (q : mX h X X') : obX h X X' := fun b i g => q b i (by omega) (fun _ => by omega)
theorem clO.in {h : zH} {X S : zD} (p : clO h X S) {i j : Nat} (hi : (i : Int) < S 32 7) (hj : (j : Int) < S 32 7) (e : lsE X 4 i = lsE X 4 j) : i = j := by
  have a := (p.2 i hi).1
  have b := (p.2 j hj).1
  rw [e] at a
  omega
theorem evH.x {h : zH} {X X' S : zD} (q : mX h X X') (hS : evS h X S) (p : evH h X S) : evH h X' S := by
  have l5 := (lsO_b hS.1 q.ob).2
  intro e he
  obtain ⟨⟨h1, h2, h3⟩, h4⟩ := p e he
  have hk := (hS.K he).2.2
  have e3 : X' (lsE X 5 e) 3 = X (lsE X 5 e) 3 := q _ _ (by omega) (fun _ => Or.inr rfl)
  obtain ⟨l1, l2⟩ := lsO_b h2 q.ob
  have k7 := h2.1.1
  rw [l5 e he, e3, q _ 100 (by omega) (fun _ => by omega)]
  refine ⟨⟨h1, l1, h3⟩, fun k hk => ?_⟩
  have k3 : zk h (lsE X (X (lsE X 5 e) 3).toNat k) = 3 := (h2.2.2 k hk).2.2
  have e4 : ∀ i, X' (lsE X (X (lsE X 5 e) 3).toNat k) i = X (lsE X (X (lsE X 5 e) 3).toNat k) i := fun i => q _ _ (by omega) (fun _ => by omega)
  rw [l2 k hk, e4, e4, e4]
  exact h4 k hk
theorem clsD_k {D D' : zD} (k : ∀ a i, (33 ≤ a ∧ a ≤ 34) ∨ (36 ≤ a ∧ a ≤ 39) ∨ (a = 32 ∧ (i = 7 ∨ i = 16)) → D' a i = D a i) : clsD D' = clsD D := by
  have fl : ∀ i, zflag D' i = zflag D i := fun i => by
    unfold zflag
    rw [k 38 i (by omega), k 36 i (by omega), k 37 i (by omega), k 32 16 (by omega)]
  have cf : ∀ n c, clsF D' c n = clsF D c n := by
    intro n
    induction n with
    | zero => intro c; rfl
    | succ n ih =>
      intro c
      unfold clsF
      rw [fl, k 33 c (by omega), k 34 c (by omega), ih]
  unfold clsD
  rw [k 32 7 (by omega), cf]
/-- what the reference's answers leave of the rest -/
theorem Inv.mu {c : Nat} {h h' : zH} {X X' D D' : zD} (p : Inv c h X D) (hc : c < 600) (k1 : ∀ a i, a < 32 → ¬ (a = 3 ∧ i = 6) → D' a i = D a i)
    (k2 : ∀ a i, (33 ≤ a ∧ a ≤ 34) ∨ (36 ≤ a ∧ a ≤ 39) ∨ a = 66 ∨ a = 67 ∨ (a = 32 ∧ (i = 7 ∨ i = 8 ∨ i = 16 ∨ i = 30 ∨ i = 31)) → D' a i = D a i)
    (hn : FP.Core.fIsNaN (mLst D') = false) (hE : (0 ≤ D' 32 15 ∧ D' 32 15 ≤ 12) ∧ (∀ e : Nat, (e : Int) < D' 32 15 → (0 ≤ D' 40 e ∧ D' 40 e < D' 32 7) ∧ (0 ≤ D' 42 e ∧ D' 42 e ≤ 900) ∧ (D' 43 e = 102 ∨ D' 43 e = 99 ∨ D' 43 e = 112 ∨ D' 43 e = 106) ∧ (D' 43 e ≠ 102 → 0 ≤ D' 41 e ∧ D' 41 e ≤ 3599)))
    (hH : mHg D') (h43 : m43 D') (h35 : ∀ i, -(12 * ((c : Int) + 1)) ≤ D' 35 i ∧ D' 35 i ≤ 99 + 99 * ((c : Int) + 1)) (hC : clO h' X' D') (hS : evS h' X' D') (hV : evH h' X' D') (hL : D' 3 6 = 0 ∨ (D' 3 6 = 1 ∧ laO X' D'))
    (hp : (70 ≤ zn h' ∧ zk h' 1 = 31 ∧ zl h' 1 = 0) ∧ (zuc h' ≤ zuc h + 10 ∧ zus h' ≤ zus h + 100)) : Inv (c + 1) h' X' D' := by
  obtain ⟨⟨p1, p2, p3, p4, p5⟩, -, ⟨d1, d2⟩, ⟨f1, f2, f3⟩, l, ⟨r1, ⟨r2, r3⟩, r4⟩⟩ := p
  have ek := clsD_k (D := D) (D' := D') (fun a i q => k2 a i (by omega))
  have h7 := k2 32 7 (by omega)
  have h16 := k2 32 16 (by omega)
  have cn : ∀ n, cn38 D' n = cn38 D n := by
    intro n
    induction n with
    | zero => rfl
    | succ n ih =>
      unfold cn38
      rw [ih, k2 38 n (by omega)]
  have hC' : mCl D' := by
    obtain ⟨m1, m2, m3⟩ := p1.1
    refine ⟨by rw [h7]; exact m1, by rw [h16]; exact m2, fun i hi => ?_⟩
    rw [h7] at hi
    rw [k2 33 i (by omega), k2 34 i (by omega), k2 36 i (by omega), k2 37 i (by omega), k2 38 i (by omega)]
    exact m3 i hi
  have enu : nuC D' (D' 32 16) 0 (D' 32 7).toNat = nuC D (D 32 16) 0 (D 32 7).toNat := by
    rw [h7, h16]
    exact nuC_c (fun i => ⟨k2 38 i (by omega), k2 36 i (by omega), k2 37 i (by omega)⟩) _ _
  refine ⟨⟨⟨hC', ⟨hE.1, hE.2, fun i => by have := h35 i; omega, by rw [ek]; exact p1.2.1.2.2.2⟩, hn, ?_, ?_, ?_⟩, hH, h43, ?_, fun i => ⟨by have := h35 i; omega, by rw [k2 38 i (by omega)]; exact (p5 i).2⟩⟩, ⟨hC, hS, hV⟩, ⟨?_, ?_⟩, ⟨?_, ?_, ?_⟩, hL, hp.1, ⟨?_, ?_⟩, by omega⟩
  · rw [k2 32 8 (by omega)]; exact p1.2.2.2.1
  · rw [k2 32 30 (by omega)]; exact p1.2.2.2.2.1
  · rw [k2 32 31 (by omega)]; exact p1.2.2.2.2.2
  · rw [k2 32 8 (by omega), h7, cn]; exact p4
  · exact ⟨by rw [k1 3 5 (by omega) (by omega), h16]; exact d1.1, fun i hi => by rw [k2 39 i (by omega)]; exact d1.2 i (by rw [← h7]; exact hi)⟩
  · unfold lgO
    rw [k1 3 7 (by omega) (by omega), k2 32 31 (by omega), k2 32 30 (by omega), k1 10 3 (by omega) (by omega)]
    refine ⟨d2.1, d2.2.imp id fun ⟨a, lg, ⟨m1, m2, m3, m4, m5⟩, b, t⟩ => ⟨a, lg, ⟨m1, m2, by rw [k2 32 30 (by omega)]; exact m3, fun k hk => ?_, m5⟩, b, tRp_c (fun k _ => ⟨k1 _ _ (by omega) (by omega), k1 _ _ (by omega) (by omega), k1 _ _ (by omega) (by omega)⟩) t⟩⟩
    rw [k2 66 k (by omega), k2 67 k (by omega)]
    exact m4 k hk
  · obtain ⟨⟨b1, b2⟩, g2, g3, g4⟩ := f1
    have e3 := k1 14 3 (by omega) (by omega)
    have e5 := k1 14 5 (by omega) (by omega)
    refine ⟨⟨by rw [e3]; exact b1, fun i hi => ?_⟩, ?_, by rw [e5]; exact g3, fun w => ?_⟩
    · rw [k1 15 i (by omega) (by omega), k1 16 i (by omega) (by omega), k1 17 i (by omega) (by omega)]
      exact b2 i (by omega)
    · rw [e3, psF_c (D := D) (D' := D') (fun i => ⟨k1 16 i (by omega) (by omega), k1 17 i (by omega) (by omega)⟩), g2, ek]
    · intro r s hr hs
      rw [k1 _ _ (by omega) (by omega), e3, g4 (by omega) r s hr hs, lnF_c2 _ _ (fun k _ _ => k1 16 k (by omega) (by omega))]
  · intro k hk
    rw [k1 14 3 (by omega) (by omega)] at hk
    rw [k1 16 k (by omega) (by omega), k1 17 k (by omega) (by omega), k1 15 k (by omega) (by omega), k2 33 _ (by omega), k2 34 _ (by omega)]
    exact f2 k hk
  · unfold fiP3
    rw [enu, k1 14 3 (by omega) (by omega)]
    refine ⟨f3.1, fun k hk => ?_⟩
    rw [k1 15 k (by omega) (by omega)]
    exact f3.2 k hk
  · omega
  · omega
theorem mApT_v {D : zD} {x pl : Int} : mApT D x pl = 0 ∨ mApT D x pl = 1 ∨ mApT D x pl = 2 ∨ mApT D x pl = 3 := by
  unfold mApT
  split
  · split
    · omega
    · split <;> omega
  · omega
set_option maxRecDepth 20000 in
theorem s45 {x pl : Int} {c : Nat} {h : zH} {X D : zD} (p : Inv c h X D) (hc : c < 600) (hr : iR x) (hl : iR pl) : (mApT D x pl = 0 ∧ ∃ (v : Int) (h1 : zH) (X1 D1 D9 : zD), (zc 45 4 [.ref 3, .int (Int32.ofInt x), .int (Int32.ofInt pl)] (zV (zU h X) D)) = some (.inl (some (.int (Int32.ofInt v))), zV (zU h1 X1) D1) ∧ (-(12 * (c : Int)) ≤ v ∧ v ≤ 100000) ∧ (∀ a i, a < 32 → D9 a i = D1 a i) ∧ Inv (c + 1) h1 X1 D9 ∧ ∀ i, D9 39 i = D 39 i) ∨ cE (zc 45 4 [.ref 3, .int (Int32.ofInt x), .int (Int32.ofInt pl)] (zV (zU h X) D)) (mApT D x pl) 1 2 h X D ∨ cE (zc 45 4 [.ref 3, .int (Int32.ofInt x), .int (Int32.ofInt pl)] (zV (zU h X) D)) (mApT D x pl) 2 3 h X D ∨ cE (zc 45 4 [.ref 3, .int (Int32.ofInt x), .int (Int32.ofInt pl)] (zV (zU h X) D)) (mApT D x pl) 3 0 h X D := by
  by_cases g0 : mApT D x pl = 0
  · have hx : (0 ≤ x ∧ x ≤ D 32 7 - 1) ∧ D 38 x.toNat ≠ 1 ∧ (1 ≤ pl ∧ pl ≤ 99) := by
      unfold mApT at g0
      by_cases g : 0 ≤ x ∧ x ≤ D 32 7 - 1
      · rw [if_pos g] at g0
        by_cases g1 : D 38 x.toNat = 1
        · rw [if_pos g1] at g0
          omega
        · rw [if_neg g1] at g0
          by_cases g2 : 1 ≤ pl ∧ pl ≤ 99
          · exact ⟨g, g1, g2⟩
          · rw [if_neg g2] at g0
            omega
      · rw [if_neg g] at g0
        omega
    obtain ⟨hx, h38, hpl⟩ := hx
    have e86 : zc 86 3 [.ref 3, .int (Int32.ofInt x)] (zV (zU h X) D) = some (.inl (some (.ref (lsE X 4 x.toNat))), zV (zU h X) D) := by
      rcases c86 p hr with ⟨-, e⟩ | ⟨e, -⟩ | ⟨e, -⟩
      · exact e
      · unfold mPlT at e
        rw [if_pos hx, if_neg h38] at e
        omega
      · unfold mPlT at e
        rw [if_pos hx, if_neg h38] at e
        omega
    have hO := p.2.1.1
    obtain ⟨k1, k2, k3⟩ := hO.K (e := x.toNat) (by omega)
    have y6 := (hO.2 x.toNat (by omega)).2.2.2.2.2.2.1
    have b35 := (p.1.2.2.2.2 x.toNat).1
    have hcc := p.2.2.2.2.2.2.2
    have e45 : cV (zc 45 4 [.ref 3, .int (Int32.ofInt x), .int (Int32.ofInt pl)] (zV (zU h X) D)) 0 (D 35 x.toNat + pl) h (zwr X (lsE X 4 x.toNat) 6 (D 35 x.toNat + pl)) (zwr D 3 6 0) := by
      refine ⟨rfl, ?_⟩
      rw [zc]
      clear p hO
      generalize lsE X 4 x.toNat = a at *
      simp (disch := first | omega | (simp (disch := omega) only [zwr_s, zwr_a, zwr_i, zn_put, zn_new, zn_fil, zn_chg, zV_n]; omega)) only [zentry, zs0, zs1, zs2, zs3, zg_lo, zg_st, zg_st2, zg_ald, zg_ast, zs_ia, zs_i0, zcs, zg_ii, zi_max, zi_min, zi_abi, zi_abf, zi_fb, zi_bf, lget, lst, lst2, lc2, Option.map_some, zso, if_true, if_false, zc1, and_true, true_and, and_self, List.length_nil, List.length_cons, Nat.zero_le, reduceIte, reduceCtorEq, false_and, and_false, Bool.false_eq_true, zca_some, zr0, zr100, Option.bind_some, zb_none, zb_some, zrc, or_true, true_or, eq_self, ne_eq, not_true_eq_false, not_false_eq_true, zrt_i, zrt_zb, zrt_b, zrt_c, zrt_l, zrt_f, zrt_r, zrt_n, zrt_v, zft_0, zft_1, zft_zb, zft_3, zft_4, zft_5, zft_7r, zft_7n, iI_t, zb_i, zb_0, zb_1, Nat.reduceAdd, Nat.reduceLeDiff, Nat.reduceEqDiff, Nat.reduceSub, Int.reduceNeg, iI_add, iI_sub, iI_mul, iI_neg, iI_n, zbz, zchar_id, zin, zwr_s, zwr_a, zwr_i, if_pos, if_neg, Int.toNat_natCast, Int.natCast_zero, Int.reduceToNat, z45, zc3, zuC k1 k3, e86, y6, zt2]
    have d : ∀ a i, a ≠ 3 → a ≠ 68 → zwr (zwr D 3 6 0) 68 0 (D 35 x.toNat + pl) a i = D a i := fun a i q1 q2 => by rw [zwr_a q2, zwr_a q1]
    have em := m112 (c := x) (p := pl) (h := zU h (zwr X (lsE X 4 x.toNat) 6 (D 35 x.toNat + pl))) (D := zwr (zwr D 3 6 0) 68 0 (D 35 x.toNat + pl)) hr hl (by rw [d 32 7 (by omega) (by omega)]; exact p.1.1.1.1) (fun i => by rw [d 38 i (by omega) (by omega)]; exact (p.1.2.2.2.2 i).2)
    have g1 : mApT (zwr (zwr D 3 6 0) 68 0 (D 35 x.toNat + pl)) x pl = 0 := by
      unfold mApT
      rw [d 32 7 (by omega) (by omega), d 38 _ (by omega) (by omega)]
      exact g0
    unfold mAp at em
    rw [if_pos g1, if_pos g1, d 35 _ (by omega) (by omega)] at em
    have dd : ∀ a i, a ≠ 3 → a ≠ 68 → ¬ (a = 32 ∧ i = 32) → ¬ (a = 35 ∧ i = x.toNat) → zwr (zwr (zwr (zwr D 3 6 0) 68 0 (D 35 x.toNat + pl)) 32 32 0) 35 x.toNat (D 35 x.toNat + pl) a i = D a i := fun a i q1 q2 q3 q4 => by rw [zwr_e, if_neg q4, zwr_e, if_neg q3]; exact d a i q1 q2
    have d35 : ∀ i, zwr (zwr (zwr (zwr D 3 6 0) 68 0 (D 35 x.toNat + pl)) 32 32 0) 35 x.toNat (D 35 x.toNat + pl) 35 i = if i = x.toNat then D 35 x.toNat + pl else D 35 i := fun i => by
      by_cases g : i = x.toNat
      · rw [if_pos g, g, zwr_s]
      · rw [if_neg g]
        exact dd 35 i (by omega) (by omega) (by omega) (by omega)
    have d3 : ∀ i, i ≠ 6 → zwr (zwr (zwr (zwr D 3 6 0) 68 0 (D 35 x.toNat + pl)) 32 32 0) 35 x.toNat (D 35 x.toNat + pl) 3 i = D 3 i := fun i q => by rw [zwr_a (by omega), zwr_a (by omega), zwr_a (by omega), zwr_i q]
    have d36 : zwr (zwr (zwr (zwr D 3 6 0) 68 0 (D 35 x.toNat + pl)) 32 32 0) 35 x.toNat (D 35 x.toNat + pl) 3 6 = 0 := by rw [zwr_a (by omega), zwr_a (by omega), zwr_a (by omega), zwr_s]
    have d68 : zwr (zwr (zwr (zwr D 3 6 0) 68 0 (D 35 x.toNat + pl)) 32 32 0) 35 x.toNat (D 35 x.toNat + pl) 68 0 = D 35 x.toNat + pl := by rw [zwr_a (by omega), zwr_a (by omega), zwr_s]
    have d32 : zwr (zwr (zwr (zwr D 3 6 0) 68 0 (D 35 x.toNat + pl)) 32 32 0) 35 x.toNat (D 35 x.toNat + pl) 32 32 = 0 := by rw [zwr_a (by omega), zwr_s]
    generalize zwr (zwr (zwr (zwr D 3 6 0) 68 0 (D 35 x.toNat + pl)) 32 32 0) 35 x.toNat (D 35 x.toNat + pl) = D9 at *
    have mx : mX h X (zwr X (lsE X 4 x.toNat) 6 (D 35 x.toNat + pl)) := fun b i q1 _ => zwr_a (fun w => q1 (by rw [w]; exact k3))
    obtain ⟨l41, l42⟩ := lsO_b hO.1 mx.ob
    obtain ⟨l51, l52⟩ := lsO_b p.2.1.2.1.1 mx.ob
    have f7 := dd 32 7 (by omega) (by omega) (by omega) (by omega)
    have f15 := dd 32 15 (by omega) (by omega) (by omega) (by omega)
    have h15 := p.1.1.2.1
    have h15b := h15.1
    refine Or.inl ⟨g0, D 35 x.toNat + pl, h, _, _, D9, e45.2, ⟨by omega, by omega⟩, fun a i w => ?_, ?_, fun i => dd 39 i (by omega) (by omega) (by omega) (by omega)⟩
    · by_cases w1 : a = 3
      · subst w1
        by_cases w2 : i = 6
        · rw [w2, d36, zwr_s]
        · rw [d3 i w2, zwr_i w2]
      · rw [dd a i w1 (by omega) (by omega) (by omega), zwr_a w1]
    refine p.mu hc (fun a i q1 q2 => ?_) (fun a i q => dd a i (by omega) (by omega) (by omega) (by omega)) ?_ ⟨by rw [f15]; exact h15.1, fun e he => ?_⟩ (fun e he => ?_) (fun i => ?_) (fun i => ?_) ⟨by rw [f7]; exact l41, fun i hi => ?_⟩ ⟨by rw [f15]; exact l51, fun i j hi hj => ?_, fun e he => ?_⟩ ?_ (Or.inl d36) ⟨p.2.2.2.2.2.1, by omega, by omega⟩
    · by_cases g3 : a = 3
      · subst g3
        exact d3 i (by omega)
      · exact dd a i g3 (by omega) (by omega) (by omega)
    · unfold mLst
      rw [dd 32 27 (by omega) (by omega) (by omega) (by omega)]
      exact p.1.1.2.2.1
    · rw [f15] at he
      rw [dd 40 e (by omega) (by omega) (by omega) (by omega), dd 41 e (by omega) (by omega) (by omega) (by omega), dd 42 e (by omega) (by omega) (by omega) (by omega), dd 43 e (by omega) (by omega) (by omega) (by omega), f7]
      exact h15.2.1 e he
    · rw [f15] at he
      have q := p.1.2.1 e he
      have r : ∀ i, D9 (45 + e) i = D (45 + e) i := fun i => dd _ _ (by omega) (by omega) (by omega) (by omega)
      rw [dd 57 e (by omega) (by omega) (by omega) (by omega)]
      refine ⟨q.1, fun k hk => ?_⟩
      rw [r, r, r]
      exact q.2 k hk
    · rw [dd 43 i (by omega) (by omega) (by omega) (by omega)]
      exact p.1.2.2.1 i
    · have := (p.1.2.2.2.2 i).1
      rw [d35]
      split <;> omega
    · rw [f7] at hi
      rw [l42 i hi, d35, dd 38 i (by omega) (by omega) (by omega) (by omega), dd 33 i (by omega) (by omega) (by omega) (by omega), dd 34 i (by omega) (by omega) (by omega) (by omega), dd 36 i (by omega) (by omega) (by omega) (by omega), dd 37 i (by omega) (by omega) (by omega) (by omega), dd 39 i (by omega) (by omega) (by omega) (by omega)]
      have y := hO.2 i hi
      by_cases g : i = x.toNat
      · subst g
        rw [zwr_i (by omega), zwr_i (by omega), zwr_i (by omega), zwr_i (by omega), zwr_i (by omega), zwr_i (by omega), zwr_s, zwr_i (by omega), if_pos rfl]
        exact ⟨y.1, y.2.1, y.2.2.1, y.2.2.2.1, y.2.2.2.2.1, y.2.2.2.2.2.1, rfl, y.2.2.2.2.2.2.2⟩
      · have hne : lsE X 4 i ≠ lsE X 4 x.toNat := fun w => g (hO.in hi (by omega) w)
        rw [zwr_a hne, zwr_a hne, zwr_a hne, zwr_a hne, zwr_a hne, zwr_a hne, zwr_a hne, zwr_a hne, if_neg g]
        exact y
    · rw [f15] at hi hj
      rw [l52 i hi, l52 j hj]
      exact p.2.1.2.1.2.1 i j hi hj
    · rw [f15] at he
      have hk := (p.2.1.2.1.K he).2.2
      have hne : lsE X 5 e ≠ lsE X 4 x.toNat := fun w => by rw [w] at hk; omega
      have hv := p.vE e he
      rw [l52 e he, zwr_a hne, zwr_a hne, zwr_a hne, zwr_a hne, dd 40 e (by omega) (by omega) (by omega) (by omega), dd 41 e (by omega) (by omega) (by omega) (by omega), dd 42 e (by omega) (by omega) (by omega) (by omega), dd 43 e (by omega) (by omega) (by omega) (by omega), l42 _ (by omega)]
      exact p.2.1.2.1.2.2 e he
    · have v := p.2.1.2.2.x mx p.2.1.2.1
      intro e he
      rw [f15] at he
      have r : ∀ i, D9 (45 + e) i = D (45 + e) i := fun i => dd _ _ (by omega) (by omega) (by omega) (by omega)
      rw [dd 57 e (by omega) (by omega) (by omega) (by omega)]
      refine ⟨(v e he).1, fun k hk => ?_⟩
      rw [r, r, r]
      exact (v e he).2 k hk
  · have hw : cE (zc 45 4 [.ref 3, .int (Int32.ofInt x), .int (Int32.ofInt pl)] (zV (zU h X) D)) (mApT D x pl) 1 2 h X D ∨ cE (zc 45 4 [.ref 3, .int (Int32.ofInt x), .int (Int32.ofInt pl)] (zV (zU h X) D)) (mApT D x pl) 2 3 h X D ∨ cE (zc 45 4 [.ref 3, .int (Int32.ofInt x), .int (Int32.ofInt pl)] (zV (zU h X) D)) (mApT D x pl) 3 0 h X D := by
      rcases c86 p hr with ⟨e0, e⟩ | ⟨e0, e⟩ | ⟨e0, e⟩
      · refine Or.inr (Or.inr ?_)
        have h2 : mApT D x pl = 3 ∧ ¬ (1 ≤ pl ∧ pl ≤ 99) := by
          unfold mPlT at e0
          unfold mApT at g0 ⊢
          by_cases g : 0 ≤ x ∧ x ≤ D 32 7 - 1
          · rw [if_pos g] at e0 g0 ⊢
            by_cases g1 : D 38 x.toNat = 1
            · rw [if_pos g1] at e0
              omega
            · rw [if_neg g1] at g0 ⊢
              by_cases g2 : 1 ≤ pl ∧ pl ≤ 99
              · rw [if_pos g2] at g0
                omega
              · rw [if_neg g2]
                exact ⟨rfl, g2⟩
          · rw [if_neg g] at e0
            omega
        refine ⟨h2.1, ?_⟩
        have h2 := h2.2
        rw [zc]
        clear p g0
        generalize lsE X 4 x.toNat = a at *
        by_cases g3 : pl < 1
        · simp (disch := first | omega | (simp (disch := omega) only [zwr_s, zwr_a, zwr_i, zn_put, zn_new, zn_fil, zn_chg, zV_n]; omega)) only [zentry, zs0, zs1, zs2, zs3, zg_lo, zg_st, zg_st2, zg_ald, zg_ast, zs_ia, zs_i0, zcs, zg_ii, zi_max, zi_min, zi_abi, zi_abf, zi_fb, zi_bf, lget, lst, lst2, lc2, Option.map_some, zso, if_true, if_false, zc1, and_true, true_and, and_self, List.length_nil, List.length_cons, Nat.zero_le, reduceIte, reduceCtorEq, false_and, and_false, Bool.false_eq_true, zca_some, zr0, zr100, Option.bind_some, zb_none, zb_some, zrc, or_true, true_or, eq_self, ne_eq, not_true_eq_false, not_false_eq_true, zrt_i, zrt_zb, zrt_b, zrt_c, zrt_l, zrt_f, zrt_r, zrt_n, zrt_v, zft_0, zft_1, zft_zb, zft_3, zft_4, zft_5, zft_7r, zft_7n, iI_t, zb_i, zb_0, zb_1, Nat.reduceAdd, Nat.reduceLeDiff, Nat.reduceEqDiff, Nat.reduceSub, Int.reduceNeg, iI_add, iI_sub, iI_mul, iI_neg, iI_n, zbz, zchar_id, zin, zwr_s, zwr_a, zwr_i, if_pos, if_neg, Int.toNat_natCast, Int.natCast_zero, Int.reduceToNat, z45, zc3, e, zt2, zgX]
        · simp (disch := first | omega | (simp (disch := omega) only [zwr_s, zwr_a, zwr_i, zn_put, zn_new, zn_fil, zn_chg, zV_n]; omega)) only [zentry, zs0, zs1, zs2, zs3, zg_lo, zg_st, zg_st2, zg_ald, zg_ast, zs_ia, zs_i0, zcs, zg_ii, zi_max, zi_min, zi_abi, zi_abf, zi_fb, zi_bf, lget, lst, lst2, lc2, Option.map_some, zso, if_true, if_false, zc1, and_true, true_and, and_self, List.length_nil, List.length_cons, Nat.zero_le, reduceIte, reduceCtorEq, false_and, and_false, Bool.false_eq_true, zca_some, zr0, zr100, Option.bind_some, zb_none, zb_some, zrc, or_true, true_or, eq_self, ne_eq, not_true_eq_false, not_false_eq_true, zrt_i, zrt_zb, zrt_b, zrt_c, zrt_l, zrt_f, zrt_r, zrt_n, zrt_v, zft_0, zft_1, zft_zb, zft_3, zft_4, zft_5, zft_7r, zft_7n, iI_t, zb_i, zb_0, zb_1, Nat.reduceAdd, Nat.reduceLeDiff, Nat.reduceEqDiff, Nat.reduceSub, Int.reduceNeg, iI_add, iI_sub, iI_mul, iI_neg, iI_n, zbz, zchar_id, zin, zwr_s, zwr_a, zwr_i, if_pos, if_neg, Int.toNat_natCast, Int.natCast_zero, Int.reduceToNat, z45, zc3, e, zt2, zgX]
      · refine Or.inl ⟨?_, ?_⟩
        · unfold mPlT at e0
          unfold mApT
          by_cases g : 0 ≤ x ∧ x ≤ D 32 7 - 1
          · rw [if_pos g] at e0
            split at e0 <;> omega
          · rw [if_neg g]
        · rw [zc]
          clear p g0
          simp (disch := first | omega | (simp (disch := omega) only [zwr_s, zwr_a, zwr_i, zn_put, zn_new, zn_fil, zn_chg, zV_n]; omega)) only [zentry, zs0, zs1, zs2, zs3, zg_lo, zg_st, zg_st2, zg_ald, zg_ast, zs_ia, zs_i0, zcs, zg_ii, zi_max, zi_min, zi_abi, zi_abf, zi_fb, zi_bf, lget, lst, lst2, lc2, Option.map_some, zso, if_true, if_false, zc1, and_true, true_and, and_self, List.length_nil, List.length_cons, Nat.zero_le, reduceIte, reduceCtorEq, false_and, and_false, Bool.false_eq_true, zca_some, zr0, zr100, Option.bind_some, zb_none, zb_some, zrc, or_true, true_or, eq_self, ne_eq, not_true_eq_false, not_false_eq_true, zrt_i, zrt_zb, zrt_b, zrt_c, zrt_l, zrt_f, zrt_r, zrt_n, zrt_v, zft_0, zft_1, zft_zb, zft_3, zft_4, zft_5, zft_7r, zft_7n, iI_t, zb_i, zb_0, zb_1, Nat.reduceAdd, Nat.reduceLeDiff, Nat.reduceEqDiff, Nat.reduceSub, Int.reduceNeg, iI_add, iI_sub, iI_mul, iI_neg, iI_n, zbz, zchar_id, zin, zwr_s, zwr_a, zwr_i, if_pos, if_neg, Int.toNat_natCast, Int.natCast_zero, Int.reduceToNat, z45, zc3, e, zb_x, zt2]
      · refine Or.inr (Or.inl ⟨?_, ?_⟩)
        · unfold mPlT at e0
          unfold mApT
          by_cases g : 0 ≤ x ∧ x ≤ D 32 7 - 1
          · rw [if_pos g] at e0 ⊢
            by_cases g1 : D 38 x.toNat = 1
            · rw [if_pos g1]
            · rw [if_neg g1] at e0
              omega
          · rw [if_neg g] at e0
            omega
        · rw [zc]
          clear p g0
          simp (disch := first | omega | (simp (disch := omega) only [zwr_s, zwr_a, zwr_i, zn_put, zn_new, zn_fil, zn_chg, zV_n]; omega)) only [zentry, zs0, zs1, zs2, zs3, zg_lo, zg_st, zg_st2, zg_ald, zg_ast, zs_ia, zs_i0, zcs, zg_ii, zi_max, zi_min, zi_abi, zi_abf, zi_fb, zi_bf, lget, lst, lst2, lc2, Option.map_some, zso, if_true, if_false, zc1, and_true, true_and, and_self, List.length_nil, List.length_cons, Nat.zero_le, reduceIte, reduceCtorEq, false_and, and_false, Bool.false_eq_true, zca_some, zr0, zr100, Option.bind_some, zb_none, zb_some, zrc, or_true, true_or, eq_self, ne_eq, not_true_eq_false, not_false_eq_true, zrt_i, zrt_zb, zrt_b, zrt_c, zrt_l, zrt_f, zrt_r, zrt_n, zrt_v, zft_0, zft_1, zft_zb, zft_3, zft_4, zft_5, zft_7r, zft_7n, iI_t, zb_i, zb_0, zb_1, Nat.reduceAdd, Nat.reduceLeDiff, Nat.reduceEqDiff, Nat.reduceSub, Int.reduceNeg, iI_add, iI_sub, iI_mul, iI_neg, iI_n, zbz, zchar_id, zin, zwr_s, zwr_a, zwr_i, if_pos, if_neg, Int.toNat_natCast, Int.natCast_zero, Int.reduceToNat, z45, zc3, e, zb_x, zt2]
    have bt := mApT_v (D := D) (x := x) (pl := pl)
    exact Or.inr hw

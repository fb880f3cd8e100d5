/-! programmes and pieces added -/
theorem mApgT_v {D : zD} {len lev pl fi la : Int} : mApgT D len lev pl fi la = 0 ∨ mApgT D len lev pl fi la = 1 ∨ mApgT D len lev pl fi la = 2 := by
  unfold mApgT
  split
  · split <;> omega
  · omega
theorem mApcT_v {D : zD} {len lev fi la : Int} : mApcT D len lev fi la = 0 ∨ mApcT D len lev fi la = 1 ∨ mApcT D len lev fi la = 2 := by
  unfold mApcT
  split
  · split <;> omega
  · omega
theorem mAdds_v {D : zD} {len lev pl fi la pc : Int} : ∀ a i, mAdds D len lev pl fi la pc a i = if a = 32 ∧ i = 7 then D 32 7 + 1 else if a = 32 ∧ i = 8 then D 32 8 + pc else if a = 38 ∧ i = (D 32 7).toNat then pc else if a = 37 ∧ i = (D 32 7).toNat then la else if a = 36 ∧ i = (D 32 7).toNat then fi else if a = 35 ∧ i = (D 32 7).toNat then pl else if a = 34 ∧ i = (D 32 7).toNat then lev else if a = 33 ∧ i = (D 32 7).toNat then len else D a i := fun a i => by
  unfold mAdds
  rw [zwr_e, zwr_e, zwr_e, zwr_e, zwr_e, zwr_e, zwr_e, zwr_e]
set_option maxRecDepth 20000 in
theorem s42 {len lev pl fi la : Int} {c : Nat} {h : zH} {X D : zD} (p : Inv c h X D) (hc : c < 600) (r1 : iR len) (r2 : iR lev) (r3 : iR pl) (r4 : iR fi) (r5 : iR la) : (mApgT D len lev pl fi la = 0 ∧ ∃ (v : Int) (h1 : zH) (X1 D1 D9 : zD), (zc 42 7 [.ref 3, .int (Int32.ofInt len), .int (Int32.ofInt lev), .int (Int32.ofInt pl), .int (Int32.ofInt fi), .int (Int32.ofInt la)] (zV (zU h X) D)) = some (.inl (some (.int (Int32.ofInt v))), zV (zU h1 X1) D1) ∧ (-(12 * (c : Int)) ≤ v ∧ v ≤ 100000) ∧ (∀ a i, a < 32 → D9 a i = D1 a i) ∧ Inv (c + 1) h1 X1 D9 ∧ ∀ i, D9 39 i = D 39 i) ∨ cE (zc 42 7 [.ref 3, .int (Int32.ofInt len), .int (Int32.ofInt lev), .int (Int32.ofInt pl), .int (Int32.ofInt fi), .int (Int32.ofInt la)] (zV (zU h X) D)) (mApgT D len lev pl fi la) 1 0 h X D ∨ cE (zc 42 7 [.ref 3, .int (Int32.ofInt len), .int (Int32.ofInt lev), .int (Int32.ofInt pl), .int (Int32.ofInt fi), .int (Int32.ofInt la)] (zV (zU h X) D)) (mApgT D len lev pl fi la) 2 1 h X D := by
  have h7 := p.1.1.1.1
  have hO := p.2.1.1
  have h0 := hO.1.1
  have h8 := p.1.1.2.2.2.1
  by_cases g0 : mApgT D len lev pl fi la = 0
  · obtain ⟨hb, hpl, hn⟩ : ((1 ≤ len ∧ len ≤ 900) ∧ (-60 ≤ lev ∧ lev ≤ 0) ∧ (0 ≤ fi ∧ fi ≤ 999) ∧ (fi ≤ la ∧ la ≤ 999)) ∧ (0 ≤ pl ∧ pl ≤ 99) ∧ D 32 7 < 12 := by
      unfold mApgT at g0
      by_cases g : ((1 ≤ len ∧ len ≤ 900) ∧ (-60 ≤ lev ∧ lev ≤ 0) ∧ (0 ≤ fi ∧ fi ≤ 999) ∧ (fi ≤ la ∧ la ≤ 999)) ∧ (0 ≤ pl ∧ pl ≤ 99)
      · rw [if_pos g] at g0
        by_cases g2 : D 32 7 = 12
        · rw [if_pos g2] at g0
          omega
        · exact ⟨g.1, g.2, by omega⟩
      · rw [if_neg g] at g0
        omega
    obtain ⟨h2, X2, e0, e165, nw, sh, ob, A2, A3, hv⟩ := clN (len := len) (lev := lev) (pl := pl) (fi := fi) (la := la) (pc := 0) p hn (Or.inl rfl)
    have e0 := e0 D
    have e78 := c78_t (h := zV (zU h X) D) hb
    have e79 := c79_t (h := h) (X := X) (D := D) h0.1 (by omega) (by omega)
    have e175 := c175 (h := h) (X := X) (D := D) (a := 4) (by omega) h0.1
    rw [h0.2.1] at e175
    have k41 : zk (znew h 0 8 (fun i => zdef (zty 0 i))) 4 = 7 := by
      have := p.2.2.2.2.2.1.1
      rw [zk_new, if_neg (by omega)]
      exact h0.1
    have e42 : cV (zc 42 7 [.ref 3, .int (Int32.ofInt len), .int (Int32.ofInt lev), .int (Int32.ofInt pl), .int (Int32.ofInt fi), .int (Int32.ofInt la)] (zV (zU h X) D)) 0 (D 32 7) h2 X2 D := by
      refine ⟨rfl, ?_⟩
      rw [zc]
      clear p hO sh ob A2 A3 hv
      generalize hh1 : znew h 0 8 (fun i => zdef (zty 0 i)) = h1 at *
      generalize clI (zrw X (zn h) (dz 0)) (zn h) (D 32 7) 0 len lev pl fi la = X1 at *
      simp (disch := first | omega | (simp (disch := omega) only [zwr_s, zwr_a, zwr_i, zn_put, zn_new, zn_fil, zn_chg, zV_n]; omega)) only [zentry, zs0, zs1, zs2, zs3, zg_lo, zg_st, zg_st2, zg_ald, zg_ast, zs_ia, zs_i0, zcs, zg_ii, zi_max, zi_min, zi_abi, zi_abf, zi_fb, zi_bf, lget, lst, lst2, lc2, Option.map_some, zso, if_true, if_false, zc1, and_true, true_and, and_self, List.length_nil, List.length_cons, Nat.zero_le, reduceIte, reduceCtorEq, false_and, and_false, Bool.false_eq_true, zca_some, zr0, zr100, Option.bind_some, zb_none, zb_some, zrc, or_true, true_or, eq_self, ne_eq, not_true_eq_false, not_false_eq_true, zrt_i, zrt_zb, zrt_b, zrt_c, zrt_l, zrt_f, zrt_r, zrt_n, zrt_v, zft_0, zft_1, zft_zb, zft_3, zft_4, zft_5, zft_7r, zft_7n, iI_t, zb_i, zb_0, zb_1, Nat.reduceAdd, Nat.reduceLeDiff, Nat.reduceEqDiff, Nat.reduceSub, Int.reduceNeg, iI_add, iI_sub, iI_mul, iI_neg, iI_n, zbz, zchar_id, zin, zwr_s, zwr_a, zwr_i, if_pos, if_neg, Int.toNat_natCast, Int.natCast_zero, Int.reduceToNat, z42, zc3, zuL (a := 4) (Or.inl rfl) h0.1, e78, e79, e175, nw, zW_n, hh1, e0, e165, k41, zt1, zt2, zt4, zt8, zW_k]
    have d : ∀ a i, a ≠ 68 → zwr D 68 0 (D 32 7) a i = D a i := fun a i q2 => zwr_a q2
    have em := m108 (len := len) (lev := lev) (p := pl) (fi := fi) (la := la) (h := zU h2 X2) (D := zwr D 68 0 (D 32 7)) r1 r2 r3 r4 r5 (by rw [d 32 7 (by omega)]; exact h7) (by rw [d 32 8 (by omega)]; exact h8)
    have g1 : mApgT (zwr D 68 0 (D 32 7)) len lev pl fi la = 0 := by
      unfold mApgT
      rw [d 32 7 (by omega)]
      exact g0
    unfold mApg at em
    rw [if_pos g1, if_pos g1, d 32 7 (by omega)] at em
    have eD : ∀ a i, mAdds (zwr (zwr D 68 0 (D 32 7)) 32 32 0) len lev pl fi la 0 a i = if a = 32 ∧ i = 7 then D 32 7 + 1 else if a = 32 ∧ i = 8 then D 32 8 + 0 else if a = 38 ∧ i = (D 32 7).toNat then 0 else if a = 37 ∧ i = (D 32 7).toNat then la else if a = 36 ∧ i = (D 32 7).toNat then fi else if a = 35 ∧ i = (D 32 7).toNat then pl else if a = 34 ∧ i = (D 32 7).toNat then lev else if a = 33 ∧ i = (D 32 7).toNat then len else zwr (zwr D 68 0 (D 32 7)) 32 32 0 a i := fun a i => by
      rw [mAdds_v]
      have e1 : zwr (zwr D 68 0 (D 32 7)) 32 32 0 32 7 = D 32 7 := by rw [zwr_i (by omega), d 32 7 (by omega)]
      have e2 : zwr (zwr D 68 0 (D 32 7)) 32 32 0 32 8 = D 32 8 := by rw [zwr_i (by omega), d 32 8 (by omega)]
      rw [e1, e2]
    generalize mAdds (zwr (zwr D 68 0 (D 32 7)) 32 32 0) len lev pl fi la 0 = D9 at *
    have o : ∀ a i, ¬ (a = 32 ∧ (i = 7 ∨ i = 8 ∨ i = 32)) → ¬ (33 ≤ a ∧ a ≤ 38 ∧ i = (D 32 7).toNat) → a ≠ 68 → D9 a i = D a i := fun a i q1 q2 q3 => by
      rw [eD, if_neg (by omega), if_neg (by omega), if_neg (by omega), if_neg (by omega), if_neg (by omega), if_neg (by omega), if_neg (by omega), if_neg (by omega), zwr_e, if_neg (by omega), d a i q3]
    have f7 : D9 32 7 = D 32 7 + 1 := by rw [eD, if_pos ⟨rfl, rfl⟩]
    have f38 : D9 38 (D 32 7).toNat = 0 := by rw [eD, if_neg (by omega), if_neg (by omega), if_pos ⟨rfl, rfl⟩]
    have le : lEq D D9 := ⟨⟨o 32 15 (by omega) (by omega) (by omega), o 32 16 (by omega) (by omega) (by omega)⟩, fun e he => ⟨o _ _ (by omega) (by omega) (by omega), o _ _ (by omega) (by omega) (by omega), o _ _ (by omega) (by omega) (by omega), o _ _ (by omega) (by omega) (by omega)⟩, fun i hi => ⟨o _ _ (by omega) (by omega) (by omega), o _ _ (by omega) (by omega) (by omega), o _ _ (by omega) (by omega) (by omega), o _ _ (by omega) (by omega) (by omega), o _ _ (by omega) (by omega) (by omega), o _ _ (by omega) (by omega) (by omega)⟩, Or.inr ⟨f7, f38⟩⟩
    have f32 : D9 32 32 = 0 := by rw [eD, if_neg (by omega), if_neg (by omega), if_neg (by omega), if_neg (by omega), if_neg (by omega), if_neg (by omega), if_neg (by omega), if_neg (by omega), zwr_s]
    have f68 : D9 68 0 = D 32 7 := by rw [eD, if_neg (by omega), if_neg (by omega), if_neg (by omega), if_neg (by omega), if_neg (by omega), if_neg (by omega), if_neg (by omega), if_neg (by omega), zwr_a (by omega), zwr_s]
    refine Or.inl ⟨g0, D 32 7, h2, _, _, D9, e42.2, ⟨by omega, by omega⟩, fun a i w => o a i (by omega) (by omega) (by omega), ?_, fun i => o 39 i (by omega) (by omega) (by omega)⟩
    have hfi := p.2.2.2.1
    have enu : nuC D9 (D9 32 16) 0 (D9 32 7).toNat = nuC D (D 32 16) 0 (D 32 7).toNat := by
      rw [f7, o 32 16 (by omega) (by omega) (by omega), show (D 32 7 + 1).toNat = (D 32 7).toNat + 1 by omega]
      have step : ∀ n c, c + n = (D 32 7).toNat → nuC D9 (D 32 16) c (n + 1) = nuC D (D 32 16) c n := by
        intro n
        induction n with
        | zero =>
          intro c hc
          have hc : c = (D 32 7).toNat := by omega
          show (if D9 38 c = 1 ∧ D9 36 c ≤ D 32 16 ∧ D 32 16 ≤ D9 37 c then c :: nuC D9 (D 32 16) (c + 1) 0 else nuC D9 (D 32 16) (c + 1) 0) = []
          rw [hc, f38, if_neg (by omega)]
          rfl
        | succ n ih =>
          intro c hc
          rw [nuC, ih (c + 1) (by omega), nuC, o 38 c (by omega) (by omega) (by omega), o 36 c (by omega) (by omega) (by omega), o 37 c (by omega) (by omega) (by omega)]
      exact step _ 0 (by omega)
    have hmem : ∀ k : Nat, (k : Int) < D 14 3 → 0 ≤ D 15 k ∧ D 15 k < D 32 7 := fun k hk => by
      obtain ⟨n3, n15⟩ := hfi.2.2
      have hk' : k < (nuC D (D 32 16) 0 (D 32 7).toNat).length := by omega
      rw [n15 k hk', List.getD_eq_getElem?_getD, List.getElem?_eq_getElem hk']
      have := nuC_m (D := D) (d := D 32 16) _ _ _ (List.getElem_mem hk')
      show 0 ≤ (((nuC D (D 32 16) 0 (D 32 7).toNat)[k] : Nat) : Int) ∧ (((nuC D (D 32 16) 0 (D 32 7).toNat)[k] : Nat) : Int) < D 32 7
      omega
    refine p.ac hc hn (Or.inl rfl) hb hpl (fun a i q1 q2 => o a i (by omega) (by omega) (by omega)) (fun a i q => o a i (by omega) (by omega) (by omega)) (fun a i q1 q2 q3 => o a i (by omega) (by omega) (by omega)) ?_ ?_ ?_ ?_ ?_ f38 f7 ?_ sh (by omega) ob A2 A3 hv ⟨?_, ?_, ?_⟩ ?_
    · rw [eD, if_neg (by omega), if_neg (by omega), if_neg (by omega), if_neg (by omega), if_neg (by omega), if_neg (by omega), if_neg (by omega), if_pos ⟨rfl, rfl⟩]
    · rw [eD, if_neg (by omega), if_neg (by omega), if_neg (by omega), if_neg (by omega), if_neg (by omega), if_neg (by omega), if_pos ⟨rfl, rfl⟩]
    · rw [eD, if_neg (by omega), if_neg (by omega), if_neg (by omega), if_neg (by omega), if_neg (by omega), if_pos ⟨rfl, rfl⟩]
    · rw [eD, if_neg (by omega), if_neg (by omega), if_neg (by omega), if_neg (by omega), if_pos ⟨rfl, rfl⟩]
    · rw [eD, if_neg (by omega), if_neg (by omega), if_neg (by omega), if_pos ⟨rfl, rfl⟩]
    · rw [eD, if_neg (by omega), if_pos ⟨rfl, rfl⟩]
    · obtain ⟨⟨b1, b2⟩, f2, f3, f4⟩ := hfi.1
      have e3 := o 14 3 (by omega) (by omega) (by omega)
      have e5 := o 14 5 (by omega) (by omega) (by omega)
      have epc : pcs (clsD D9) = pcs (clsD D) := by
        rcases cls_g le p.1.1.1 with ⟨q, -⟩ | ⟨⟨l, v, q⟩, -⟩
        · rw [q]
        · rw [q, pcs_a]
      refine ⟨⟨by rw [e3]; exact b1, fun i hi => ?_⟩, ?_, by rw [e5]; exact f3, fun w => ?_⟩
      · rw [o 15 i (by omega) (by omega) (by omega), o 16 i (by omega) (by omega) (by omega), o 17 i (by omega) (by omega) (by omega)]
        exact b2 i (by omega)
      · rw [e3, psF_c (D := D) (D' := D9) (fun i => ⟨o 16 i (by omega) (by omega) (by omega), o 17 i (by omega) (by omega) (by omega)⟩), f2, epc]
      · intro r s hr hs
        rw [o _ _ (by omega) (by omega) (by omega), e3, f4 (by omega) r s hr hs, lnF_c2 _ _ (fun k _ _ => o 16 k (by omega) (by omega) (by omega))]
    · intro k hk
      rw [o 14 3 (by omega) (by omega) (by omega)] at hk
      have hm := hmem k hk
      rw [o 16 k (by omega) (by omega) (by omega), o 17 k (by omega) (by omega) (by omega), o 15 k (by omega) (by omega) (by omega), o 33 _ (by omega) (by omega) (by omega), o 34 _ (by omega) (by omega) (by omega)]
      exact hfi.2.1 k hk
    · unfold fiP3
      rw [enu, o 14 3 (by omega) (by omega) (by omega)]
      refine ⟨hfi.2.2.1, fun k hk => ?_⟩
      rw [o 15 k (by omega) (by omega) (by omega)]
      exact hfi.2.2.2 k hk
    · rcases p.2.2.2.2.1 with L | ⟨L1, L2⟩
      · exact Or.inl (by rw [o 3 6 (by omega) (by omega) (by omega)]; exact L)
      · refine Or.inr ⟨by rw [o 3 6 (by omega) (by omega) (by omega)]; exact L1, ?_⟩
        have f15 := o 32 15 (by omega) (by omega) (by omega)
        have hS := p.2.1.2.1
        have hz := p.2.2.2.2.2.1
        obtain ⟨l51, l52⟩ := lsO_k sh hz.2.1 hO.1 hS.1 (by omega) (by omega) ob
        have hLa : zk h (X 4 1).toNat = 31 ∨ zk h (X 4 1).toNat = 26 := by
          rcases hO.1.2.1 with ⟨-, g4⟩ | ⟨w1, w2, w3, w4, w5⟩
          · left
            rw [g4]
            exact hz.2.1
          · exact Or.inr w2
        have hX : ∀ n : Nat, (n : Int) < D 32 15 → ∀ m, X2 (lsE X 5 n) m = X (lsE X 5 n) m := fun n hn m => by
          obtain ⟨z1, z2, z3⟩ := hS.K hn
          exact ob _ m z2 (by omega) (fun w => by rw [← w] at hLa; omega)
        unfold laO
        rw [lyF_g le p.1.1.1 p.1.1.2.1 p.1.1.2.2.1, o 6 3 (by omega) (by omega) (by omega), f15]
        refine ⟨L2.1, tRp_c (fun k _ => ⟨o _ _ (by omega) (by omega) (by omega), o _ _ (by omega) (by omega) (by omega), o _ _ (by omega) (by omega) (by omega)⟩) L2.2.1, fun n hn => ?_⟩
        obtain ⟨u1, u2, u3⟩ := L2.2.2 n hn
        rw [l52 n hn, hX n hn, hX n hn]
        exact ⟨evR_c u1 (hX n hn _) (hX n hn _) (hX n hn _) (fun _ => rfl), u2, u3⟩
  · have bt := mApgT_v (D := D) (len := len) (lev := lev) (pl := pl) (fi := fi) (la := la)
    have hw : cE (zc 42 7 [.ref 3, .int (Int32.ofInt len), .int (Int32.ofInt lev), .int (Int32.ofInt pl), .int (Int32.ofInt fi), .int (Int32.ofInt la)] (zV (zU h X) D)) (mApgT D len lev pl fi la) 1 0 h X D ∨ cE (zc 42 7 [.ref 3, .int (Int32.ofInt len), .int (Int32.ofInt lev), .int (Int32.ofInt pl), .int (Int32.ofInt fi), .int (Int32.ofInt la)] (zV (zU h X) D)) (mApgT D len lev pl fi la) 2 1 h X D := by
      unfold mApgT at g0 ⊢
      by_cases g : ((1 ≤ len ∧ len ≤ 900) ∧ (-60 ≤ lev ∧ lev ≤ 0) ∧ (0 ≤ fi ∧ fi ≤ 999) ∧ (fi ≤ la ∧ la ≤ 999)) ∧ (0 ≤ pl ∧ pl ≤ 99)
      · rw [if_pos g] at g0 ⊢
        by_cases g2 : D 32 7 = 12
        · rw [if_pos g2]
          refine Or.inr ⟨rfl, ?_⟩
          obtain ⟨g1, g3⟩ := g
          have e78 := c78_t (h := zV (zU h X) D) g1
          have e79 := c79_f (h := h) (X := X) (D := D) h0.1 (by omega)
          rw [zc]
          clear p hO g1
          simp (disch := first | omega | (simp (disch := omega) only [zwr_s, zwr_a, zwr_i, zn_put, zn_new, zn_fil, zn_chg, zV_n]; omega)) only [zentry, zs0, zs1, zs2, zs3, zg_lo, zg_st, zg_st2, zg_ald, zg_ast, zs_ia, zs_i0, zcs, zg_ii, zi_max, zi_min, zi_abi, zi_abf, zi_fb, zi_bf, lget, lst, lst2, lc2, Option.map_some, zso, if_true, if_false, zc1, and_true, true_and, and_self, List.length_nil, List.length_cons, Nat.zero_le, reduceIte, reduceCtorEq, false_and, and_false, Bool.false_eq_true, zca_some, zr0, zr100, Option.bind_some, zb_none, zb_some, zrc, or_true, true_or, eq_self, ne_eq, not_true_eq_false, not_false_eq_true, zrt_i, zrt_zb, zrt_b, zrt_c, zrt_l, zrt_f, zrt_r, zrt_n, zrt_v, zft_0, zft_1, zft_zb, zft_3, zft_4, zft_5, zft_7r, zft_7n, iI_t, zb_i, zb_0, zb_1, Nat.reduceAdd, Nat.reduceLeDiff, Nat.reduceEqDiff, Nat.reduceSub, Int.reduceNeg, iI_add, iI_sub, iI_mul, iI_neg, iI_n, zbz, zchar_id, zin, zwr_s, zwr_a, zwr_i, if_pos, if_neg, Int.toNat_natCast, Int.natCast_zero, Int.reduceToNat, z42, zc3, e78, e79, zb_x, zt1, zt4]
        · rw [if_neg g2] at g0
          omega
      · rw [if_neg g]
        refine Or.inl ⟨rfl, ?_⟩
        by_cases g1 : (1 ≤ len ∧ len ≤ 900) ∧ (-60 ≤ lev ∧ lev ≤ 0) ∧ (0 ≤ fi ∧ fi ≤ 999) ∧ (fi ≤ la ∧ la ≤ 999)
        · have g3 : ¬ (0 ≤ pl ∧ pl ≤ 99) := fun q => g ⟨g1, q⟩
          have e78 := c78_t (h := zV (zU h X) D) g1
          rw [zc]
          clear p hO g1 g
          by_cases g4 : pl < 0
          · simp (disch := first | omega | (simp (disch := omega) only [zwr_s, zwr_a, zwr_i, zn_put, zn_new, zn_fil, zn_chg, zV_n]; omega)) only [zentry, zs0, zs1, zs2, zs3, zg_lo, zg_st, zg_st2, zg_ald, zg_ast, zs_ia, zs_i0, zcs, zg_ii, zi_max, zi_min, zi_abi, zi_abf, zi_fb, zi_bf, lget, lst, lst2, lc2, Option.map_some, zso, if_true, if_false, zc1, and_true, true_and, and_self, List.length_nil, List.length_cons, Nat.zero_le, reduceIte, reduceCtorEq, false_and, and_false, Bool.false_eq_true, zca_some, zr0, zr100, Option.bind_some, zb_none, zb_some, zrc, or_true, true_or, eq_self, ne_eq, not_true_eq_false, not_false_eq_true, zrt_i, zrt_zb, zrt_b, zrt_c, zrt_l, zrt_f, zrt_r, zrt_n, zrt_v, zft_0, zft_1, zft_zb, zft_3, zft_4, zft_5, zft_7r, zft_7n, iI_t, zb_i, zb_0, zb_1, Nat.reduceAdd, Nat.reduceLeDiff, Nat.reduceEqDiff, Nat.reduceSub, Int.reduceNeg, iI_add, iI_sub, iI_mul, iI_neg, iI_n, zbz, zchar_id, zin, zwr_s, zwr_a, zwr_i, if_pos, if_neg, Int.toNat_natCast, Int.natCast_zero, Int.reduceToNat, z42, zc3, e78, zt1, zt4, zgX]
          · simp (disch := first | omega | (simp (disch := omega) only [zwr_s, zwr_a, zwr_i, zn_put, zn_new, zn_fil, zn_chg, zV_n]; omega)) only [zentry, zs0, zs1, zs2, zs3, zg_lo, zg_st, zg_st2, zg_ald, zg_ast, zs_ia, zs_i0, zcs, zg_ii, zi_max, zi_min, zi_abi, zi_abf, zi_fb, zi_bf, lget, lst, lst2, lc2, Option.map_some, zso, if_true, if_false, zc1, and_true, true_and, and_self, List.length_nil, List.length_cons, Nat.zero_le, reduceIte, reduceCtorEq, false_and, and_false, Bool.false_eq_true, zca_some, zr0, zr100, Option.bind_some, zb_none, zb_some, zrc, or_true, true_or, eq_self, ne_eq, not_true_eq_false, not_false_eq_true, zrt_i, zrt_zb, zrt_b, zrt_c, zrt_l, zrt_f, zrt_r, zrt_n, zrt_v, zft_0, zft_1, zft_zb, zft_3, zft_4, zft_5, zft_7r, zft_7n, iI_t, zb_i, zb_0, zb_1, Nat.reduceAdd, Nat.reduceLeDiff, Nat.reduceEqDiff, Nat.reduceSub, Int.reduceNeg, iI_add, iI_sub, iI_mul, iI_neg, iI_n, zbz, zchar_id, zin, zwr_s, zwr_a, zwr_i, if_pos, if_neg, Int.toNat_natCast, Int.natCast_zero, Int.reduceToNat, z42, zc3, e78, zt1, zt4, zgX]
        · have e78 := c78_f (h := h) (X := X) (D := D) r1 r2 r4 r5 g1
          rw [zc]
          clear p hO g1 g
          simp (disch := first | omega | (simp (disch := omega) only [zwr_s, zwr_a, zwr_i, zn_put, zn_new, zn_fil, zn_chg, zV_n]; omega)) only [zentry, zs0, zs1, zs2, zs3, zg_lo, zg_st, zg_st2, zg_ald, zg_ast, zs_ia, zs_i0, zcs, zg_ii, zi_max, zi_min, zi_abi, zi_abf, zi_fb, zi_bf, lget, lst, lst2, lc2, Option.map_some, zso, if_true, if_false, zc1, and_true, true_and, and_self, List.length_nil, List.length_cons, Nat.zero_le, reduceIte, reduceCtorEq, false_and, and_false, Bool.false_eq_true, zca_some, zr0, zr100, Option.bind_some, zb_none, zb_some, zrc, or_true, true_or, eq_self, ne_eq, not_true_eq_false, not_false_eq_true, zrt_i, zrt_zb, zrt_b, zrt_c, zrt_l, zrt_f, zrt_r, zrt_n, zrt_v, zft_0, zft_1, zft_zb, zft_3, zft_4, zft_5, zft_7r, zft_7n, iI_t, zb_i, zb_0, zb_1, Nat.reduceAdd, Nat.reduceLeDiff, Nat.reduceEqDiff, Nat.reduceSub, Int.reduceNeg, iI_add, iI_sub, iI_mul, iI_neg, iI_n, zbz, zchar_id, zin, zwr_s, zwr_a, zwr_i, if_pos, if_neg, Int.toNat_natCast, Int.natCast_zero, Int.reduceToNat, z42, zc3, e78, zb_x, zt1, zt4]
    exact Or.inr hw
set_option maxRecDepth 20000 in
theorem s43 {len lev fi la : Int} {c : Nat} {h : zH} {X D : zD} (p : Inv c h X D) (hc : c < 600) (r1 : iR len) (r2 : iR lev) (r4 : iR fi) (r5 : iR la) : (mApcT D len lev fi la = 0 ∧ ∃ (v : Int) (h1 : zH) (X1 D1 D9 : zD), (zc 43 6 [.ref 3, .int (Int32.ofInt len), .int (Int32.ofInt lev), .int (Int32.ofInt fi), .int (Int32.ofInt la)] (zV (zU h X) D)) = some (.inl (some (.int (Int32.ofInt v))), zV (zU h1 X1) D1) ∧ (-(12 * (c : Int)) ≤ v ∧ v ≤ 100000) ∧ (∀ a i, a < 32 → D9 a i = D1 a i) ∧ Inv (c + 1) h1 X1 D9 ∧ ∀ i, D9 39 i = D 39 i) ∨ cE (zc 43 6 [.ref 3, .int (Int32.ofInt len), .int (Int32.ofInt lev), .int (Int32.ofInt fi), .int (Int32.ofInt la)] (zV (zU h X) D)) (mApcT D len lev fi la) 1 0 h X D ∨ cE (zc 43 6 [.ref 3, .int (Int32.ofInt len), .int (Int32.ofInt lev), .int (Int32.ofInt fi), .int (Int32.ofInt la)] (zV (zU h X) D)) (mApcT D len lev fi la) 2 1 h X D := by
  have h7 := p.1.1.1.1
  have hO := p.2.1.1
  have h0 := hO.1.1
  have h8 := p.1.1.2.2.2.1
  by_cases g0 : mApcT D len lev fi la = 0
  · obtain ⟨hb, hn, hp8⟩ : ((1 ≤ len ∧ len ≤ 900) ∧ (-60 ≤ lev ∧ lev ≤ 0) ∧ (0 ≤ fi ∧ fi ≤ 999) ∧ (fi ≤ la ∧ la ≤ 999)) ∧ D 32 7 < 12 ∧ D 32 8 < 8 := by
      unfold mApcT at g0
      by_cases g : (1 ≤ len ∧ len ≤ 900) ∧ (-60 ≤ lev ∧ lev ≤ 0) ∧ (0 ≤ fi ∧ fi ≤ 999) ∧ (fi ≤ la ∧ la ≤ 999)
      · rw [if_pos g] at g0
        by_cases g2 : D 32 7 = 12 ∨ D 32 8 = 8
        · rw [if_pos g2] at g0
          omega
        · exact ⟨g, by omega, by omega⟩
      · rw [if_neg g] at g0
        omega
    obtain ⟨h2, X2, e0, e165, nw, sh, ob, A2, A3, hv⟩ := clN (len := len) (lev := lev) (pl := 0) (fi := fi) (la := la) (pc := 1) p hn (Or.inr rfl)
    have e0 := e0 D
    have e78 := c78_t (h := zV (zU h X) D) hb
    have e79 := c79_t (h := h) (X := X) (D := D) h0.1 (by omega) (by omega)
    have e90 := c90 p
    have e175 := c175 (h := h) (X := X) (D := D) (a := 4) (by omega) h0.1
    rw [h0.2.1] at e175
    have k41 : zk (znew h 0 8 (fun i => zdef (zty 0 i))) 4 = 7 := by
      have := p.2.2.2.2.2.1.1
      rw [zk_new, if_neg (by omega)]
      exact h0.1
    -- the pieces anew
    have vS := mAdds_v (D := D) (len := len) (lev := lev) (pl := 0) (fi := fi) (la := la) (pc := 1)
    have hfi := p.2.2.2.1
    have hd16 := p.1.1.1.2.1
    have hd5 := p.2.2.1.1.1
    generalize mAdds D len lev 0 fi la 1 = S at *
    have oS : ∀ a i, ¬ (a = 32 ∧ (i = 7 ∨ i = 8)) → ¬ (33 ≤ a ∧ a ≤ 38 ∧ i = (D 32 7).toNat) → S a i = D a i := fun a i q1 q2 => by
      rw [vS, if_neg (by omega), if_neg (by omega), if_neg (by omega), if_neg (by omega), if_neg (by omega), if_neg (by omega), if_neg (by omega), if_neg (by omega)]
    have s7 : S 32 7 = D 32 7 + 1 := by rw [vS, if_pos ⟨rfl, rfl⟩]
    have s8 : S 32 8 = D 32 8 + 1 := by rw [vS, if_neg (by omega), if_pos ⟨rfl, rfl⟩]
    have s38 : S 38 (D 32 7).toNat = 1 := by rw [vS, if_neg (by omega), if_neg (by omega), if_pos ⟨rfl, rfl⟩]
    have s37 : S 37 (D 32 7).toNat = la := by rw [vS, if_neg (by omega), if_neg (by omega), if_neg (by omega), if_pos ⟨rfl, rfl⟩]
    have s36 : S 36 (D 32 7).toNat = fi := by rw [vS, if_neg (by omega), if_neg (by omega), if_neg (by omega), if_neg (by omega), if_pos ⟨rfl, rfl⟩]
    have s35 : S 35 (D 32 7).toNat = 0 := by rw [vS, if_neg (by omega), if_neg (by omega), if_neg (by omega), if_neg (by omega), if_neg (by omega), if_pos ⟨rfl, rfl⟩]
    have s34 : S 34 (D 32 7).toNat = lev := by rw [vS, if_neg (by omega), if_neg (by omega), if_neg (by omega), if_neg (by omega), if_neg (by omega), if_neg (by omega), if_pos ⟨rfl, rfl⟩]
    have s33 : S 33 (D 32 7).toNat = len := by rw [vS, if_neg (by omega), if_neg (by omega), if_neg (by omega), if_neg (by omega), if_neg (by omega), if_neg (by omega), if_neg (by omega), if_pos ⟨rfl, rfl⟩]
    have s16 : S 32 16 = D 32 16 := oS 32 16 (by omega) (by omega)
    have hCS : mCl S := by
      refine ⟨by omega, by omega, fun i hi => ?_⟩
      by_cases g : i = (D 32 7).toNat
      · rw [g, s33, s34, s36, s37, s38]
        exact ⟨by omega, by omega, by omega, by omega, by omega⟩
      · rw [oS 33 i (by omega) (by omega), oS 34 i (by omega) (by omega), oS 36 i (by omega) (by omega), oS 37 i (by omega) (by omega), oS 38 i (by omega) (by omega)]
        exact p.1.1.1.2.2 i (by omega)
    have hz := p.2.2.2.2.2.1
    have hLa : zk h (X 4 1).toNat = 31 ∨ zk h (X 4 1).toNat = 26 := by
      rcases hO.1.2.1 with ⟨-, g4⟩ | ⟨w1, w2, w3, w4, w5⟩
      · left
        rw [g4]
        exact hz.2.1
      · exact Or.inr w2
    have hP : clP h2 X2 S := by
      refine ⟨by rw [s7]; exact A2, fun i hi => ?_⟩
      rw [A3 i (by omega)]
      by_cases g : i = (D 32 7).toNat
      · have g2 : ¬ (i : Int) < D 32 7 := by omega
        rw [if_neg g2, g, s33, s34, s36, s37, s38]
        obtain ⟨y0, y1, y2, y3, y4, y5, -⟩ := hv
        exact ⟨by omega, y1, y2, y3, y4, y5⟩
      · have hi2 : (i : Int) < D 32 7 := by omega
        obtain ⟨a1, a2, a3⟩ := hO.K hi2
        have ea : ∀ m, X2 (lsE X 4 i) m = X (lsE X 4 i) m := fun m => ob _ m a2 (by omega) (fun w => by rw [← w] at hLa; omega)
        rw [if_pos hi2, ea, ea, ea, ea, ea, ea, oS 33 i (by omega) (by omega), oS 34 i (by omega) (by omega), oS 36 i (by omega) (by omega), oS 37 i (by omega) (by omega), oS 38 i (by omega) (by omega)]
        obtain ⟨y0, y1, y2, y3, y4, y5, -⟩ := hO.2 i hi2
        exact ⟨y0, y1, y2, y3, y4, y5⟩
    have hmem : ∀ k : Nat, (k : Int) < D 14 3 → 0 ≤ D 15 k ∧ D 15 k < D 32 7 := fun k hk => by
      obtain ⟨n3, n15⟩ := hfi.2.2
      have hk' : k < (nuC D (D 32 16) 0 (D 32 7).toNat).length := by omega
      rw [n15 k hk', List.getD_eq_getElem?_getD, List.getElem?_eq_getElem hk']
      have := nuC_m (D := D) (d := D 32 16) _ _ _ (List.getElem_mem hk')
      show 0 ≤ (((nuC D (D 32 16) 0 (D 32 7).toNat)[k] : Nat) : Int) ∧ (((nuC D (D 32 16) 0 (D 32 7).toNat)[k] : Nat) : Int) < D 32 7
      omega
    have hNS : fiNuS S D := fun k hk => by
      have hm := hmem k hk
      rw [oS 33 _ (by omega) (by omega), oS 34 _ (by omega) (by omega)]
      exact hfi.2.1 k hk
    have hcnS : cn38 S (S 32 7).toNat = D 32 8 + 1 := by
      have : ∀ n, n ≤ (D 32 7).toNat → cn38 S n = cn38 D n := by
        intro n
        induction n with
        | zero => intro _; rfl
        | succ n ih =>
          intro hn
          unfold cn38
          rw [ih (by omega), oS 38 n (by omega) (by omega)]
      rw [s7, show (D 32 7 + 1).toNat = (D 32 7).toNat + 1 by omega, cn38, this _ (Nat.le_refl _), ← p.1.2.2.2.1, s38, if_pos rfl]
    have h8S : (pcs (clsD S)).length ≤ 8 := by
      have := (pcs_cn (D := S) (S 32 7).toNat).1
      unfold clsD
      omega
    obtain ⟨D', e9, o9, fB, fP, f5, fT, fN, n3, n15⟩ := c9s (d := D 32 16) (E := S) hP hCS hd16 hfi.1.1 hfi.1.2.2.1 hfi.1.2.2.2 hNS (fun _ _ _ => rfl) s16 h8S
    have e43 : cV (zc 43 6 [.ref 3, .int (Int32.ofInt len), .int (Int32.ofInt lev), .int (Int32.ofInt fi), .int (Int32.ofInt la)] (zV (zU h X) D)) 0 (D 32 7) h2 X2 (zwr D' 3 6 0) := by
      refine ⟨rfl, ?_⟩
      rw [zc]
      clear p hO sh ob A2 A3 hv hP hCS hfi hNS fB fP f5 fT fN n3 n15 o9 vS oS hmem hLa h8S hcnS
      generalize hh1 : znew h 0 8 (fun i => zdef (zty 0 i)) = h1 at *
      generalize clI (zrw X (zn h) (dz 0)) (zn h) (D 32 7) 1 len lev 0 fi la = X1 at *
      simp (disch := first | omega | (simp (disch := omega) only [zwr_s, zwr_a, zwr_i, zn_put, zn_new, zn_fil, zn_chg, zV_n]; omega)) only [zentry, zs0, zs1, zs2, zs3, zg_lo, zg_st, zg_st2, zg_ald, zg_ast, zs_ia, zs_i0, zcs, zg_ii, zi_max, zi_min, zi_abi, zi_abf, zi_fb, zi_bf, lget, lst, lst2, lc2, Option.map_some, zso, if_true, if_false, zc1, and_true, true_and, and_self, List.length_nil, List.length_cons, Nat.zero_le, reduceIte, reduceCtorEq, false_and, and_false, Bool.false_eq_true, zca_some, zr0, zr100, Option.bind_some, zb_none, zb_some, zrc, or_true, true_or, eq_self, ne_eq, not_true_eq_false, not_false_eq_true, zrt_i, zrt_zb, zrt_b, zrt_c, zrt_l, zrt_f, zrt_r, zrt_n, zrt_v, zft_0, zft_1, zft_zb, zft_3, zft_4, zft_5, zft_7r, zft_7n, iI_t, zb_i, zb_0, zb_1, Nat.reduceAdd, Nat.reduceLeDiff, Nat.reduceEqDiff, Nat.reduceSub, Int.reduceNeg, iI_add, iI_sub, iI_mul, iI_neg, iI_n, zbz, zchar_id, zin, zwr_s, zwr_a, zwr_i, if_pos, if_neg, Int.toNat_natCast, Int.natCast_zero, Int.reduceToNat, z43, zc3, zc14, zuL (a := 4) (Or.inl rfl) h0.1, e78, e79, e90, e175, nw, zW_n, hh1, e0, e165, e9, hd5, k41, zt1, zt2, zt3, zt4, zt8, zW_k]
    have d : ∀ a i, a < 14 ∨ 18 ≤ a → a ≠ 68 → ¬ (a = 3 ∧ i = 6) → zwr (zwr D' 3 6 0) 68 0 (D 32 7) a i = D a i := fun a i q1 q2 q3 => by
      rw [zwr_a q2, zwr_e, if_neg q3, o9 a i (by omega) (by omega)]
    have em := m109 (len := len) (lev := lev) (fi := fi) (la := la) (h := zU h2 X2) (D := zwr (zwr D' 3 6 0) 68 0 (D 32 7)) r1 r2 r4 r5 (by rw [d 32 7 (by omega) (by omega) (by omega)]; exact h7) (by rw [d 32 8 (by omega) (by omega) (by omega)]; exact h8)
    have g1 : mApcT (zwr (zwr D' 3 6 0) 68 0 (D 32 7)) len lev fi la = 0 := by
      unfold mApcT
      rw [d 32 7 (by omega) (by omega) (by omega), d 32 8 (by omega) (by omega) (by omega)]
      exact g0
    unfold mApc at em
    rw [if_pos g1, if_pos g1, d 32 7 (by omega) (by omega) (by omega)] at em
    have eD : ∀ a i, mAdds (zwr (zwr (zwr D' 3 6 0) 68 0 (D 32 7)) 32 32 0) len lev 0 fi la 1 a i = if a = 32 ∧ i = 7 then D 32 7 + 1 else if a = 32 ∧ i = 8 then D 32 8 + 1 else if a = 38 ∧ i = (D 32 7).toNat then 1 else if a = 37 ∧ i = (D 32 7).toNat then la else if a = 36 ∧ i = (D 32 7).toNat then fi else if a = 35 ∧ i = (D 32 7).toNat then 0 else if a = 34 ∧ i = (D 32 7).toNat then lev else if a = 33 ∧ i = (D 32 7).toNat then len else zwr (zwr (zwr D' 3 6 0) 68 0 (D 32 7)) 32 32 0 a i := fun a i => by
      rw [mAdds_v]
      have e1 : zwr (zwr (zwr D' 3 6 0) 68 0 (D 32 7)) 32 32 0 32 7 = D 32 7 := by rw [zwr_i (by omega), d 32 7 (by omega) (by omega) (by omega)]
      have e2 : zwr (zwr (zwr D' 3 6 0) 68 0 (D 32 7)) 32 32 0 32 8 = D 32 8 := by rw [zwr_i (by omega), d 32 8 (by omega) (by omega) (by omega)]
      rw [e1, e2]
    generalize mAdds (zwr (zwr (zwr D' 3 6 0) 68 0 (D 32 7)) 32 32 0) len lev 0 fi la 1 = D9 at *
    have o : ∀ a i, ¬ (a = 32 ∧ (i = 7 ∨ i = 8 ∨ i = 32)) → ¬ (33 ≤ a ∧ a ≤ 38 ∧ i = (D 32 7).toNat) → D9 a i = zwr (zwr D' 3 6 0) 68 0 (D 32 7) a i := fun a i q1 q2 => by
      rw [eD, if_neg (by omega), if_neg (by omega), if_neg (by omega), if_neg (by omega), if_neg (by omega), if_neg (by omega), if_neg (by omega), if_neg (by omega), zwr_e, if_neg (by omega)]
    have oD : ∀ a i, a < 14 ∨ 18 ≤ a → a ≠ 68 → ¬ (a = 3 ∧ i = 6) → ¬ (a = 32 ∧ (i = 7 ∨ i = 8 ∨ i = 32)) → ¬ (33 ≤ a ∧ a ≤ 38 ∧ i = (D 32 7).toNat) → D9 a i = D a i := fun a i q1 q2 q3 q4 q5 => (o a i q4 q5).trans (d a i q1 q2 q3)
    have oF : ∀ a i, 14 ≤ a → a < 32 → D9 a i = D' a i := fun a i q1 q2 => by rw [o a i (by omega) (by omega), zwr_a (by omega), zwr_a (by omega)]
    have f7 : D9 32 7 = D 32 7 + 1 := by rw [eD, if_pos ⟨rfl, rfl⟩]
    have f38 : D9 38 (D 32 7).toNat = 1 := by rw [eD, if_neg (by omega), if_neg (by omega), if_pos ⟨rfl, rfl⟩]
    have f37 : D9 37 (D 32 7).toNat = la := by rw [eD, if_neg (by omega), if_neg (by omega), if_neg (by omega), if_pos ⟨rfl, rfl⟩]
    have f36 : D9 36 (D 32 7).toNat = fi := by rw [eD, if_neg (by omega), if_neg (by omega), if_neg (by omega), if_neg (by omega), if_pos ⟨rfl, rfl⟩]
    have f35 : D9 35 (D 32 7).toNat = 0 := by rw [eD, if_neg (by omega), if_neg (by omega), if_neg (by omega), if_neg (by omega), if_neg (by omega), if_pos ⟨rfl, rfl⟩]
    have f34 : D9 34 (D 32 7).toNat = lev := by rw [eD, if_neg (by omega), if_neg (by omega), if_neg (by omega), if_neg (by omega), if_neg (by omega), if_neg (by omega), if_pos ⟨rfl, rfl⟩]
    have f33 : D9 33 (D 32 7).toNat = len := by rw [eD, if_neg (by omega), if_neg (by omega), if_neg (by omega), if_neg (by omega), if_neg (by omega), if_neg (by omega), if_neg (by omega), if_pos ⟨rfl, rfl⟩]
    have f8 : D9 32 8 = D 32 8 + 1 := by rw [eD, if_neg (by omega), if_pos ⟨rfl, rfl⟩]
    have f32 : D9 32 32 = 0 := by rw [eD, if_neg (by omega), if_neg (by omega), if_neg (by omega), if_neg (by omega), if_neg (by omega), if_neg (by omega), if_neg (by omega), if_neg (by omega), zwr_s]
    have f68 : D9 68 0 = D 32 7 := by rw [o 68 0 (by omega) (by omega), zwr_s]
    have f36' : D9 3 6 = 0 := by rw [o 3 6 (by omega) (by omega), zwr_a (by omega), zwr_s]
    have sD : ∀ a i, (33 ≤ a ∧ a ≤ 39) ∨ (a = 32 ∧ (i = 7 ∨ i = 16)) → D9 a i = S a i := fun a i q => by
      by_cases q1 : 33 ≤ a ∧ a ≤ 38 ∧ i = (D 32 7).toNat
      · obtain ⟨q2, q3, rfl⟩ := q1
        have : a = 33 ∨ a = 34 ∨ a = 35 ∨ a = 36 ∨ a = 37 ∨ a = 38 := by omega
        rcases this with rfl | rfl | rfl | rfl | rfl | rfl
        · rw [f33, s33]
        · rw [f34, s34]
        · rw [f35, s35]
        · rw [f36, s36]
        · rw [f37, s37]
        · rw [f38, s38]
      · by_cases q2 : a = 32 ∧ i = 7
        · obtain ⟨rfl, rfl⟩ := q2
          rw [f7, s7]
        · rw [oD a i (by omega) (by omega) (by omega) (by omega) q1, oS a i (by omega) q1]
    refine Or.inl ⟨g0, D 32 7, h2, _, _, D9, e43.2, ⟨by omega, by omega⟩, fun a i w => by rw [o a i (by omega) (by omega), zwr_a (by omega)], ?_, fun i => oD 39 i (by omega) (by omega) (by omega) (by omega) (by omega)⟩
    have enu : nuC D9 (D9 32 16) 0 (D9 32 7).toNat = nuC S (D 32 16) 0 (S 32 7).toNat := by
      rw [sD 32 7 (by omega), sD 32 16 (by omega), s16]
      exact nuC_c (fun i => ⟨sD 38 i (by omega), sD 36 i (by omega), sD 37 i (by omega)⟩) _ _
    refine p.ac (pl := 0) hc hn (Or.inr ⟨rfl, hp8⟩) hb (by omega) (fun a i q1 q2 => oD a i (by omega) (by omega) (by omega) (by omega) (by omega)) (fun a i q => oD a i (by omega) (by omega) (by omega) (by omega) (by omega)) (fun a i q1 q2 q3 => oD a i (by omega) (by omega) (by omega) (by omega) (by omega)) f33 f34 f35 f36 f37 f38 f7 f8 sh (by omega) ob A2 A3 hv ⟨?_, ?_, ?_⟩ (Or.inl f36')
    · have e3 := oF 14 3 (by omega) (by omega)
      have e5 := oF 14 5 (by omega) (by omega)
      refine ⟨⟨by rw [e3]; exact fB.1, fun i hi => ?_⟩, ?_, by rw [e5]; exact f5, fun w => ?_⟩
      · rw [oF 15 i (by omega) (by omega), oF 16 i (by omega) (by omega), oF 17 i (by omega) (by omega)]
        exact fB.2 i (by omega)
      · rw [e3, psF_c (D := D') (D' := D9) (fun i => ⟨oF 16 i (by omega) (by omega), oF 17 i (by omega) (by omega)⟩), fP, clsD_k (fun a i q => sD a i (by omega))]
      · intro r s hr hs
        rw [oF _ _ (by omega) (by omega), e3, fT (by omega) r s hr hs, lnF_c2 _ _ (fun k _ _ => oF 16 k (by omega) (by omega))]
    · intro k hk
      rw [oF 14 3 (by omega) (by omega)] at hk
      rw [oF 16 k (by omega) (by omega), oF 17 k (by omega) (by omega), oF 15 k (by omega) (by omega), sD 33 _ (by omega), sD 34 _ (by omega)]
      exact fN k hk
    · unfold fiP3
      rw [enu, oF 14 3 (by omega) (by omega)]
      refine ⟨n3, fun k hk => ?_⟩
      rw [oF 15 k (by omega) (by omega)]
      exact n15 k hk
  · have bt := mApcT_v (D := D) (len := len) (lev := lev) (fi := fi) (la := la)
    have hw : cE (zc 43 6 [.ref 3, .int (Int32.ofInt len), .int (Int32.ofInt lev), .int (Int32.ofInt fi), .int (Int32.ofInt la)] (zV (zU h X) D)) (mApcT D len lev fi la) 1 0 h X D ∨ cE (zc 43 6 [.ref 3, .int (Int32.ofInt len), .int (Int32.ofInt lev), .int (Int32.ofInt fi), .int (Int32.ofInt la)] (zV (zU h X) D)) (mApcT D len lev fi la) 2 1 h X D := by
      unfold mApcT at g0 ⊢
      by_cases g : (1 ≤ len ∧ len ≤ 900) ∧ (-60 ≤ lev ∧ lev ≤ 0) ∧ (0 ≤ fi ∧ fi ≤ 999) ∧ (fi ≤ la ∧ la ≤ 999)
      · rw [if_pos g] at g0 ⊢
        have e78 := c78_t (h := zV (zU h X) D) g
        by_cases g2 : D 32 7 = 12
        · rw [if_pos (Or.inl g2)]
          refine Or.inr ⟨rfl, ?_⟩
          have e79 := c79_f (h := h) (X := X) (D := D) h0.1 (by omega)
          rw [zc]
          clear p hO g
          simp (disch := first | omega | (simp (disch := omega) only [zwr_s, zwr_a, zwr_i, zn_put, zn_new, zn_fil, zn_chg, zV_n]; omega)) only [zentry, zs0, zs1, zs2, zs3, zg_lo, zg_st, zg_st2, zg_ald, zg_ast, zs_ia, zs_i0, zcs, zg_ii, zi_max, zi_min, zi_abi, zi_abf, zi_fb, zi_bf, lget, lst, lst2, lc2, Option.map_some, zso, if_true, if_false, zc1, and_true, true_and, and_self, List.length_nil, List.length_cons, Nat.zero_le, reduceIte, reduceCtorEq, false_and, and_false, Bool.false_eq_true, zca_some, zr0, zr100, Option.bind_some, zb_none, zb_some, zrc, or_true, true_or, eq_self, ne_eq, not_true_eq_false, not_false_eq_true, zrt_i, zrt_zb, zrt_b, zrt_c, zrt_l, zrt_f, zrt_r, zrt_n, zrt_v, zft_0, zft_1, zft_zb, zft_3, zft_4, zft_5, zft_7r, zft_7n, iI_t, zb_i, zb_0, zb_1, Nat.reduceAdd, Nat.reduceLeDiff, Nat.reduceEqDiff, Nat.reduceSub, Int.reduceNeg, iI_add, iI_sub, iI_mul, iI_neg, iI_n, zbz, zchar_id, zin, zwr_s, zwr_a, zwr_i, if_pos, if_neg, Int.toNat_natCast, Int.natCast_zero, Int.reduceToNat, z43, zc3, e78, e79, zb_x, zt1, zt4]
        · by_cases g3 : D 32 8 = 8
          · rw [if_pos (Or.inr g3)]
            refine Or.inr ⟨rfl, ?_⟩
            have e79 := c79_t (h := h) (X := X) (D := D) h0.1 (by omega) (by omega)
            have e90 := c90 p
            rw [zc]
            clear p hO g
            simp (disch := first | omega | (simp (disch := omega) only [zwr_s, zwr_a, zwr_i, zn_put, zn_new, zn_fil, zn_chg, zV_n]; omega)) only [zentry, zs0, zs1, zs2, zs3, zg_lo, zg_st, zg_st2, zg_ald, zg_ast, zs_ia, zs_i0, zcs, zg_ii, zi_max, zi_min, zi_abi, zi_abf, zi_fb, zi_bf, lget, lst, lst2, lc2, Option.map_some, zso, if_true, if_false, zc1, and_true, true_and, and_self, List.length_nil, List.length_cons, Nat.zero_le, reduceIte, reduceCtorEq, false_and, and_false, Bool.false_eq_true, zca_some, zr0, zr100, Option.bind_some, zb_none, zb_some, zrc, or_true, true_or, eq_self, ne_eq, not_true_eq_false, not_false_eq_true, zrt_i, zrt_zb, zrt_b, zrt_c, zrt_l, zrt_f, zrt_r, zrt_n, zrt_v, zft_0, zft_1, zft_zb, zft_3, zft_4, zft_5, zft_7r, zft_7n, iI_t, zb_i, zb_0, zb_1, Nat.reduceAdd, Nat.reduceLeDiff, Nat.reduceEqDiff, Nat.reduceSub, Int.reduceNeg, iI_add, iI_sub, iI_mul, iI_neg, iI_n, zbz, zchar_id, zin, zwr_s, zwr_a, zwr_i, if_pos, if_neg, Int.toNat_natCast, Int.natCast_zero, Int.reduceToNat, z43, zc3, e78, e79, e90, g3, zt1, zt4, zgX]
          · rw [if_neg (fun q => q.elim g2 g3)] at g0
            omega
      · rw [if_neg g]
        refine Or.inl ⟨rfl, ?_⟩
        have e78 := c78_f (h := h) (X := X) (D := D) r1 r2 r4 r5 g
        rw [zc]
        clear p hO g
        simp (disch := first | omega | (simp (disch := omega) only [zwr_s, zwr_a, zwr_i, zn_put, zn_new, zn_fil, zn_chg, zV_n]; omega)) only [zentry, zs0, zs1, zs2, zs3, zg_lo, zg_st, zg_st2, zg_ald, zg_ast, zs_ia, zs_i0, zcs, zg_ii, zi_max, zi_min, zi_abi, zi_abf, zi_fb, zi_bf, lget, lst, lst2, lc2, Option.map_some, zso, if_true, if_false, zc1, and_true, true_and, and_self, List.length_nil, List.length_cons, Nat.zero_le, reduceIte, reduceCtorEq, false_and, and_false, Bool.false_eq_true, zca_some, zr0, zr100, Option.bind_some, zb_none, zb_some, zrc, or_true, true_or, eq_self, ne_eq, not_true_eq_false, not_false_eq_true, zrt_i, zrt_zb, zrt_b, zrt_c, zrt_l, zrt_f, zrt_r, zrt_n, zrt_v, zft_0, zft_1, zft_zb, zft_3, zft_4, zft_5, zft_7r, zft_7n, iI_t, zb_i, zb_0, zb_1, Nat.reduceAdd, Nat.reduceLeDiff, Nat.reduceEqDiff, Nat.reduceSub, Int.reduceNeg, iI_add, iI_sub, iI_mul, iI_neg, iI_n, zbz, zchar_id, zin, zwr_s, zwr_a, zwr_i, if_pos, if_neg, Int.toNat_natCast, Int.natCast_zero, Int.reduceToNat, z43, zc3, e78, zb_x, zt1, zt4]
    exact Or.inr hw

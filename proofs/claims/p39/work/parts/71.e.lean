/-! an event moved -/
theorem zU_x {h h2 : zH} {X : zD} {c s : Nat} (e : zExt (zU h X) h2 c s) (q : nwK (zU h X) h2) : ∃ h3, h2 = zU h3 X ∧ shX h h3 c s := by
  obtain ⟨e1, e2, e3, e4⟩ := e
  refine ⟨(h2.1, h2.2.1, h2.2.2.1, fun a i => if a < zn h then zm h a i else zm h2 a i), ?_, e1, e2, e3, fun a ha => ⟨(e4 a ha).1, (e4 a ha).2.1, ?_⟩⟩
  · refine Prod.ext rfl (Prod.ext rfl (Prod.ext rfl ?_))
    funext a i
    show zm h2 a i = if (a = 4 ∨ a = 5 ∨ 70 ≤ a) ∧ i < 100 ∧ dyk (zk h2 a) = true then zenc (dty (zk h2 a) i) (X a i) else if a < zn h then zm h a i else zm h2 a i
    have hu : ∀ i, zm (zU h X) a i = if (a = 4 ∨ a = 5 ∨ 70 ≤ a) ∧ i < 100 ∧ dyk (zk h a) = true then zenc (dty (zk h a) i) (X a i) else zm h a i := fun i => rfl
    rcases q a with ⟨q1, q2⟩ | q1
    · have q1 : zk h2 a = zk h a := q1
      rw [q1, q2, hu]
      split
      · rfl
      · split <;> rfl
    · have hd : ¬ ((a = 4 ∨ a = 5 ∨ 70 ≤ a) ∧ i < 100 ∧ dyk (zk h2 a) = true) := fun w => by
        have := w.2.2
        rw [q1] at this
        cases this
      rw [if_neg hd]
      by_cases g : a < zn h
      · rw [if_pos g]
        have k : zk h a = 20 := (e4 a g).1.symm.trans q1
        rw [(e4 a g).2.2 i, hu, if_neg]
        rintro ⟨-, -, w⟩
        rw [k] at w
        cases w
      · rw [if_neg g]
  · funext i
    show (if a < zn h then zm h a i else zm h2 a i) = zm h a i
    exact if_pos ha
theorem lsO_sh {h h' : zH} {X : zD} {a K c s : Nat} {n : Int} (sh : shX h h' c s) (han : a < zn h) (hl : lsO h X a n K) : lsO h' X a n K := by
  obtain ⟨⟨h1, h2, h3⟩, h4, h5⟩ := hl
  have kk := sh.2.2.2
  have z1 := sh.1
  refine ⟨⟨by rw [(kk a han).1]; exact h1, h2, h3⟩, ?_, fun i hi => ?_⟩
  · rcases h4 with h4 | ⟨q1, q2, q3, q4, q5⟩
    · exact Or.inl h4
    · obtain ⟨a1, a2, -⟩ := kk (X a 1).toNat (by omega)
      refine Or.inr ⟨by omega, by rw [a1]; exact q2, by rw [a2]; exact q3, by rw [a2]; exact q4, q5⟩
  · obtain ⟨e1, e2, e3⟩ := h5 i hi
    rw [(kk _ (by omega : (X (X a 1).toNat i).toNat < zn h)).1]
    exact ⟨e1, by omega, e3⟩
/-- the place that an event comes from -/
def mvI (p t : Int) (j : Nat) : Nat := if (j : Int) = t then p.toNat else if (j : Int) < t then (if (j : Int) < p then j else j + 1) else (if (j : Int) - 1 < p then j - 1 else j)
theorem mvI_in {p t n : Int} (hp : 0 ≤ p ∧ p < n) (ht : 0 ≤ t ∧ t < n) {i j : Nat} (hi : (i : Int) < n) (hj : (j : Int) < n) (e : mvI p t i = mvI p t j) : i = j := by
  unfold mvI at e
  split at e <;> split at e <;> (try split at e) <;> (try split at e) <;> (try split at e) <;> (try split at e) <;> omega
theorem mvI_b {p t n : Int} (hp : 0 ≤ p ∧ p < n) (ht : 0 ≤ t ∧ t < n) {j : Nat} (hj : (j : Int) < n) : (mvI p t j : Int) < n := by
  unfold mvI
  split
  · omega
  · split <;> split <;> omega
set_option maxRecDepth 20000 in
theorem s48 {x t : Int} {c : Nat} {h : zH} {X D : zD} (p : Inv c h X D) (hc : c < 600) (hr : iR x) (ht : iR t) : (qMv D x t = 0 ∧ ∃ (v : Int) (h1 : zH) (X1 D1 D9 : zD), (zc 48 4 [.ref 3, .int (Int32.ofInt x), .int (Int32.ofInt t)] (zV (zU h X) D)) = some (.inl (some (.int (Int32.ofInt v))), zV (zU h1 X1) D1) ∧ (-(12 * (c : Int)) ≤ v ∧ v ≤ 100000) ∧ (∀ a i, a < 32 → D9 a i = D1 a i) ∧ Inv (c + 1) h1 X1 D9 ∧ ∀ i, D9 39 i = D 39 i) ∨ cE (zc 48 4 [.ref 3, .int (Int32.ofInt x), .int (Int32.ofInt t)] (zV (zU h X) D)) (qMv D x t) 1 2 h X D := by
  have hS := p.2.1.2.1
  have h0 := hS.1.1
  have h15 := p.1.1.2.1.1
  have hz := p.2.2.2.2.2.1
  by_cases g : (0 ≤ x ∧ x ≤ D 32 15 - 1) ∧ (0 ≤ t ∧ t ≤ D 32 15 - 1)
  · have q0 : qMv D x t = 0 := if_pos g
    obtain ⟨gx, gt⟩ := g
    have e81 := c81_t (x := x) (X := X) (D := D) h0.1 (by omega) (by omega)
    have e82 := c81_t (x := t) (X := X) (D := D) h0.1 (by omega) (by omega)
    obtain ⟨X1, e173, M1, M2, M3, M4⟩ := c173 (D := D) (i := x) (Or.inr (Or.inl rfl)) hS.1 (by omega) (by omega)
    obtain ⟨k1, k2, k3⟩ := hS.K (e := x.toNat) (by omega)
    obtain ⟨h1, X2, e167, A1, A2, A3, A4, A5, A6⟩ := c167 (D := D) (i := t) (v := lsE X 5 x.toNat) (Or.inr (Or.inl rfl)) (by omega) hz.1 M1 (by omega) (by omega) hz.2.1 hz.2.2 (by omega) ⟨k1, k2, k3⟩
    have M41 : X1 5 1 = X 5 1 := M4 1 (by omega) (by omega)
    have e48 : cV (zc 48 4 [.ref 3, .int (Int32.ofInt x), .int (Int32.ofInt t)] (zV (zU h X) D)) 0 (((t - x).natAbs : Nat) : Int) h1 X2 (zwr D 3 6 0) := by
      refine ⟨rfl, ?_⟩
      rw [zc]
      clear p hS M1 M2 M3 M4 A1 A2 A3 A4 A5 A6 M41
      generalize lsE X 5 x.toNat = a at *
      simp (disch := first | omega | (simp (disch := omega) only [zwr_s, zwr_a, zwr_i, zn_put, zn_new, zn_fil, zn_chg, zV_n]; omega)) only [zentry, zs0, zs1, zs2, zs3, zg_lo, zg_st, zg_st2, zg_ald, zg_ast, zs_ia, zs_i0, zcs, zg_ii, zi_max, zi_min, zi_abi, zi_abf, zi_fb, zi_bf, lget, lst, lst2, lc2, Option.map_some, zso, if_true, if_false, zc1, and_true, true_and, and_self, List.length_nil, List.length_cons, Nat.zero_le, reduceIte, reduceCtorEq, false_and, and_false, Bool.false_eq_true, zca_some, zr0, zr100, Option.bind_some, zb_none, zb_some, zrc, or_true, true_or, eq_self, ne_eq, not_true_eq_false, not_false_eq_true, zrt_i, zrt_zb, zrt_b, zrt_c, zrt_l, zrt_f, zrt_r, zrt_n, zrt_v, zft_0, zft_1, zft_zb, zft_3, zft_4, zft_5, zft_7r, zft_7n, iI_t, zb_i, zb_0, zb_1, Nat.reduceAdd, Nat.reduceLeDiff, Nat.reduceEqDiff, Nat.reduceSub, Int.reduceNeg, iI_add, iI_sub, iI_mul, iI_neg, iI_n, zbz, zchar_id, zin, zwr_s, zwr_a, zwr_i, if_pos, if_neg, Int.toNat_natCast, Int.natCast_zero, Int.reduceToNat, z48, zc3, zuL (a := 5) (Or.inr (Or.inl rfl)) h0.1, zuE k1 k3, e81, e82, e173, e167, zt1, zt2, zt3]
    have d : ∀ a i, a ≠ 3 → a ≠ 68 → zwr (zwr D 3 6 0) 68 0 (((t - x).natAbs : Nat) : Int) a i = D a i := fun a i q1 q2 => by rw [zwr_a q2, zwr_a q1]
    have sh := A1
    have eD : ∀ a i, zwr (mMvD (zwr (zwr D 3 6 0) 68 0 (((t - x).natAbs : Nat) : Int)) x.toNat t.toNat) 32 32 0 a i = if a = 32 ∧ i = 32 then 0 else mMvD (zwr (zwr D 3 6 0) 68 0 (((t - x).natAbs : Nat) : Int)) x.toNat t.toNat a i := fun a i => zwr_e
    generalize zwr (mMvD (zwr (zwr D 3 6 0) 68 0 (((t - x).natAbs : Nat) : Int)) x.toNat t.toNat) 32 32 0 = D9 at *
    have o : ∀ a i, ¬ (a = 32 ∧ i = 32) → ¬ (40 ≤ a ∧ a ≤ 43) → ¬ (45 ≤ a ∧ a ≤ 57) → D9 a i = zwr (zwr D 3 6 0) 68 0 (((t - x).natAbs : Nat) : Int) a i := fun a i q1 q2 q3 => by
      rw [eD, if_neg (by omega)]
      unfold mMvD mSD mSU
      rw [if_neg (by omega), if_neg (by omega)]
      split
      · rw [if_neg (by omega), if_neg (by omega)]
      · rw [if_neg (by omega), if_neg (by omega)]
    have f15 : D9 32 15 = D 32 15 := by rw [o 32 15 (by omega) (by omega) (by omega), d 32 15 (by omega) (by omega)]
    have f7 : D9 32 7 = D 32 7 := by rw [o 32 7 (by omega) (by omega) (by omega), d 32 7 (by omega) (by omega)]
    have rcd : ∀ j : Nat, (j : Int) < D 32 15 → rcE D D9 (mvI x t j) j := fun j hj => by
      have v : ∀ a, (a = 40 ∨ a = 41 ∨ a = 42 ∨ a = 43 ∨ a = 57) → D9 a j = D a (mvI x t j) := fun a ha => by
        rw [eD, if_neg (by omega)]
        unfold mMvD mvI
        by_cases w0 : (j : Int) = t
        · rw [if_pos (by omega), if_pos w0, d a _ (by omega) (by omega)]
        · rw [if_neg (by omega), if_neg (by omega), if_neg w0]
          by_cases w1 : x.toNat < t.toNat
          · rw [if_pos w1]
            unfold mSD
            by_cases w2 : (j : Int) < t
            · rw [if_pos w2]
              by_cases w3 : (j : Int) < x
              · rw [if_neg (by omega), if_neg (by omega), if_pos w3, d a _ (by omega) (by omega)]
              · rw [if_pos (by omega), if_neg w3, d a _ (by omega) (by omega)]
            · rw [if_neg w2, if_neg (by omega), if_neg (by omega), if_neg (by omega), d a _ (by omega) (by omega)]
          · rw [if_neg w1]
            unfold mSU
            by_cases w2 : (j : Int) < t
            · rw [if_pos w2, if_neg (by omega), if_neg (by omega), if_pos (by omega), d a _ (by omega) (by omega)]
            · rw [if_neg w2]
              by_cases w3 : (j : Int) - 1 < x
              · rw [if_pos (by omega), if_pos w3, d a _ (by omega) (by omega)]
              · rw [if_neg (by omega), if_neg (by omega), if_neg w3, d a _ (by omega) (by omega)]
      refine ⟨⟨v 40 (by omega), v 41 (by omega), v 42 (by omega), v 43 (by omega), v 57 (by omega)⟩, fun k hk => ?_⟩
      rw [eD, if_neg (by omega)]
      unfold mMvD mvI
      by_cases w0 : (j : Int) = t
      · rw [if_neg (by omega), if_pos (by omega), if_pos w0, d _ _ (by omega) (by omega)]
      · rw [if_neg (by omega), if_neg (by omega), if_neg w0]
        by_cases w1 : x.toNat < t.toNat
        · rw [if_pos w1]
          unfold mSD
          by_cases w2 : (j : Int) < t
          · rw [if_pos w2]
            by_cases w3 : (j : Int) < x
            · rw [if_neg (by omega), if_neg (by omega), if_pos w3, d _ _ (by omega) (by omega)]
            · rw [if_neg (by omega), if_pos (by omega), if_neg w3, show 45 + j + 1 = 45 + (j + 1) by omega, d _ _ (by omega) (by omega)]
          · rw [if_neg w2, if_neg (by omega), if_neg (by omega), if_neg (by omega), d _ _ (by omega) (by omega)]
        · rw [if_neg w1]
          unfold mSU
          by_cases w2 : (j : Int) < t
          · rw [if_pos w2, if_neg (by omega), if_neg (by omega), if_pos (by omega), d _ _ (by omega) (by omega)]
          · rw [if_neg w2]
            by_cases w3 : (j : Int) - 1 < x
            · rw [if_neg (by omega), if_pos (by omega), if_pos w3, show 45 + j - 1 = 45 + (j - 1) by omega, d _ _ (by omega) (by omega)]
            · rw [if_neg (by omega), if_neg (by omega), if_neg w3, d _ _ (by omega) (by omega)]
    have ob : obD h X X2 5 := fun b k q0 q1 q2 => by
      rw [A4 b k q0 q1 (by rw [M41]; exact q2)]
      exact M3 b k q1 q2
    have el : ∀ j : Nat, (j : Int) < D 32 15 → lsE X2 5 j = lsE X 5 (mvI x t j) := fun j hj => by
      rw [A3 j (by omega)]
      unfold mvI
      by_cases w2 : (j : Int) < t
      · rw [if_pos w2, if_neg (by omega), if_pos w2, M2 j (by omega)]
        split <;> rfl
      · rw [if_neg w2]
        by_cases w0 : (j : Int) = t
        · rw [if_pos w0, if_pos w0]
        · rw [if_neg w0, if_neg w0, if_neg w2, M2 (j - 1) (by omega)]
          by_cases w3 : (j : Int) - 1 < x
          · rw [if_pos (by omega), if_pos w3]
          · rw [if_neg (by omega), if_neg w3, show j - 1 + 1 = j by omega]
    have hG := p.ev
    obtain ⟨hC9, l4⟩ := p.2.1.1.mv (D' := D9) sh hz.1 hz.2.1 hS.1 ob (by omega) (fun a i q => by rw [o a i (by omega) (by omega) (by omega), d a i (by omega) (by omega)])
    have hne : ∀ e : Nat, (e : Int) < D 32 15 → (X (lsE X 5 e) 3).toNat ≠ 5 := fun e he => by
      have := (hG.2.2 e he).2.2.1.1
      omega
    have z1 := A1.1
    have kz := sh.2.2.2 1 (by omega)
    obtain ⟨s1, s2, s3, -⟩ := sh
    refine Or.inl ⟨q0, (((t - x).natAbs : Nat) : Int), h1, _, _, D9, e48.2, ⟨by omega, by omega⟩, fun a i w => by rw [o a i (by omega) (by omega) (by omega), zwr_a (by omega)], ?_, fun i => by rw [o 39 i (by omega) (by omega) (by omega), d 39 i (by omega) (by omega)]⟩
    refine p.me hc (fun a i q1 q2 => ?_) (fun a i q => ?_) (by omega) (fun i => ?_) hC9 ⟨?_, fun i j hi hj => ?_, fun e he => ?_⟩ (Or.inl ?_) ⟨⟨by omega, kz.1.trans hz.2.1, kz.2.1.trans hz.2.2⟩, by omega, by omega⟩
    · rw [o a i (by omega) (by omega) (by omega), zwr_a (by omega), zwr_e, if_neg q2]
    · rw [o a i (by omega) (by omega) (by omega), d a i (by omega) (by omega)]
    · rw [eD, if_neg (by omega)]
      have m0 : m43 (zwr (zwr D 3 6 0) 68 0 (((t - x).natAbs : Nat) : Int)) := fun i => by rw [d 43 i (by omega) (by omega)]; exact p.1.2.2.1 i
      unfold mMvD
      split
      · exact m0 _
      · rw [if_neg (by omega)]
        split
        · exact m0.sd _ _ i
        · exact m0.su _ _ i
    · rw [f15]
      rw [show D 32 15 - 1 + 1 = D 32 15 by omega] at A2
      exact A2
    · rw [f15] at hi hj
      rw [el i hi, el j hj]
      intro w
      have gx' : 0 ≤ x ∧ x < D 32 15 := by omega
      have gt' : 0 ≤ t ∧ t < D 32 15 := by omega
      exact mvI_in gx' gt' hi hj (hS.2.1 _ _ (mvI_b gx' gt' hi) (mvI_b gx' gt' hj) w)
    · rw [f15] at he
      have gx' : 0 ≤ x ∧ x < D 32 15 := by omega
      have gt' : 0 ≤ t ∧ t < D 32 15 := by omega
      have hb := mvI_b gx' gt' he
      rw [el e he]
      exact (hG.2.2 (mvI x t e) hb).mv A1 hz.2.1 hS.1 ob (hne _ hb) (rcd e he) (Int.le_of_eq f7.symm) l4
    · rw [o 3 6 (by omega) (by omega) (by omega), zwr_a (by omega), zwr_s]
  · have q1 : qMv D x t = 1 := if_neg g
    have e48 : cE (zc 48 4 [.ref 3, .int (Int32.ofInt x), .int (Int32.ofInt t)] (zV (zU h X) D)) 1 1 2 h X D := by
      refine ⟨rfl, ?_⟩
      rw [zc]
      by_cases gx : 0 ≤ x ∧ x ≤ D 32 15 - 1
      · have e81 := c81_t (x := x) (X := X) (D := D) h0.1 (by omega) (by omega)
        have e82 := c81_f (x := t) (X := X) (D := D) h0.1 (by omega) ht (by omega)
        clear p hS
        simp (disch := first | omega | (simp (disch := omega) only [zwr_s, zwr_a, zwr_i, zn_put, zn_new, zn_fil, zn_chg, zV_n]; omega)) only [zentry, zs0, zs1, zs2, zs3, zg_lo, zg_st, zg_st2, zg_ald, zg_ast, zs_ia, zs_i0, zcs, zg_ii, zi_max, zi_min, zi_abi, zi_abf, zi_fb, zi_bf, lget, lst, lst2, lc2, Option.map_some, zso, if_true, if_false, zc1, and_true, true_and, and_self, List.length_nil, List.length_cons, Nat.zero_le, reduceIte, reduceCtorEq, false_and, and_false, Bool.false_eq_true, zca_some, zr0, zr100, Option.bind_some, zb_none, zb_some, zrc, or_true, true_or, eq_self, ne_eq, not_true_eq_false, not_false_eq_true, zrt_i, zrt_zb, zrt_b, zrt_c, zrt_l, zrt_f, zrt_r, zrt_n, zrt_v, zft_0, zft_1, zft_zb, zft_3, zft_4, zft_5, zft_7r, zft_7n, iI_t, zb_i, zb_0, zb_1, Nat.reduceAdd, Nat.reduceLeDiff, Nat.reduceEqDiff, Nat.reduceSub, Int.reduceNeg, iI_add, iI_sub, iI_mul, iI_neg, iI_n, zbz, zchar_id, zin, zwr_s, zwr_a, zwr_i, if_pos, if_neg, Int.toNat_natCast, Int.natCast_zero, Int.reduceToNat, z48, zc3, e81, e82, zb_x, zt2]
      · have e81 := c81_f (x := x) (X := X) (D := D) h0.1 (by omega) hr (by omega)
        clear p hS
        simp (disch := first | omega | (simp (disch := omega) only [zwr_s, zwr_a, zwr_i, zn_put, zn_new, zn_fil, zn_chg, zV_n]; omega)) only [zentry, zs0, zs1, zs2, zs3, zg_lo, zg_st, zg_st2, zg_ald, zg_ast, zs_ia, zs_i0, zcs, zg_ii, zi_max, zi_min, zi_abi, zi_abf, zi_fb, zi_bf, lget, lst, lst2, lc2, Option.map_some, zso, if_true, if_false, zc1, and_true, true_and, and_self, List.length_nil, List.length_cons, Nat.zero_le, reduceIte, reduceCtorEq, false_and, and_false, Bool.false_eq_true, zca_some, zr0, zr100, Option.bind_some, zb_none, zb_some, zrc, or_true, true_or, eq_self, ne_eq, not_true_eq_false, not_false_eq_true, zrt_i, zrt_zb, zrt_b, zrt_c, zrt_l, zrt_f, zrt_r, zrt_n, zrt_v, zft_0, zft_1, zft_zb, zft_3, zft_4, zft_5, zft_7r, zft_7n, iI_t, zb_i, zb_0, zb_1, Nat.reduceAdd, Nat.reduceLeDiff, Nat.reduceEqDiff, Nat.reduceSub, Int.reduceNeg, iI_add, iI_sub, iI_mul, iI_neg, iI_n, zbz, zchar_id, zin, zwr_s, zwr_a, zwr_i, if_pos, if_neg, Int.toNat_natCast, Int.natCast_zero, Int.reduceToNat, z48, zc3, e81, zb_x, zt2]
    exact Or.inr ⟨q1, e48.2⟩

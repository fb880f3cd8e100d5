/-! the list of events as it changes -/
/-- all but a list and its array stays -/
def obD (h : zH) (X X' : zD) (L : Nat) : Prop := ∀ b k, b < zn h → b ≠ L → b ≠ (X L 1).toNat → X' b k = X b k
theorem lsO_k {h h' : zH} {X X' : zD} {b L K KL c s : Nat} {n nL : Int} (sh : shX h h' c s) (k1 : zk h 1 = 31) (hL : lsO h X L nL KL) (hb : lsO h X b n K) (hbn : b < zn h) (hne : b ≠ L) (q : obD h X X' L) : lsO h' X' b n K ∧ ∀ i : Nat, (i : Int) < n → lsE X' b i = lsE X b i := by
  obtain ⟨⟨h1, h2, h3⟩, h4, h5⟩ := hb
  obtain ⟨⟨g1, g2, g3⟩, g4, g5⟩ := hL
  have kk := sh.2.2.2
  have z1 := sh.1
  have hLa : zk h (X L 1).toNat = 31 ∨ (zk h (X L 1).toNat = 26 ∧ X (X L 1).toNat 100 = L) := by
    rcases g4 with ⟨-, g4⟩ | ⟨w1, w2, w3, w4, w5⟩
    · left
      rw [g4]
      exact k1
    · exact Or.inr ⟨w2, w5⟩
  have eb : ∀ i, X' b i = X b i := fun i => q b i hbn hne (fun w => by rw [← w] at hLa; omega)
  rcases h4 with h4 | ⟨q1, q2, q3, q4, q5⟩
  · refine ⟨⟨⟨by rw [(kk b hbn).1]; exact h1, by rw [eb]; exact h2, h3⟩, Or.inl ⟨h4.1, by rw [eb]; exact h4.2⟩, fun i hi => by omega⟩, fun i hi => by omega⟩
  · have ha : (X b 1).toNat < zn h := by omega
    have ed : ∀ i, X' (X b 1).toNat i = X (X b 1).toNat i := fun i => q _ i ha (fun w => by rw [w] at q2; omega) (fun w => by
      rw [← w] at hLa
      rcases hLa with hLa | ⟨-, hLa⟩
      · omega
      · rw [q5] at hLa
        exact hne (by omega))
    obtain ⟨a1, a2, -⟩ := kk _ ha
    refine ⟨⟨⟨by rw [(kk b hbn).1]; exact h1, by rw [eb]; exact h2, h3⟩, Or.inr ?_, fun i hi => ?_⟩, fun i hi => ?_⟩
    · rw [eb, ed, a1, a2]
      exact ⟨by omega, q2, q3, q4, q5⟩
    · rw [eb, ed]
      obtain ⟨e1, e2, e3⟩ := h5 i hi
      rw [(kk _ (by omega : (X (X b 1).toNat i).toNat < zn h)).1]
      exact ⟨e1, by omega, e3⟩
    · unfold lsE
      rw [eb, ed]
/-- an event of the class is the reference's record j -/
def evT (h : zH) (X D : zD) (j a : Nat) : Prop :=
  (70 ≤ a ∧ a < zn h ∧ zk h a = 1) ∧ (X a 0 = (lsE X 4 (D 40 j).toNat : Nat) ∧ X a 1 = D 43 j ∧ X a 2 = D 41 j ∧ X a 4 = D 42 j) ∧
  ((70 ≤ X a 3 ∧ X a 3 < zn h) ∧ lsO h X (X a 3).toNat (D 57 j) 3 ∧ X (X a 3).toNat 100 = a) ∧
  (∀ k : Nat, (k : Int) < D 57 j → X (lsE X (X a 3).toNat k) 0 = (if D (45 + j) (3 * k) = 0 then 115 else 101) ∧ X (lsE X (X a 3).toNat k) 1 = D (45 + j) (3 * k + 1) ∧ X (lsE X (X a 3).toNat k) 2 = D (45 + j) (3 * k + 2)) ∧
  ((0 ≤ D 40 j ∧ D 40 j < D 32 7) ∧ (0 ≤ D 42 j ∧ D 42 j ≤ 900) ∧ (D 43 j = 102 ∨ D 43 j = 99 ∨ D 43 j = 112 ∨ D 43 j = 106) ∧ (D 43 j ≠ 102 → 0 ≤ D 41 j ∧ D 41 j ≤ 3599)) ∧
  ((0 ≤ D 57 j ∧ D 57 j ≤ 3) ∧ ∀ k : Nat, (k : Int) < D 57 j → (D (45 + j) (3 * k) = 0 ∨ D (45 + j) (3 * k) = 1) ∧ (0 ≤ D (45 + j) (3 * k + 1) ∧ D (45 + j) (3 * k + 1) ≤ 900) ∧ (1 ≤ D (45 + j) (3 * k + 2) ∧ D (45 + j) (3 * k + 2) ≤ 900))
def evG (h : zH) (X D : zD) : Prop := lsO h X 5 (D 32 15) 1 ∧ (∀ i j : Nat, (i : Int) < D 32 15 → (j : Int) < D 32 15 → lsE X 5 i = lsE X 5 j → i = j) ∧ ∀ e : Nat, (e : Int) < D 32 15 → evT h X D e (lsE X 5 e)
theorem Inv.ev {c : Nat} {h : zH} {X D : zD} (p : Inv c h X D) : evG h X D := by
  obtain ⟨⟨p1, p2, p3, p4, p5⟩, ⟨c1, c2, c3⟩, -⟩ := p
  refine ⟨c2.1, c2.2.1, fun e he => ⟨c2.K he, c2.2.2 e he, (c3 e he).1, (c3 e he).2, p1.2.1.2.1 e he, p2 e he⟩⟩
theorem evG.S {h : zH} {X D : zD} (p : evG h X D) : evS h X D ∧ evH h X D ∧ (∀ e : Nat, (e : Int) < D 32 15 → (0 ≤ D 40 e ∧ D 40 e < D 32 7) ∧ (0 ≤ D 42 e ∧ D 42 e ≤ 900) ∧ (D 43 e = 102 ∨ D 43 e = 99 ∨ D 43 e = 112 ∨ D 43 e = 106) ∧ (D 43 e ≠ 102 → 0 ≤ D 41 e ∧ D 41 e ≤ 3599)) ∧ mHg D :=
  ⟨⟨p.1, p.2.1, fun e he => (p.2.2 e he).2.1⟩, fun e he => ⟨(p.2.2 e he).2.2.1, (p.2.2 e he).2.2.2.1⟩, fun e he => (p.2.2 e he).2.2.2.2.1, fun e he => (p.2.2 e he).2.2.2.2.2⟩
/-- a record as another was -/
def rcE (D D' : zD) (i j : Nat) : Prop := (D' 40 j = D 40 i ∧ D' 41 j = D 41 i ∧ D' 42 j = D 42 i ∧ D' 43 j = D 43 i ∧ D' 57 j = D 57 i) ∧ ∀ k, k < 9 → D' (45 + j) k = D (45 + i) k
theorem evT.mv {h h' : zH} {X X' D D' : zD} {i j a L KL c s : Nat} {nL : Int} (p : evT h X D i a) (sh : shX h h' c s) (k1 : zk h 1 = 31) (hL : lsO h X L nL KL) (q : obD h X X' L) (hne : (X a 3).toNat ≠ L) (r : rcE D D' i j) (h7 : D 32 7 ≤ D' 32 7) (h4 : ∀ m : Nat, (m : Int) < D 32 7 → lsE X' 4 m = lsE X 4 m) : evT h' X' D' j a := by
  obtain ⟨⟨a1, a2, a3⟩, ⟨b0, b1, b2, b4⟩, ⟨d1, d2, d3⟩, e1, ⟨f1, f2, f3, f4⟩, ⟨g1, g2⟩⟩ := p
  obtain ⟨⟨r40, r41, r42, r43, r57⟩, rr⟩ := r
  have kk := sh.2.2.2
  have z1 := sh.1
  have hLk := hL.1.1
  have hLa : zk h (X L 1).toNat = 31 ∨ zk h (X L 1).toNat = 26 := by
    rcases hL.2.1 with ⟨-, g4⟩ | ⟨w1, w2, w3, w4, w5⟩
    · left
      rw [g4]
      exact k1
    · exact Or.inr w2
  have ea : ∀ m, X' a m = X a m := fun m => q a m a2 (fun w => by rw [w] at a3; omega) (fun w => by rw [← w] at hLa; omega)
  have hbn : (X a 3).toNat < zn h := by omega
  obtain ⟨l1, l2⟩ := lsO_k sh k1 hL d2 hbn hne q
  have el : ∀ m, X' (X a 3).toNat m = X (X a 3).toNat m := fun m => q _ m hbn hne (fun w => by
    have := d2.1.1
    rw [← w] at hLa
    omega)
  refine ⟨⟨a1, by omega, by rw [(kk a a2).1]; exact a3⟩, ?_, ?_, ?_, ?_, ?_⟩
  · rw [ea, ea, ea, ea, r40, r41, r42, r43, h4 _ (by omega)]
    exact ⟨b0, b1, b2, b4⟩
  · rw [ea, r57, el]
    exact ⟨by omega, l1, d3⟩
  · intro k hk
    rw [r57] at hk
    obtain ⟨s1, s2, s3⟩ := d2.2.2 k hk
    have s4 : lsE X (X a 3).toNat k < zn h := by unfold lsE; omega
    have s3 : zk h (lsE X (X a 3).toNat k) = 3 := s3
    have es : ∀ m, X' (lsE X (X a 3).toNat k) m = X (lsE X (X a 3).toNat k) m := fun m => q _ m s4 (fun w => by rw [w] at s3; omega) (fun w => by rw [← w] at hLa; omega)
    rw [ea, l2 k hk, es, es, es, rr _ (by omega), rr _ (by omega), rr _ (by omega)]
    exact e1 k hk
  · rw [r40, r41, r42, r43]
    exact ⟨⟨f1.1, by omega⟩, f2, f3, f4⟩
  · rw [r57]
    refine ⟨g1, fun k hk => ?_⟩
    rw [rr _ (by omega), rr _ (by omega), rr _ (by omega)]
    exact g2 k hk
theorem clO.mv {h h' : zH} {X X' D D' : zD} {L KL c s : Nat} {nL : Int} (p : clO h X D) (sh : shX h h' c s) (hn : 70 ≤ zn h) (k1 : zk h 1 = 31) (hL : lsO h X L nL KL) (q : obD h X X' L) (hne : 4 ≠ L)
    (k2 : ∀ a i, (33 ≤ a ∧ a ≤ 39) ∨ (a = 32 ∧ i = 7) → D' a i = D a i) : clO h' X' D' ∧ ∀ m : Nat, (m : Int) < D 32 7 → lsE X' 4 m = lsE X 4 m := by
  obtain ⟨l1, l2⟩ := lsO_k sh k1 hL p.1 (by omega) hne q
  have h7 := k2 32 7 (by omega)
  have hLk := hL.1.1
  have hLa : zk h (X L 1).toNat = 31 ∨ zk h (X L 1).toNat = 26 := by
    rcases hL.2.1 with ⟨-, g4⟩ | ⟨w1, w2, w3, w4, w5⟩
    · left
      rw [g4]
      exact k1
    · exact Or.inr w2
  refine ⟨⟨by rw [h7]; exact l1, fun i hi => ?_⟩, l2⟩
  rw [h7] at hi
  obtain ⟨a1, a2, a3⟩ := p.K hi
  have ea : ∀ m, X' (lsE X 4 i) m = X (lsE X 4 i) m := fun m => q _ m a2 (fun w => by rw [w] at a3; omega) (fun w => by rw [← w] at hLa; omega)
  rw [l2 i hi, ea, ea, ea, ea, ea, ea, ea, ea, k2 38 i (by omega), k2 33 i (by omega), k2 34 i (by omega), k2 36 i (by omega), k2 37 i (by omega), k2 35 i (by omega), k2 39 i (by omega)]
  exact p.2 i hi
/-- a call that changes the list of events -/
theorem Inv.me {c : Nat} {h h' : zH} {X X' D D' : zD} (p : Inv c h X D) (hc : c < 600) (k1 : ∀ a i, a < 32 → ¬ (a = 3 ∧ i = 6) → D' a i = D a i)
    (k2 : ∀ a i, (33 ≤ a ∧ a ≤ 39) ∨ a = 66 ∨ a = 67 ∨ (a = 32 ∧ (i = 7 ∨ i = 8 ∨ i = 16 ∨ i = 27 ∨ i = 30 ∨ i = 31)) → D' a i = D a i)
    (h15 : 0 ≤ D' 32 15 ∧ D' 32 15 ≤ 12) (h43 : m43 D') (hC : clO h' X' D') (hG : evG h' X' D') (hL : D' 3 6 = 0 ∨ (D' 3 6 = 1 ∧ laO X' D'))
    (hp : (70 ≤ zn h' ∧ zk h' 1 = 31 ∧ zl h' 1 = 0) ∧ (zuc h' ≤ zuc h + 10 ∧ zus h' ≤ zus h + 100)) : Inv (c + 1) h' X' D' := by
  obtain ⟨s1, s2, s3, s4⟩ := hG.S
  refine p.mu hc k1 (fun a i q => k2 a i (by omega)) ?_ ⟨h15, s3⟩ s4 h43 (fun i => ?_) hC s1 s2 hL hp
  · unfold mLst
    rw [k2 32 27 (by omega)]
    exact p.1.1.2.2.1
  · have := (p.1.2.2.2.2 i).1
    rw [k2 35 i (by omega)]
    omega
set_option maxRecDepth 20000 in
theorem s47 {x : Int} {c : Nat} {h : zH} {X D : zD} (p : Inv c h X D) (hc : c < 600) (hr : iR x) : (qEv D x = 0 ∧ ∃ (v : Int) (h1 : zH) (X1 D1 D9 : zD), (zc 47 2 [.ref 3, .int (Int32.ofInt x)] (zV (zU h X) D)) = some (.inl (some (.int (Int32.ofInt v))), zV (zU h1 X1) D1) ∧ (-(12 * (c : Int)) ≤ v ∧ v ≤ 100000) ∧ (∀ a i, a < 32 → D9 a i = D1 a i) ∧ Inv (c + 1) h1 X1 D9 ∧ ∀ i, D9 39 i = D 39 i) ∨ cE (zc 47 2 [.ref 3, .int (Int32.ofInt x)] (zV (zU h X) D)) (qEv D x) 1 2 h X D := by
  have hS := p.2.1.2.1
  have h0 := hS.1.1
  have h15 := p.1.1.2.1.1
  have hz := p.2.2.2.2.2.1
  by_cases g : 0 ≤ x ∧ x ≤ D 32 15 - 1
  · have q0 : qEv D x = 0 := if_pos g
    have e81 := c81_t (x := x) (X := X) (D := D) h0.1 (by omega) (by omega)
    obtain ⟨X1, e173, M1, M2, M3, M4⟩ := c173 (D := D) (i := x) (Or.inr (Or.inl rfl)) hS.1 (by omega) (by omega)
    have e175 := c175 (h := h) (X := X1) (D := zwr D 3 6 0) (a := 5) (by omega) h0.1
    rw [M1.1.2.1] at e175
    have e47 : cV (zc 47 2 [.ref 3, .int (Int32.ofInt x)] (zV (zU h X) D)) 0 (D 32 15 - 1) h X1 (zwr D 3 6 0) := by
      refine ⟨rfl, ?_⟩
      rw [zc]
      clear p hS M1 M2 M3 M4
      generalize lsE X 5 x.toNat = a at *
      simp (disch := first | omega | (simp (disch := omega) only [zwr_s, zwr_a, zwr_i, zn_put, zn_new, zn_fil, zn_chg, zV_n]; omega)) only [zentry, zs0, zs1, zs2, zs3, zg_lo, zg_st, zg_st2, zg_ald, zg_ast, zs_ia, zs_i0, zcs, zg_ii, zi_max, zi_min, zi_abi, zi_abf, zi_fb, zi_bf, lget, lst, lst2, lc2, Option.map_some, zso, if_true, if_false, zc1, and_true, true_and, and_self, List.length_nil, List.length_cons, Nat.zero_le, reduceIte, reduceCtorEq, false_and, and_false, Bool.false_eq_true, zca_some, zr0, zr100, Option.bind_some, zb_none, zb_some, zrc, or_true, true_or, eq_self, ne_eq, not_true_eq_false, not_false_eq_true, zrt_i, zrt_zb, zrt_b, zrt_c, zrt_l, zrt_f, zrt_r, zrt_n, zrt_v, zft_0, zft_1, zft_zb, zft_3, zft_4, zft_5, zft_7r, zft_7n, iI_t, zb_i, zb_0, zb_1, Nat.reduceAdd, Nat.reduceLeDiff, Nat.reduceEqDiff, Nat.reduceSub, Int.reduceNeg, iI_add, iI_sub, iI_mul, iI_neg, iI_n, zbz, zchar_id, zin, zwr_s, zwr_a, zwr_i, if_pos, if_neg, Int.toNat_natCast, Int.natCast_zero, Int.reduceToNat, z47, zc3, zuL (a := 5) (Or.inr (Or.inl rfl)) h0.1, e81, e173, e175, zt1, zt2]
    have d : ∀ a i, a ≠ 3 → a ≠ 68 → zwr (zwr D 3 6 0) 68 0 (D 32 15 - 1) a i = D a i := fun a i q1 q2 => by rw [zwr_a q2, zwr_a q1]
    have em := m116 (p := x) (h := zU h X1) (D := zwr (zwr D 3 6 0) 68 0 (D 32 15 - 1)) hr (by rw [d 32 15 (by omega) (by omega)]; exact h15) (fun i => by rw [d 43 i (by omega) (by omega)]; exact p.1.2.2.1 i)
    have g1 : qEv (zwr (zwr D 3 6 0) 68 0 (D 32 15 - 1)) x = 0 := by
      unfold qEv
      rw [d 32 15 (by omega) (by omega)]
      exact q0
    rw [if_pos g1, if_pos g1, d 32 15 (by omega) (by omega)] at em
    have eD : ∀ a i, mRmD (zwr (zwr D 3 6 0) 68 0 (D 32 15 - 1)) x a i = if a = 32 ∧ i = 15 then D 32 15 - 1 else if a = 32 ∧ i = 32 then 0 else mSD (zwr (zwr D 3 6 0) 68 0 (D 32 15 - 1)) x.toNat ((D 32 15).toNat - 1) a i := fun a i => by
      unfold mRmD
      rw [d 32 15 (by omega) (by omega), zwr_e, zwr_e]
    generalize mRmD (zwr (zwr D 3 6 0) 68 0 (D 32 15 - 1)) x = D9 at *
    have f15 : D9 32 15 = D 32 15 - 1 := by rw [eD, if_pos ⟨rfl, rfl⟩]
    have o : ∀ a i, ¬ (a = 32 ∧ (i = 15 ∨ i = 32)) → ¬ (40 ≤ a ∧ a ≤ 43) → ¬ (45 ≤ a ∧ a ≤ 57) → D9 a i = zwr (zwr D 3 6 0) 68 0 (D 32 15 - 1) a i := fun a i q1 q2 q3 => by
      rw [eD, if_neg (by omega), if_neg (by omega)]
      unfold mSD
      rw [if_neg (by omega), if_neg (by omega)]
    have rcd : ∀ j : Nat, (j : Int) < D 32 15 - 1 → rcE D D9 (if (j : Int) < x then j else j + 1) j := fun j hj => by
      have v : ∀ a, (a = 40 ∨ a = 41 ∨ a = 42 ∨ a = 43 ∨ a = 57) → D9 a j = D a (if (j : Int) < x then j else j + 1) := fun a ha => by
        rw [eD, if_neg (by omega), if_neg (by omega)]
        unfold mSD
        by_cases w : (j : Int) < x
        · rw [if_neg (by omega), if_neg (by omega), if_pos w, d a j (by omega) (by omega)]
        · rw [if_pos (by omega), if_neg w, d a _ (by omega) (by omega)]
      refine ⟨⟨v 40 (by omega), v 41 (by omega), v 42 (by omega), v 43 (by omega), v 57 (by omega)⟩, fun k hk => ?_⟩
      rw [eD, if_neg (by omega), if_neg (by omega)]
      unfold mSD
      by_cases w : (j : Int) < x
      · rw [if_neg (by omega), if_neg (by omega), if_pos w, d _ k (by omega) (by omega)]
      · rw [if_neg (by omega), if_pos (by omega), if_neg w, show 45 + j + 1 = 45 + (j + 1) by omega, d _ k (by omega) (by omega)]
    have sh : shX h h 0 0 := shX.rf
    have ob : obD h X X1 5 := fun b k _ q1 q2 => M3 b k q1 q2
    have hG := p.ev
    obtain ⟨hC9, l4⟩ := p.2.1.1.mv (D' := D9) sh hz.1 hz.2.1 hS.1 ob (by omega) (fun a i q => by rw [o a i (by omega) (by omega) (by omega), d a i (by omega) (by omega)])
    have hne : ∀ e : Nat, (e : Int) < D 32 15 → (X (lsE X 5 e) 3).toNat ≠ 5 := fun e he => by
      have := (hG.2.2 e he).2.2.1.1
      omega
    refine Or.inl ⟨q0, D 32 15 - 1, h, _, _, D9, e47.2, ⟨by omega, by omega⟩, fun a i w => by rw [o a i (by omega) (by omega) (by omega), zwr_a (by omega)], ?_, fun i => by rw [o 39 i (by omega) (by omega) (by omega), d 39 i (by omega) (by omega)]⟩
    refine p.me hc (fun a i q1 q2 => ?_) (fun a i q => ?_) (by omega) (fun i => ?_) hC9 ⟨by rw [f15]; exact M1, fun i j hi hj => ?_, fun e he => ?_⟩ (Or.inl ?_) ⟨hz, by omega, by omega⟩
    · rw [o a i (by omega) (by omega) (by omega), zwr_a (by omega), zwr_e, if_neg q2]
    · rw [o a i (by omega) (by omega) (by omega), d a i (by omega) (by omega)]
    · rw [eD, if_neg (by omega), if_neg (by omega)]
      exact (m43.sd (D := zwr (zwr D 3 6 0) 68 0 (D 32 15 - 1)) (fun i => by rw [d 43 i (by omega) (by omega)]; exact p.1.2.2.1 i) _ _) i
    · rw [f15] at hi hj
      rw [M2 i hi, M2 j hj]
      intro w
      by_cases w1 : (i : Int) < x
      · by_cases w2 : (j : Int) < x
        · rw [if_pos w1, if_pos w2] at w
          exact hS.2.1 i j (by omega) (by omega) w
        · rw [if_pos w1, if_neg w2] at w
          have := hS.2.1 i (j + 1) (by omega) (by omega) w
          omega
      · by_cases w2 : (j : Int) < x
        · rw [if_neg w1, if_pos w2] at w
          have := hS.2.1 (i + 1) j (by omega) (by omega) w
          omega
        · rw [if_neg w1, if_neg w2] at w
          have := hS.2.1 (i + 1) (j + 1) (by omega) (by omega) w
          omega
    · rw [f15] at he
      have r := rcd e he
      have f7 : D9 32 7 = D 32 7 := by rw [o 32 7 (by omega) (by omega) (by omega), d 32 7 (by omega) (by omega)]
      rw [M2 e he]
      by_cases w : (e : Int) < x
      · rw [if_pos w] at r ⊢
        exact (hG.2.2 e (by omega)).mv sh hz.2.1 hS.1 ob (hne e (by omega)) r (Int.le_of_eq f7.symm) l4
      · rw [if_neg w] at r ⊢
        exact (hG.2.2 (e + 1) (by omega)).mv sh hz.2.1 hS.1 ob (hne (e + 1) (by omega)) r (Int.le_of_eq f7.symm) l4
    · rw [o 3 6 (by omega) (by omega) (by omega), zwr_a (by omega), zwr_s]
  · have q1 : qEv D x = 1 := if_neg g
    have e81 := c81_f (x := x) (X := X) (D := D) h0.1 (by omega) hr (by omega)
    have e47 : cE (zc 47 2 [.ref 3, .int (Int32.ofInt x)] (zV (zU h X) D)) (qEv D x) 1 2 h X D := by
      refine ⟨q1, ?_⟩
      rw [zc]
      clear p hS
      simp (disch := first | omega | (simp (disch := omega) only [zwr_s, zwr_a, zwr_i, zn_put, zn_new, zn_fil, zn_chg, zV_n]; omega)) only [zentry, zs0, zs1, zs2, zs3, zg_lo, zg_st, zg_st2, zg_ald, zg_ast, zs_ia, zs_i0, zcs, zg_ii, zi_max, zi_min, zi_abi, zi_abf, zi_fb, zi_bf, lget, lst, lst2, lc2, Option.map_some, zso, if_true, if_false, zc1, and_true, true_and, and_self, List.length_nil, List.length_cons, Nat.zero_le, reduceIte, reduceCtorEq, false_and, and_false, Bool.false_eq_true, zca_some, zr0, zr100, Option.bind_some, zb_none, zb_some, zrc, or_true, true_or, eq_self, ne_eq, not_true_eq_false, not_false_eq_true, zrt_i, zrt_zb, zrt_b, zrt_c, zrt_l, zrt_f, zrt_r, zrt_n, zrt_v, zft_0, zft_1, zft_zb, zft_3, zft_4, zft_5, zft_7r, zft_7n, iI_t, zb_i, zb_0, zb_1, Nat.reduceAdd, Nat.reduceLeDiff, Nat.reduceEqDiff, Nat.reduceSub, Int.reduceNeg, iI_add, iI_sub, iI_mul, iI_neg, iI_n, zbz, zchar_id, zin, zwr_s, zwr_a, zwr_i, if_pos, if_neg, Int.toNat_natCast, Int.natCast_zero, Int.reduceToNat, z47, zc3, e81, zb_x, zt2]
    exact Or.inr e47

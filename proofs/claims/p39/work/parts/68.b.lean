/-! class and reference: what holds of both between calls -/
def evH (h : zH) (X S : zD) : Prop := ∀ e : Nat, (e : Int) < S 32 15 → ((70 ≤ X (lsE X 5 e) 3 ∧ X (lsE X 5 e) 3 < zn h) ∧ lsO h X (X (lsE X 5 e) 3).toNat (S 57 e) 3 ∧ X (X (lsE X 5 e) 3).toNat 100 = lsE X 5 e) ∧
  ∀ k : Nat, (k : Int) < S 57 e → X (lsE X (X (lsE X 5 e) 3).toNat k) 0 = (if S (45 + e) (3 * k) = 0 then 115 else 101) ∧ X (lsE X (X (lsE X 5 e) 3).toNat k) 1 = S (45 + e) (3 * k + 1) ∧ X (lsE X (X (lsE X 5 e) 3).toNat k) 2 = S (45 + e) (3 * k + 2)
def laO (X D : zD) : Prop := D 6 3 = (lyF D).2.1.length ∧ tRp 6 D (lyF D).2.1 ∧ ∀ n : Nat, (n : Int) < D 32 15 → evR X (lsE X 5 n) (evF n (lyF D).2.1) ((lyF D).2.2.2.1 n) ∧ X (lsE X 5 n) 5 = (lyF D).2.2.1 n ∧ X (lsE X 5 n) 6 = (lyF D).2.2.2.2 n
def lgO (D : zD) : Prop := D 3 7 = D 32 31 ∧ ((D 32 31 = 0 ∧ D 32 30 = 0 ∧ D 10 3 = 0) ∨ (D 32 31 = 1 ∧ ∃ lg, mLg D lg ∧ D 10 3 = lg.length ∧ tRp 10 D lg))
def dyO (D : zD) : Prop := D 3 5 = D 32 16 ∧ ∀ i : Nat, D 32 7 ≤ (i : Int) → D 39 i = 0
def cn38 (D : zD) : Nat → Int
  | 0 => 0
  | n + 1 => cn38 D n + (if D 38 n = 1 then 1 else 0)
def Inv (c : Nat) (h : zH) (X D : zD) : Prop :=
  (mOk D ∧ mHg D ∧ m43 D ∧ D 32 8 = cn38 D (D 32 7).toNat ∧ (∀ i, (-(12 * (c : Int)) ≤ D 35 i ∧ D 35 i ≤ 99 + 99 * (c : Int)) ∧ (D 38 i = 0 ∨ D 38 i = 1))) ∧
  (clO h X D ∧ evS h X D ∧ evH h X D) ∧
  (dyO D ∧ lgO D) ∧
  (fiO D ∧ fiNu D ∧ fiP3 D) ∧
  (D 3 6 = 0 ∨ (D 3 6 = 1 ∧ laO X D)) ∧
  ((70 ≤ zn h ∧ zk h 1 = 31 ∧ zl h 1 = 0) ∧ (zuc h ≤ 1000 + 10 * c ∧ zus h ≤ 1000000 + 100 * c) ∧ c ≤ 600)
/-! .. what it rests on -/
theorem cEq.mE {S D : zD} (h : cEq S D) (hE : mEvs S) : mEvs D := by
  obtain ⟨h1, h2, h3, h4⟩ := hE
  have e15 := h 32 15 (by omega)
  refine ⟨by rw [e15]; exact h1, fun e he => ?_, fun i => by rw [h 35 i (by omega)]; exact h3 i, by rw [h.cls]; exact h4⟩
  rw [e15] at he
  rw [h 40 e (by omega), h 41 e (by omega), h 42 e (by omega), h 43 e (by omega), h 32 7 (by omega)]
  exact h2 e he
theorem cEq.ok {S D : zD} (h : cEq S D) (hn : FP.Core.fIsNaN (mLst D) = false) (hO : mOk S) : mOk D := by
  obtain ⟨h1, h2, -, h3, h4, h5⟩ := hO
  refine ⟨h.cl h1, h.mE h2, hn, ?_, ?_, ?_⟩
  · rw [h 32 8 (by omega)]; exact h3
  · rw [h 32 30 (by omega)]; exact h4
  · rw [h 32 31 (by omega)]; exact h5
theorem cEq.hg {S D : zD} (h : cEq S D) (h15 : S 32 15 ≤ 12) (hH : mHg S) : mHg D := by
  intro e he
  rw [h 32 15 (by omega)] at he
  have q := hH e he
  have r : ∀ i, D (45 + e) i = S (45 + e) i := fun i => h _ _ (by omega)
  refine ⟨by rw [h 57 e (by omega)]; exact q.1, fun k hk => ?_⟩
  rw [h 57 e (by omega)] at hk
  rw [r, r, r]
  exact q.2 k hk
theorem cEq.m43 {S D : zD} (h : cEq S D) (hH : m43 S) : m43 D := fun i => by
  rw [h 43 i (by omega)]
  exact hH i
theorem cEq.lg {S D : zD} {lg : zSp} (h : cEq S D) (hL : mLg S lg) : mLg D lg := by
  obtain ⟨h1, h2, h3, h4, h5⟩ := hL
  refine ⟨h1, h2, by rw [h 32 30 (by omega)]; exact h3, fun k hk => ?_, h5⟩
  rw [h 66 k (by omega), h 67 k (by omega)]
  exact h4 k hk
theorem cEq.cn {S D : zD} (h : cEq S D) : ∀ n, cn38 D n = cn38 S n
  | 0 => rfl
  | n + 1 => by
    unfold cn38
    rw [cEq.cn h n, h 38 n (by omega)]
theorem clO.c {h : zH} {X S D : zD} (q : cEq S D) (p : clO h X S) : clO h X D := by
  have e7 := q 32 7 (by omega)
  refine ⟨by rw [e7]; exact p.1, fun i hi => ?_⟩
  rw [e7] at hi
  rw [q 38 i (by omega), q 33 i (by omega), q 34 i (by omega), q 36 i (by omega), q 37 i (by omega), q 35 i (by omega), q 39 i (by omega)]
  exact p.2 i hi
theorem evS.c {h : zH} {X S D : zD} (q : cEq S D) (p : evS h X S) : evS h X D := by
  have e15 := q 32 15 (by omega)
  refine ⟨by rw [e15]; exact p.1, fun i j hi hj => p.2.1 i j (by omega) (by omega), fun e he => ?_⟩
  rw [e15] at he
  rw [q 40 e (by omega), q 43 e (by omega), q 41 e (by omega), q 42 e (by omega)]
  exact p.2.2 e he
theorem dyO.c {S D : zD} (q : cEq S D) (h : D 3 5 = S 3 5) (p : dyO S) : dyO D := ⟨by rw [h, q 32 16 (by omega)]; exact p.1, fun i hi => by rw [q 39 i (by omega)]; exact p.2 i (by rw [← q 32 7 (by omega)]; exact hi)⟩
theorem evH.c {h : zH} {X S D : zD} (q : cEq S D) (h15 : S 32 15 ≤ 12) (p : evH h X S) : evH h X D := by
  intro e he
  rw [q 32 15 (by omega)] at he
  have r : ∀ i, D (45 + e) i = S (45 + e) i := fun i => q _ _ (by omega)
  rw [q 57 e (by omega)]
  refine ⟨(p e he).1, fun k hk => ?_⟩
  rw [r, r, r]
  exact (p e he).2 k hk
theorem laO.c {X S D : zD} (q : cEq S D) (h6 : ∀ a i, 6 ≤ a → a ≤ 9 → D a i = S a i) (p : laO X S) : laO X D := by
  unfold laO
  rw [lyF_cc q, h6 6 3 (by omega) (by omega), q 32 15 (by omega)]
  exact ⟨p.1, tRp_c (fun k _ => ⟨h6 _ _ (by omega) (by omega), h6 _ _ (by omega) (by omega), h6 _ _ (by omega) (by omega)⟩) p.2.1, p.2.2⟩
theorem fiP3.c {S D : zD} (q : cEq S D) (h : ∀ a i, 14 ≤ a → a < 18 → (a = 14 → i = 3) → D a i = S a i) (p : fiP3 S) : fiP3 D := by
  have enu : nuC D (D 32 16) 0 (D 32 7).toNat = nuC S (S 32 16) 0 (S 32 7).toNat := by
    rw [q 32 16 (by omega), q 32 7 (by omega)]
    exact nuC_c (fun i => ⟨q 38 i (by omega), q 36 i (by omega), q 37 i (by omega)⟩) _ _
  unfold fiP3
  rw [enu, h 14 3 (by omega) (by omega) (by omega)]
  refine ⟨p.1, fun k hk => ?_⟩
  rw [h 15 k (by omega) (by omega) (by omega)]
  exact p.2 k hk
theorem fiNu.c {S D : zD} (q : cEq S D) (h : ∀ a i, 14 ≤ a → a < 18 → (a = 14 → i = 3) → D a i = S a i) (p : fiNu S) : fiNu D := by
  intro k hk
  rw [h 14 3 (by omega) (by omega) (by omega)] at hk
  rw [h 16 k (by omega) (by omega) (by omega), h 17 k (by omega) (by omega) (by omega), h 15 k (by omega) (by omega) (by omega), q 33 _ (by omega), q 34 _ (by omega)]
  exact p k hk
theorem fiO.e {S D : zD} (q : cEq S D) (h : ∀ a i, 14 ≤ a → a < 32 → D a i = S a i) (hF : fiO S) : fiO D := by
  obtain ⟨⟨b1, b2⟩, f2, f3, f4⟩ := hF
  have e3 := h 14 3 (by omega) (by omega)
  have e5 := h 14 5 (by omega) (by omega)
  refine ⟨⟨by rw [e3]; exact b1, fun i hi => ?_⟩, ?_, by rw [e5]; exact f3, fun w => ?_⟩
  · rw [h 15 i (by omega) (by omega), h 16 i (by omega) (by omega), h 17 i (by omega) (by omega)]
    exact b2 i (by omega)
  · rw [e3, psF_c (D := S) (D' := D) (fun i => ⟨h 16 i (by omega) (by omega), h 17 i (by omega) (by omega)⟩), f2, q.cls]
  · intro r s hr hs
    rw [h _ _ (by omega) (by omega), e3, f4 (by omega) r s hr hs, lnF_c2 _ _ (fun k _ _ => h 16 k (by omega) (by omega))]
theorem lgO.c {S D : zD} (q : cEq S D) (h : ∀ a i, a = 3 ∨ (10 ≤ a ∧ a ≤ 13) → (a = 3 → i = 7) → D a i = S a i) (p : lgO S) : lgO D := by
  unfold lgO
  rw [h 3 7 (by omega) (by omega), q 32 31 (by omega), q 32 30 (by omega), h 10 3 (by omega) (by omega)]
  refine ⟨p.1, p.2.imp id fun ⟨a, lg, b, c, d⟩ => ⟨a, lg, q.lg b, c, tRp_c (fun k _ => ⟨h _ _ (by omega) (by omega), h _ _ (by omega) (by omega), h _ _ (by omega) (by omega)⟩) d⟩⟩
theorem evH.y {h : zH} {X X' S : zD} (y : evY h X X') (hC : clO h X S) (hv : ∀ e : Nat, (e : Int) < S 32 15 → 0 ≤ S 40 e ∧ S 40 e < S 32 7) (hS : evS h X S) (p : evH h X S) : evH h X' S := by
  obtain ⟨-, l5⟩ := y.es hC hv hS
  intro e he
  obtain ⟨⟨h1, h2, h3⟩, h4⟩ := p e he
  have e3 : X' (lsE X 5 e) 3 = X (lsE X 5 e) 3 := y _ _ (Or.inr (Or.inl (by omega)))
  obtain ⟨l1, l2⟩ := lsO_v h2 y.ev
  rw [l5 e he, e3, y _ 100 (Or.inr (Or.inr (by omega)))]
  refine ⟨⟨h1, l1, h3⟩, fun k hk => ?_⟩
  have k3 := (h2.2.2 k hk).2.2
  have hk3 : zk h (lsE X (X (lsE X 5 e) 3).toNat k) = 3 := k3
  have e4 : ∀ i, X' (lsE X (X (lsE X 5 e) 3).toNat k) i = X (lsE X (X (lsE X 5 e) 3).toNat k) i := fun i => y _ _ (Or.inl (by omega))
  rw [l2 k hk, e4, e4, e4]
  exact h4 k hk
theorem Inv.vE {c : Nat} {h : zH} {X D : zD} (p : Inv c h X D) : ∀ e : Nat, (e : Int) < D 32 15 → 0 ≤ D 40 e ∧ D 40 e < D 32 7 := fun e he => (p.1.1.2.1.2.1 e he).1
/-- cells of the class as they were, cells of the reference too -/
theorem Inv.eq {c : Nat} {h : zH} {X D D' : zD} (p : Inv c h X D) (h1 : ∀ a i, a < 32 → D' a i = D a i) (q : cEq D D') (hn : FP.Core.fIsNaN (mLst D') = false) : Inv c h X D' := by
  obtain ⟨⟨p1, p2, p3, p4, p5⟩, ⟨c1, c2, c3⟩, ⟨d1, d2⟩, ⟨f1, f2, f3⟩, l, r⟩ := p
  have h15 := p1.2.1.1.2
  refine ⟨⟨q.ok hn p1, q.hg h15 p2, q.m43 p3, ?_, fun i => by rw [q 35 i (by omega), q 38 i (by omega)]; exact p5 i⟩, ⟨c1.c q, c2.c q, c3.c q h15⟩, ⟨?_, d2.c q fun a i _ _ => h1 a i (by omega)⟩, ⟨f1.e q fun a i _ _ => h1 a i (by omega), f2.c q fun a i _ _ _ => h1 a i (by omega), f3.c q fun a i _ _ _ => h1 a i (by omega)⟩, ?_, r⟩
  · rw [q 32 8 (by omega), q 32 7 (by omega), q.cn]; exact p4
  · exact d1.c q (h1 3 5 (by omega))
  · rw [h1 3 6 (by omega)]
    exact l.imp id fun ⟨a, b⟩ => ⟨a, b.c q fun a i _ _ => h1 a i (by omega)⟩
theorem Inv.m {c : Nat} {h : zH} {X D D' : zD} {τ : Int} (p : Inv c h X D) (q : mAft D D' τ) : Inv c h X D' :=
  p.eq (fun a i ha => q.1 a i (by omega) (by omega)) q.1.ce q.2.2
theorem Inv.o {c : Nat} {h : zH} {X D : zD} {a i : Nat} {v : Int} (p : Inv c h X D) (ha : a = 68 ∨ a = 69) : Inv c h X (zwr D a i v) :=
  p.eq (fun b j hb => zwr_a (by omega)) (fun b j hb => zwr_a (by omega)) (by unfold mLst; rw [zwr_a (by omega)]; exact p.1.1.2.2.1)
/-- one call more -/
theorem Inv.s {c : Nat} {h : zH} {X D : zD} (p : Inv c h X D) (hc : c < 600) : Inv (c + 1) (zchg h 1 6) X D := by
  obtain ⟨⟨p1, p2, p3, p4, p5⟩, p6, p7, p8, p9, p10, ⟨p11, p12⟩, p13⟩ := p
  refine ⟨⟨p1, p2, p3, p4, fun i => ?_⟩, p6, p7, p8, p9, p10, ⟨?_, ?_⟩, by omega⟩
  · have := p5 i
    omega
  · rw [zuc_chg]; omega
  · rw [zus_chg]; omega
theorem Inv.t {c : Nat} {h : zH} {X D : zD} (p : Inv c h X D) (hc : c < 600) : Inv (c + 1) h X D := by
  obtain ⟨⟨p1, p2, p3, p4, p5⟩, p6, p7, p8, p9, p10, ⟨p11, p12⟩, p13⟩ := p
  refine ⟨⟨p1, p2, p3, p4, fun i => ?_⟩, p6, p7, p8, p9, p10, ⟨?_, ?_⟩, by omega⟩
  · have := p5 i
    omega
  · omega
  · omega
set_option maxRecDepth 20000 in
/-- the layout is made, if there is none -/
theorem lay {c : Nat} {h : zH} {X D : zD} (p : Inv c h X D) : ∃ X' D', zc 91 4 [.ref 3] (zV (zU h X) D) = some (.inl none, zV (zU h X') D') ∧ Inv c h X' D' ∧ laO X' D' ∧ D' 3 6 = 1 ∧ evY h X X' ∧ (∀ a i, 32 ≤ a → D' a i = D a i) ∧ (∀ a i, a < 6 → ¬ (a = 3 ∧ i = 6) → D' a i = D a i) := by
  have p0 := p
  obtain ⟨⟨p1, p2, p3, p4, p5⟩, ⟨c1, c2, c3⟩, ⟨d1, d2⟩, ⟨f1, f2, f3⟩, l, r⟩ := p
  rcases l with l | ⟨l1, l2⟩
  · have hB : lyB D := ⟨p1.1, p1.2.1, p1.2.2.1, f2, f3⟩
    obtain ⟨X', D1, e, y, ⟨q1, q2, q3, q4⟩, hX⟩ := c91 hB d1.1 c1 c2 f1 l
    have ce0 := q3.ce
    have ce : cEq D (zwr D1 3 6 1) := ce0.tr fun a i _ => zwr_a (by omega)
    have h15 := p1.2.1.1
    have vE := p0.vE
    have es := y.es c1 vE c2
    have o : ∀ a i, a ≠ 3 → zwr D1 3 6 1 a i = D1 a i := fun a i ha => zwr_a ha
    have q3' : ∀ a i, (a < 6 ∨ 9 < a) → (a < 19 ∨ 32 ≤ a) → (a ≠ 14 ∨ (i ≠ 10 ∧ i ≠ 5)) → ¬ (a = 3 ∧ i = 6) → zwr D1 3 6 1 a i = D a i := fun a i w1 w2 w3 w4 => by
      rw [zwr_e, if_neg w4]
      exact q3 a i w1 w2 w3
    have la : laO X' (zwr D1 3 6 1) := by
      unfold laO
      rw [lyF_cc ce, o 6 3 (by omega), ce 32 15 (by omega)]
      refine ⟨q1, tRp_c (fun k _ => ⟨o _ _ (by omega), o _ _ (by omega), o _ _ (by omega)⟩) q2, fun n hn => ?_⟩
      obtain ⟨w1, w2, w3⟩ := hX n hn
      exact ⟨w1, w2 (by omega)⟩
    have h36 : zwr D1 3 6 1 3 6 = 1 := zwr_s
    refine ⟨X', zwr D1 3 6 1, e, ⟨⟨ce.ok ?_ p1, ce.hg h15.2 p2, ce.m43 p3, ?_, fun i => by rw [ce 35 i (by omega), ce 38 i (by omega)]; exact p5 i⟩, ⟨(y.ev.cl c1).1.c ce, es.1.c ce, (c3.y y c1 vE c2).c ce h15.2⟩, ⟨?_, d2.c ce fun a i w1 w2 => q3' a i (by omega) (by omega) (by omega) (by omega)⟩, ⟨?_, f2.c ce fun a i w1 w2 w3 => q3' a i (by omega) (by omega) (by omega) (by omega), f3.c ce fun a i w1 w2 w3 => q3' a i (by omega) (by omega) (by omega) (by omega)⟩, Or.inr ⟨h36, la⟩, r⟩, la, h36, y, fun a i w => q3' a i (by omega) (by omega) (by omega) (by omega), fun a i w1 w2 => q3' a i (by omega) (by omega) (by omega) w2⟩
    · unfold mLst
      rw [q3' 32 27 (by omega) (by omega) (by omega) (by omega)]
      exact p1.2.2.1
    · rw [ce 32 8 (by omega), ce 32 7 (by omega), ce.cn]; exact p4
    · exact d1.c ce (q3' 3 5 (by omega) (by omega) (by omega) (by omega))
    · exact q4.c fun a i w => o a i (by omega)
  · refine ⟨X, D, ?_, p0, l2, l1, evY.rf, fun _ _ _ => rfl, fun _ _ _ _ => rfl⟩
    rw [zc]
    clear p0 p1 p2 p3 p4 p5 c1 c2 c3 d1 d2 f1 f2 f3 r l2
    simp (disch := first | omega | (simp (disch := omega) only [zwr_s, zwr_a, zwr_i, zn_put, zn_new, zn_fil, zn_chg, zV_n]; omega)) only [zentry, zs0, zs1, zs2, zs3, zg_lo, zg_st, zg_st2, zg_ald, zg_ast, zs_ia, zs_i0, zcs, zg_ii, zi_max, zi_min, zi_abi, zi_abf, zi_fb, zi_bf, lget, lst, lst2, lc2, Option.map_some, zso, if_true, if_false, zc1, and_true, true_and, and_self, List.length_nil, List.length_cons, Nat.zero_le, reduceIte, reduceCtorEq, false_and, and_false, Bool.false_eq_true, zca_some, zr0, zr100, Option.bind_some, zb_none, zb_some, zrc, or_true, true_or, eq_self, ne_eq, not_true_eq_false, not_false_eq_true, zrt_i, zrt_zb, zrt_b, zrt_c, zrt_l, zrt_f, zrt_r, zrt_n, zrt_v, zft_0, zft_1, zft_zb, zft_3, zft_4, zft_5, zft_7r, zft_7n, iI_t, zb_i, zb_0, zb_1, Nat.reduceAdd, Nat.reduceLeDiff, Nat.reduceEqDiff, Nat.reduceSub, Int.reduceNeg, iI_add, iI_sub, iI_mul, iI_neg, iI_n, zbz, zchar_id, zin, zwr_s, zwr_a, zwr_i, if_pos, if_neg, Int.toNat_natCast, Int.natCast_zero, Int.reduceToNat, z91, zc3, l1]

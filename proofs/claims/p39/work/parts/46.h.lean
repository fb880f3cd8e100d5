/-! the reference lays out the day: its loop -/
/-- the cells ahead of an event's turn -/
def mPre (D : zD) (e : Nat) (b : Int) : zD := zwr (zwr (zwr (zwr D 63 e 0) 64 e 0) 65 e (-1)) 62 e b
theorem mPre_o {D : zD} {e : Nat} {b : Int} {a i : Nat} (h : (a < 62 ∨ 65 < a) ∨ i ≠ e) : mPre D e b a i = D a i := by
  unfold mPre zwr
  rw [if_neg (by omega), if_neg (by omega), if_neg (by omega), if_neg (by omega)]
theorem mPre_e {D : zD} {e : Nat} {b : Int} : mPre D e b 62 e = b ∧ mPre D e b 63 e = 0 ∧ mPre D e b 64 e = 0 ∧ mPre D e b 65 e = -1 := by
  unfold mPre zwr
  simp
theorem smB_c {S D : zD} {ba : Nat → Int} {e : Nat} (h : ∀ n, n ≤ e → D 40 n = S 40 n) (hb : ∀ n, n < e → D 62 n = ba n) : ∀ m, m ≤ e → smB D (D 62) e m = smB S ba e m
  | 0, _ => rfl
  | m + 1, hm => by
    unfold smB
    rw [smB_c h hb m (by omega), h m (by omega), h e (Nat.le_refl _), hb m (by omega)]
theorem lyBar_c {S D : zD} {ba : Nat → Int} {e : Nat} (h : fEq S D) (hb : ∀ n, n < e → D 62 n = ba n) : lyBar D (D 62) e ↔ lyBar S ba e := by
  unfold lyBar
  rw [smB_c (fun n _ => h 40 n (by omega)) hb e (Nat.le_refl _), h 40 e (by omega), h 36 _ (by omega), h 37 _ (by omega), h 32 16 (by omega), h 35 _ (by omega)]
set_option maxRecDepth 20000 in
theorem m138_s {S D : zD} {e : Nat} {h : zH} {st : zLS} (hC : mCl S) (hE : mEvs S) (hnS : FP.Core.fIsNaN (mLst S) = false) (he : (e : Int) < S 32 15) (hI : lyI3 S e st) (hM : MR S D e st) :
    ∃ D1, zx 138 9 [some (.ref 32), some (.int (Int32.ofInt st.1)), some (.int (Int32.ofInt (e : Int)))] [] (zV h D) = zx 138 9 [some (.ref 32), some (.int (Int32.ofInt (lyS S e st).1)), some (.int (Int32.ofInt ((e + 1 : Nat) : Int)))] [] (zV h D1) ∧ MR S D1 (e + 1) (lyS S e st) := by
  obtain ⟨m1, m2, m3, m4, m5⟩ := hM
  obtain ⟨hI1, hI2⟩ := hI
  have h15 := hE.1
  have f15 : D 32 15 = S 32 15 := m1 32 15 (by omega)
  -- the cells before the question
  have fp : ∀ b, fEq S (mPre D e b) := fun b => m1.tr fun a i q => mPre_o (by omega)
  have hbar : lyBar (zwr (zwr (zwr D 63 e 0) 64 e 0) 65 e (-1)) ((zwr (zwr (zwr D 63 e 0) 64 e 0) 65 e (-1)) 62) e ↔ lyBar S st.2.2.1 e := lyBar_c (m1.tr fun a i q => by unfold zwr; rw [if_neg (by omega), if_neg (by omega), if_neg (by omega)]) (fun n hn => by unfold zwr; rw [if_neg (by omega), if_neg (by omega), if_neg (by omega)]; exact (m5 n hn).1)
  have f3 : fEq S (zwr (zwr (zwr D 63 e 0) 64 e 0) 65 e (-1)) := m1.tr fun a i q => by unfold zwr; rw [if_neg (by omega), if_neg (by omega), if_neg (by omega)]
  have e136 := m136 (h := h) (e := e) (D := zwr (zwr (zwr D 63 e 0) 64 e 0) 65 e (-1)) (by omega) (fun n hn => by
      have : zwr (zwr (zwr D 63 e 0) 64 e 0) 65 e (-1) 62 n = D 62 n := by unfold zwr; rw [if_neg (by omega), if_neg (by omega), if_neg (by omega)]
      rw [this, (m5 n hn).1]
      exact (hI2 n).1) (fun n hn => by
      rw [f3 40 n (by omega), f3 32 7 (by omega)]
      exact (hE.2.1 n (by omega)).1) (f3.ce.cl hC) (fun i => by rw [f3 35 i (by omega)]; exact hE.2.2.1 i)
  by_cases g : lyBar S st.2.2.1 e
  · rw [zb_t (hbar.mpr g)] at e136
    have hs : lyS S e st = (st.1, st.2.1, upN st.2.2.1 e 1, upN st.2.2.2.1 e 0, upN st.2.2.2.2 e 0) := by unfold lyS; rw [if_pos g]
    rw [hs]
    refine ⟨mPre D e 1, ?_, fp 1, ?_, ?_, ?_, fun n hn => ?_⟩
    · conv => lhs; rw [z138_9]
      unfold mPre
      clear hI1 hI2 hC hE hbar f3 fp m1 m2 m4 m5 g hs hnS
      simp (disch := first | omega | (simp (disch := omega) only [zwr_s, zwr_a, zwr_i]; omega)) only [zentry, zs0, zs1, zs2, zs3, zg_lo, zg_st, zg_st2, zg_ald, zg_ast, zs_ia, zs_i0, zcs, zg_ii, zi_max, zi_min, zi_abi, zi_abf, zi_fb, zi_bf, lget, lst, lst2, lc2, Option.map_some, zso, if_true, if_false, zc1, and_true, true_and, and_self, List.length_nil, List.length_cons, Nat.zero_le, reduceIte, reduceCtorEq, false_and, and_false, Bool.false_eq_true, zca_some, zr0, zr100, Option.bind_some, zb_none, zb_some, zrc, or_true, true_or, eq_self, ne_eq, not_true_eq_false, not_false_eq_true, zrt_i, zrt_zb, zrt_b, zrt_c, zrt_l, zrt_f, zrt_r, zrt_n, zrt_v, zft_0, zft_1, zft_zb, zft_3, zft_4, zft_5, zft_7r, zft_7n, iI_t, zb_i, zb_0, zb_1, Nat.reduceAdd, Nat.reduceLeDiff, Nat.reduceEqDiff, Nat.reduceSub, Int.reduceNeg, iI_add, iI_sub, iI_mul, iI_neg, iI_n, zbz, zchar_id, zin, zwr_s, zwr_a, zwr_i, if_pos, if_neg, Int.toNat_natCast, Int.natCast_zero, z138, e136, f15, zt2, zc32, zc62, zc63, zc64, zc65]
    · unfold mLst at m2 ⊢
      rw [mPre_o (by omega)]
      exact m2
    · rw [mPre_o (by omega)]
      exact m3
    · exact mRp_c (fun k _ => ⟨mPre_o (by omega), mPre_o (by omega), mPre_o (by omega), mPre_o (by omega)⟩) m4
    · simp only [upN]
      by_cases q : n = e
      · subst q
        obtain ⟨p1, p2, p3, p4⟩ := mPre_e (D := D) (e := n) (b := 1)
        rw [if_pos rfl, if_pos rfl, if_pos rfl]
        exact ⟨p1, p2, p3, by rw [p4, plR_no hI1.2.2.2.2 (Int.le_refl _)]⟩
      · rw [if_neg q, if_neg q, if_neg q, mPre_o (by omega), mPre_o (by omega), mPre_o (by omega), mPre_o (by omega)]
        exact m5 n (by omega)
  · rw [zb_f (fun q => g (hbar.mp q))] at e136
    have hs : lyS S e st = ((lyEv S e st.1 st.2.1).1, (lyEv S e st.1 st.2.1).2.1, upN st.2.2.1 e 0, upN (fun n => if (lyEv S e st.1 st.2.1).2.2.1 = n then 1 else st.2.2.2.1 n) e 0, upN st.2.2.2.2 e (lyEv S e st.1 st.2.1).2.2.2) := by unfold lyS; rw [if_neg g]
    have n2 : FP.Core.fIsNaN (mLst (mPre D e 0)) = false := by
      unfold mLst at m2 ⊢
      rw [mPre_o (by omega)]
      exact m2
    have n3 : mPre D e 0 32 21 = st.2.1.length := by rw [mPre_o (by omega)]; exact m3
    have n4 : mRp (mPre D e 0) st.2.1 := mRp_c (fun k _ => ⟨mPre_o (by omega), mPre_o (by omega), mPre_o (by omega), mPre_o (by omega)⟩) m4
    have n5 : ∀ n : Nat, n ≤ e → mPre D e 0 65 n = plR n st.2.1 := by
      intro n hn
      by_cases q : n = e
      · rw [q, mPre_e.2.2.2, plR_no hI1.2.2.2.2 (Int.le_refl _)]
      · rw [mPre_o (by omega)]
        exact (m5 n (by omega)).2.2.2
    obtain ⟨o1, o2, o3, o4, o5, o6⟩ := mEv_ok hC hE he (fp 0) n2 n3 n4 hI1 n5
    have e137 := m137 (h := h) (e := e) (t := st.1) (D := mPre D e 0) (sp := st.2.1) (by omega) ((fp 0).ce.cl hC) ((fp 0).mE hE) (by rw [fp 0 32 15 (by omega)]; exact he) n2 n3 n4 ((fp 0).I hI1)
    rw [o1] at e137
    rw [hs]
    have htb := hI1.2.1
    have ht0 := spC_nn hI1.1
    refine ⟨(mEv (mPre D e 0) e st.1 st.2.1).2, ?_, o2, o3, o4, o5, fun n hn => ?_⟩
    · conv => lhs; rw [z138_9]
      clear o1 o2 o3 o4 o5 o6 hI1 hI2 hC hE hbar f3 fp m1 m2 m4 m5 g hs hnS n2 n3 n4 n5
      generalize (mEv (mPre D e 0) e st.1 st.2.1).2 = D2 at *
      generalize (lyEv S e st.1 st.2.1).1 = t2 at *
      unfold mPre at e137
      simp (disch := first | omega | (simp (disch := omega) only [zwr_s, zwr_a, zwr_i]; omega)) only [zentry, zs0, zs1, zs2, zs3, zg_lo, zg_st, zg_st2, zg_ald, zg_ast, zs_ia, zs_i0, zcs, zg_ii, zi_max, zi_min, zi_abi, zi_abf, zi_fb, zi_bf, lget, lst, lst2, lc2, Option.map_some, zso, if_true, if_false, zc1, and_true, true_and, and_self, List.length_nil, List.length_cons, Nat.zero_le, reduceIte, reduceCtorEq, false_and, and_false, Bool.false_eq_true, zca_some, zr0, zr100, Option.bind_some, zb_none, zb_some, zrc, or_true, true_or, eq_self, ne_eq, not_true_eq_false, not_false_eq_true, zrt_i, zrt_zb, zrt_b, zrt_c, zrt_l, zrt_f, zrt_r, zrt_n, zrt_v, zft_0, zft_1, zft_zb, zft_3, zft_4, zft_5, zft_7r, zft_7n, iI_t, zb_i, zb_0, zb_1, Nat.reduceAdd, Nat.reduceLeDiff, Nat.reduceEqDiff, Nat.reduceSub, Int.reduceNeg, iI_add, iI_sub, iI_mul, iI_neg, iI_n, zbz, zchar_id, zin, zwr_s, zwr_a, zwr_i, if_pos, if_neg, Int.toNat_natCast, Int.natCast_zero, z138, e136, e137, f15, zt2, zt3, zc32, zc62, zc63, zc64, zc65]
    · obtain ⟨p1, p2, p3, p4⟩ := o6 n (by omega)
      have hj := (lyEv_p hC hE hnS he hI1).2
      simp only [upN]
      by_cases q : n = e
      · subst q
        obtain ⟨u1, u2, u3, -⟩ := mPre_e (D := D) (e := n) (b := 0)
        have hce : ¬ (lyEv S n st.1 st.2.1).2.2.1 = n := by
          intro hq
          have hno : ∀ (t : Int) {b : Int} (sp : zSp), spE b sp → b ≤ n → lyCe t sp ≠ n := by
            intro t b sp
            induction sp generalizing b with
            | nil => intro _ _ q; unfold lyCe at q; omega
            | cons y r ih =>
              intro h1 h2 q
              unfold spE at h1
              unfold lyCe at q
              split at h1
              · split at q
                · exact ih h1 h2 q
                · split at q <;> omega
              · split at q
                · exact ih h1.2 (by omega) q
                · split at q <;> omega
          unfold lyEv at hq
          split at hq
          · simp only [] at hq; omega
          · split at hq
            · exact hno _ _ hI1.2.2.2.2 (Int.le_refl _) hq
            · split at hq
              · split at hq <;> (simp only [] at hq; omega)
              · simp only [] at hq; omega
        rw [if_pos rfl, if_pos rfl, if_pos rfl]
        refine ⟨by rw [p1, u1], by rw [p2, if_neg hce, u2], ?_, p4⟩
        rw [p3]
        rcases hj with hj | hj
        · rw [hj, if_neg (by omega)]
          split
          · rfl
          · exact u3
        · rw [hj, if_pos ⟨rfl, rfl⟩]
      · rw [if_neg q, if_neg q, if_neg q]
        obtain ⟨w1, w2, w3, -⟩ := m5 n (by omega)
        refine ⟨by rw [p1, mPre_o (by omega)]; exact w1, by rw [p2, mPre_o (by omega), w2], ?_, p4⟩
        rw [p3, if_neg (fun z => q z.1), if_neg (fun z => q z.1), mPre_o (by omega)]
        exact w3

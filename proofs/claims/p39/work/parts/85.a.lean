/-! the day's spans, the events' order, what shows, the mean -/
theorem lnS_s : ∀ {t : Int} {sp : zSp}, spC t sp → ∀ k, k < sp.length → (spK sp k).2.2.1 = lnS sp k ∧ (spK sp k).2.2.2 = lnS sp (k + 1) ∧ lnS sp k < lnS sp (k + 1)
  | t, [], _, k, hk => absurd hk (Nat.not_lt_zero _)
  | t, x :: r, ⟨h1, h2, h3⟩, k, hk => by
    rw [List.length_cons] at hk
    by_cases g : k < r.length
    · rw [spK_cons, if_pos g, lnS_c _ (by omega), lnS_c _ (by omega)]
      exact lnS_s h3 k g
    · have e : k = r.length := by omega
      subst e
      have q := lnS_t h3
      rw [lnS, spK_cons, if_neg (by omega), if_pos rfl, lnS_c _ (Nat.le_refl _), q]
      omega
theorem lnS_le {t : Int} {sp : zSp} (h : spC t sp) : ∀ n i, i + n ≤ sp.length → lnS sp i ≤ lnS sp (i + n) ∧ slS sp (i + n) - slS sp i ≤ lnS sp (i + n) - lnS sp i
  | 0, i, _ => ⟨Int.le_refl _, Int.le_of_eq (by rw [Nat.add_zero]; omega)⟩
  | n + 1, i, hi => by
    have ih := lnS_le h n i (by omega)
    have s := lnS_s h (i + n) (by omega)
    rw [show i + (n + 1) = i + n + 1 by omega]
    have e : slS sp (i + n + 1) = slS sp (i + n) + (if (spK sp (i + n)).1 = -1 then (spK sp (i + n)).2.2.2 - (spK sp (i + n)).2.2.1 else 0) := rfl
    rw [e]
    split <;> omega
theorem airIx_in {t s : Int} {sp : zSp} {k : Nat} (h : spC t sp) (hs : 0 ≤ s ∧ s < t) (hk : k < sp.length) (h1 : (spK sp k).2.2.1 ≤ s) (h2 : s < (spK sp k).2.2.2) : airIx s sp = k := by
  obtain ⟨a1, a2, a3, a4⟩ := airIx_p h hs.1 hs.2
  have s1 := lnS_s h _ a1
  have s2 := lnS_s h k hk
  rcases Nat.lt_trichotomy (airIx s sp) k with g | g | g
  · have m := (lnS_le h (k - (airIx s sp + 1)) (airIx s sp + 1) (by omega)).1
    rw [show airIx s sp + 1 + (k - (airIx s sp + 1)) = k by omega] at m
    omega
  · exact g
  · have := a4 k g
    omega
theorem plR_lt {e e' : Nat} (he : e < e') : ∀ {b : Int} {sp : zSp}, spE b sp → 0 ≤ plR e sp → 0 ≤ plR e' sp → plR e sp < plR e' sp
  | _, [], _, h1, _ => by
    unfold plR at h1
    omega
  | b, x :: r, hs, h1, h2 => by
    unfold spE at hs
    unfold plR at h1 h2 ⊢
    have r1 := plR_r (n := e) (sp := r)
    by_cases g : x.2.1 = -1
    · rw [if_pos g] at hs
      rw [if_neg (by omega)] at h1 h2 ⊢
      rw [if_neg (by omega)]
      exact plR_lt he hs h1 h2
    · rw [if_neg g] at hs
      by_cases g2 : x.2.1 = e'
      · rw [if_pos g2, if_neg (by omega)]
        omega
      · rw [if_neg g2] at h2 ⊢
        by_cases g3 : x.2.1 = e
        · rw [plR_no hs.2 (by omega)] at h2
          omega
        · rw [if_neg g3] at h1 ⊢
          exact plR_lt he hs.2 h1 h2
theorem plR_e {e : Nat} {sp : zSp} (h : 0 ≤ plR e sp) : (spK sp (plR e sp).toNat).2.1 = e := by
  rcases evF_K (n := e) (sp := sp) with ⟨q, -⟩ | ⟨-, q⟩
  · omega
  · exact (evF_mem q).2
theorem plR_m {e : Nat} {sp : zSp} (h : 0 ≤ plR e sp) : (plR e sp).toNat < sp.length := by
  have := (plR_r (n := e) (sp := sp)).2
  omega
theorem ev_clip {D : zD} (hO : mOk D) {e : Nat} (h : 0 ≤ plR e (lyF D).2.1) : (spK (lyF D).2.1 (plR e (lyF D).2.1).toNat).1 = D 40 e ∧ 0 ≤ D 40 e := by
  have v := (lyF_ok hO).2.2.1 _ (spK_mem (plR_m h))
  have q := plR_e h
  rcases v with v | v
  · omega
  · rcases v.2 with w | w
    · omega
    · rw [q] at w
      have w2 := w.2
      rw [Int.toNat_natCast] at w2
      exact ⟨w2, by omega⟩
theorem rAir_ev {D : zD} (hO : mOk D) {e : Nat} (h : 0 ≤ plR e (lyF D).2.1) {s : Int} (h1 : rSt D e ≤ s) (h2 : s < rEn D e) : rAir D s = D 40 e := by
  have b := rSE_b hO h
  unfold rAir
  rw [airIx_in (lyF_ok hO).1 (by omega) (plR_m h) h1 h2]
  exact (ev_clip hO h).1
theorem shE_1 {D : zD} (hO : mOk D) (hH : mHg D) {s : Int} {e : Nat} (h : shC D s e 0) (hk : 0 < D 57 e) : ∀ m : Nat, e < m → (m : Int) ≤ D 32 15 → 1 ≤ shE D s m
  | 0, he, _ => absurd he (Nat.not_lt_zero _)
  | m + 1, he, hm => by
    have b1 := shE_b (s := s) hH m (by omega)
    have b2 := shK_b (D := D) (s := s) (e := m) (D 57 m).toNat
    unfold shE
    by_cases g : e = m
    · subst g
      have one : ∀ j, 1 ≤ shK D s e (j + 1) := by
        intro j
        induction j with
        | zero =>
          show 1 ≤ (0 : Int) + (if shC D s e 0 then 1 else 0)
          rw [if_pos h]
          decide
        | succ j ih =>
          rw [shK]
          split <;> omega
      have := one ((D 57 e).toNat - 1)
      rw [show (D 57 e).toNat - 1 + 1 = (D 57 e).toNat by omega] at this
      omega
    · have := shE_1 hO hH h hk m (by omega) (by omega)
      omega
/-- the mean -/
theorem mnZ_n {D : zD} (hC : mCl D) {sp : zSp} (h : spC 3600 sp) (hv : spV D sp) : ∀ k, k ≤ sp.length → -60 * mnN sp k ≤ mnZ D sp k
  | 0, _ => by simp [mnN, mnZ]
  | k + 1, hk => by
    have ih := mnZ_n hC h hv k (by omega)
    have b := spC_b h _ (spK_mem (sp := sp) (k := k) (by omega))
    have v := hv _ (spK_mem (sp := sp) (k := k) (by omega))
    unfold mnZ mnN
    by_cases g : (spK sp k).1 = -1
    · rw [if_pos g, if_pos g]
      exact ih
    · rw [if_neg g, if_neg g]
      have hl := (hC.2.2 (spK sp k).1.toNat (by omega)).2.1
      have m := mul_c (y := (spK sp k).2.2.2 - (spK sp k).2.2.1) hl (by omega)
      omega
theorem rm_le {Z n : Int} {S N : UInt32} {m q : Nat} (hS : FP.Core.FInt Z S) (hN : FP.Core.FInt n N) (hn : 1 ≤ n) (hm : FP.Core.unitsOf FP.Core.b32 m = q * 2 ^ 149) (hZ : Z.natAbs ≤ q * n.natAbs) : (FP.fdiv S N).toNat % 2 ^ 31 ≤ m := by
  obtain ⟨ss, sc, sq, hs⟩ : ∃ s c q, FP.Core.val32 S = .fin s c q := by
    unfold FP.Core.FInt at hS
    generalize FP.Core.val32 S = d at hS
    cases d with
    | fin s c q => exact ⟨s, c, q, rfl⟩
    | _ => exact False.elim hS
  obtain ⟨is, ic, iq, hi⟩ : ∃ s c q, FP.Core.val32 N = .fin s c q := by
    unfold FP.Core.FInt at hN
    generalize FP.Core.val32 N = d at hN
    cases d with
    | fin s c q => exact ⟨s, c, q, rfl⟩
    | _ => exact False.elim hN
  have w1 : FP.Core.Whole Z (.fin ss sc sq) := hs ▸ hS
  have w2 : FP.Core.Whole n (.fin is ic iq) := hi ▸ hN
  have ic0 : ic ≠ 0 := fun w => by
    have := (FP.Core.whole_zero w2).mp w
    omega
  have n1 := FP.Core.whole_natAbs w1
  have n2 := FP.Core.whole_natAbs w2
  have hv : FP.Core.val32 (FP.fdiv S N) = FP.Core.roundRatio FP.Core.b32 (ss != is) sc ic (sq - iq) := by
    rw [show FP.Core.val32 (FP.fdiv S N) = FP.Core.quotient FP.Core.b32 (FP.Core.val32 S) (FP.Core.val32 N) from FP.Core.val32_fdiv _ _, hs, hi]
    simp only [FP.Core.quotient, if_neg ic0]
  have qm := FP.Core.qmin_b32
  have key := FP.Core.mag_le FP.Core.good_b32 (n := (FP.fdiv S N).toNat) (m := m) (e0 := -(200 + (sq.natAbs : Int) + (iq.natAbs : Int))) hv (Nat.pos_of_ne_zero ic0) (by omega) (by omega) ?_
  · rw [FP.Core.mag_toNat32] at key
    exact key
  · unfold FP.Core.inUnits
    rw [hm, qm]
    generalize hx : (sq - iq - -(200 + (sq.natAbs : Int) + (iq.natAbs : Int))).toNat = x
    generalize hy : (-149 - -(200 + (sq.natAbs : Int) + (iq.natAbs : Int))).toNat = y
    have e1 : x + ((-sq).toNat + iq.toNat) = sq.toNat + ((-iq).toNat + (149 + y)) := by omega
    refine Nat.le_of_mul_le_mul_right (c := 2 ^ ((-sq).toNat + iq.toNat)) ?_ (Nat.two_pow_pos _)
    rw [Nat.mul_assoc sc, ← Nat.pow_add, e1, Nat.pow_add, ← Nat.mul_assoc, n1]
    have e2 : q * 2 ^ 149 * 2 ^ y * ic * 2 ^ ((-sq).toNat + iq.toNat) = q * (ic * 2 ^ iq.toNat) * (2 ^ (-sq).toNat * 2 ^ (149 + y)) := by
      rw [Nat.pow_add, Nat.pow_add 2 149 y]
      generalize 2 ^ 149 = T1
      generalize 2 ^ y = T2
      generalize 2 ^ (-sq).toNat = T3
      generalize 2 ^ iq.toNat = T4
      ac_rfl
    have e3 : Z.natAbs * 2 ^ (-sq).toNat * 2 ^ ((-iq).toNat + (149 + y)) = Z.natAbs * 2 ^ (-iq).toNat * (2 ^ (-sq).toNat * 2 ^ (149 + y)) := by
      rw [Nat.pow_add]
      generalize 2 ^ (149 + y) = T1
      generalize 2 ^ (-sq).toNat = T3
      generalize 2 ^ (-iq).toNat = T4
      ac_rfl
    rw [e2, e3, n2]
    refine Nat.mul_le_mul_right _ ?_
    rw [← Nat.mul_assoc]
    exact Nat.mul_le_mul_right _ hZ
theorem rMn_b {D : zD} (hO : mOk D) (h : qMn D = 0) : FP.Core.fIsNaN (rMn D) = false ∧ FP.Core.fkey (rMn D) ≤ 0 ∧ -1114636288 ≤ FP.Core.fkey (rMn D) := by
  obtain ⟨c1, c2, c3, -⟩ := lyF_ok hO
  have h1 := mnV_p hO.1 c1 c3 _ (Nat.le_refl _)
  have h2 := mnN_nz c1 _ (Nat.le_refl _)
  have h3 := mnZ_n hO.1 c1 c3 _ (Nat.le_refl _)
  have h4 := lnS_t c1
  have hn : 1 ≤ mnN (lyF D).2.1 (lyF D).2.1.length := by
    unfold qMn at h
    split at h <;> omega
  refine ⟨rMn_nn hO h, ?_⟩
  have hi := fl_i2f (z := mnN (lyF D).2.1 (lyF D).2.1.length) (by omega)
  have b60 := rm_le (m := 1114636288) (q := 60) h1.1 hi hn (by decide +kernel) (by omega)
  have sg : 2 ^ 31 ≤ (rMn D).toNat ∨ (rMn D).toNat % 2 ^ 31 ≤ 0 := by
    by_cases z : mnZ D (lyF D).2.1 (lyF D).2.1.length = 0
    · exact Or.inr (rm_le (m := 0) (q := 0) h1.1 hi hn (by decide +kernel) (by omega))
    · obtain ⟨e, t, -, -, et⟩ := rm_bits h1.1 (by omega) (n := mnN (lyF D).2.1 (lyF D).2.1.length) (by omega)
      refine Or.inl ?_
      unfold rMn
      omega
  have b60 : (rMn D).toNat % 2 ^ 31 ≤ 1114636288 := b60
  have l := (rMn D).toNat_lt
  unfold FP.Core.fkey
  split <;> omega

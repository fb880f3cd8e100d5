/-! what holds of a layout under way -/
def lyI (S : zD) (e : Nat) (t : Int) (sp : zSp) : Prop := spC t sp ∧ t ≤ 3600 + 1800 * e ∧ sp.length ≤ 9 * e ∧ spV S sp ∧ spE e sp
theorem lyI_B {S : zD} (hE : mEvs S) (hC : mCl S) {e : Nat} (he : e ≤ 12) {t : Int} {sp : zSp} (h : lyI S e t sp) : spB sp := by
  intro x hx
  have h1 := spC_b h.1 x hx
  have h2 := h.2.2.2.1 x hx
  have h3 := h.2.1
  have h4 := hC.1
  have h5 : x.2.1 < e ∨ x.2.1 = -1 := by
    have : ∀ {b : Int} {sp : zSp}, spE b sp → ∀ x ∈ sp, x.2.1 < b ∨ x.2.1 = -1 := by
      intro b sp
      induction sp generalizing b with
      | nil => intro _ x hx; cases hx
      | cons y r ih =>
        intro hs x hx
        unfold spE at hs
        split at hs
        · rename_i g
          rcases List.mem_cons.mp hx with rfl | hx
          · exact Or.inr g
          · exact ih hs x hx
        · rcases List.mem_cons.mp hx with rfl | hx
          · exact Or.inl (by omega)
          · rcases ih hs.2 x hx with h | h
            · exact Or.inl (by omega)
            · exact Or.inr h
    exact this h.2.2.2.2 x hx
  rcases h2 with ⟨g1, g2⟩ | ⟨g1, g2⟩
  · exact ⟨by omega, by omega, by omega, by omega⟩
  · exact ⟨by omega, by omega, by omega, by omega⟩
theorem lyI_v {S : zD} {e : Nat} {t : Int} {sp : zSp} (h : lyI S e t sp) : ∀ x ∈ sp, x.2.1 = -1 ∨ (0 ≤ x.1 ∧ x.1 < S 32 7) := by
  intro x hx
  rcases h.2.2.2.1 x hx with h1 | h1
  · exact Or.inl h1.2
  · exact Or.inr h1.1
theorem lyI_w {S : zD} {e : Nat} {t : Int} {sp : zSp} (h : lyI S e t sp) : lyI S (e + 1) t sp :=
  ⟨h.1, by have := h.2.1; omega, by have := h.2.2.1; omega, h.2.2.2.1, spE_w (by omega) h.2.2.2.2⟩
theorem lyI_push {S : zD} (hE : mEvs S) {e : Nat} (he : (e : Int) < S 32 15) {s t : Int} {sp : zSp} (h1 : spC s sp) (h2 : sp.length ≤ 9 * e + 8) (h3 : spV S sp) (h4 : spE e sp) (hs : s < t) (ht : t ≤ 3600 + 1800 * (e + 1 : Nat)) : lyI S (e + 1) t ((S 40 e, (e : Int), s, t) :: sp) := by
  refine ⟨⟨rfl, hs, h1⟩, ht, by rw [List.length_cons]; omega, fun x hx => ?_, ?_⟩
  · rcases List.mem_cons.mp hx with rfl | hx
    · refine Or.inr ⟨(hE.2.1 e he).1, Or.inr ⟨by show (0 : Int) ≤ (e : Int); omega, by rw [Int.toNat_natCast]⟩⟩
    · exact h3 x hx
  · unfold spE
    rw [if_neg (by show ¬ (e : Int) = -1; omega)]
    exact ⟨⟨by show (0 : Int) ≤ (e : Int); omega, by show (e : Int) < ((e + 1 : Nat) : Int); omega⟩, h4⟩
theorem lyEv_p {S : zD} (hC : mCl S) (hE : mEvs S) (hn : FP.Core.fIsNaN (mLst S) = false) {e : Nat} (he : (e : Int) < S 32 15) {t : Int} {sp : zSp} (h : lyI S e t sp) :
    lyI S (e + 1) (lyEv S e t sp).1 (lyEv S e t sp).2.1 ∧ ((lyEv S e t sp).2.2.2 = 0 ∨ (lyEv S e t sp).2.2.2 = 1) := by
  obtain ⟨v1, v2, v3, v4⟩ := hE.2.1 e he
  have hl := (hC.2.2 (S 40 e).toNat (by omega)).1
  obtain ⟨i1, i2, i3, i4, i5⟩ := id h
  have t0 := spC_nn i1
  have hln : 1 ≤ lyLn S e ∧ lyLn S e ≤ 1800 := by unfold lyLn; omega
  have hst : S 43 e = 102 ∧ lySt S e t = t ∨ S 43 e ≠ 102 ∧ lySt S e t = S 41 e := by
    unfold lySt
    by_cases g : S 43 e = 102
    · exact Or.inl ⟨g, if_pos g⟩
    · exact Or.inr ⟨g, if_neg g⟩
  unfold lyEv
  by_cases g1 : t < lySt S e t
  · rw [if_pos g1]
    have hb : lySt S e t ≤ 3599 ∧ S 43 e ≠ 102 := by
      rcases hst with ⟨q1, q2⟩ | ⟨q1, q2⟩
      · omega
      · exact ⟨by rw [q2]; exact (v4 q1).2, q1⟩
    obtain ⟨a1, a2, a3, a4⟩ := lyGap_p hC hE.2.2.2 hn (f := t) (t := lySt S e t) (by omega) i1 i4
    exact ⟨lyI_push hE he a1 (by omega) a3 (a4 _ i5) (by omega) (by omega), Or.inl rfl⟩
  · rw [if_neg g1]
    by_cases g2 : S 43 e = 99
    · rw [if_pos g2]
      have q2 : lySt S e t = S 41 e := by
        rcases hst with ⟨q1, q2⟩ | ⟨q1, q2⟩
        · omega
        · exact q2
      have hb := v4 (by omega)
      refine ⟨lyI_push hE he (lyCut_C i1 (by omega) (by omega)) (Nat.le_trans lyCut_l (by omega)) ?_ (lyCut_E i5) (by omega) (by omega), Or.inl rfl⟩
      exact fun x hx => lyCut_m (fun a b => (a = -1 ∧ b = -1) ∨ ((0 ≤ a ∧ a < S 32 7) ∧ (b = -1 ∨ (0 ≤ b ∧ a = S 40 b.toNat)))) i4 x hx
    · rw [if_neg g2]
      by_cases g3 : S 43 e = 106
      · rw [if_pos g3]
        by_cases g4 : lySt S e t + lyLn S e ≤ t
        · rw [if_pos g4]
          exact ⟨lyI_w h, Or.inl rfl⟩
        · rw [if_neg g4]
          have q2 : lySt S e t = S 41 e := by
            rcases hst with ⟨q1, q2⟩ | ⟨q1, q2⟩
            · omega
            · exact q2
          have hb := v4 (by omega)
          exact ⟨lyI_push hE he i1 (by omega) i4 i5 (by omega) (by omega), zb_v _⟩
      · rw [if_neg g3]
        exact ⟨lyI_push hE he i1 (by omega) i4 i5 (by omega) (by omega), Or.inl rfl⟩
def lyI3 (S : zD) (e : Nat) (st : zLS) : Prop := lyI S e st.1 st.2.1 ∧ ∀ n, (st.2.2.1 n = 0 ∨ st.2.2.1 n = 1) ∧ (st.2.2.2.1 n = 0 ∨ st.2.2.2.1 n = 1) ∧ (st.2.2.2.2 n = 0 ∨ st.2.2.2.2 n = 1)
theorem lyS_p {S : zD} (hC : mCl S) (hE : mEvs S) (hn : FP.Core.fIsNaN (mLst S) = false) {e : Nat} (he : (e : Int) < S 32 15) {st : zLS} (h : lyI3 S e st) : lyI3 S (e + 1) (lyS S e st) := by
  obtain ⟨h1, h2⟩ := h
  have h3 := lyEv_p hC hE hn he h1
  unfold lyS
  split
  · refine ⟨lyI_w h1, fun n => ?_⟩
    obtain ⟨a, b, c⟩ := h2 n
    refine ⟨?_, ?_, ?_⟩ <;> (simp only [upN]; split <;> simp [*])
  · refine ⟨h3.1, fun n => ?_⟩
    obtain ⟨a, b, c⟩ := h2 n
    refine ⟨?_, ?_, ?_⟩
    · simp only [upN]
      split <;> simp [*]
    · simp only [upN]
      split
      · simp
      · split
        · simp
        · exact b
    · simp only [upN]
      split
      · exact h3.2
      · exact c
theorem lyN_p {S : zD} (hC : mCl S) (hE : mEvs S) (hn : FP.Core.fIsNaN (mLst S) = false) : ∀ e : Nat, (e : Int) ≤ S 32 15 → lyI3 S e (lyN S e)
  | 0, _ => by
    have hv : spV S [] := fun x hx => nomatch hx
    refine ⟨⟨rfl, ?_, Nat.le_refl _, hv, trivial⟩, fun n => ⟨Or.inl rfl, Or.inl rfl, Or.inl rfl⟩⟩
    show (0 : Int) ≤ 3600 + 1800 * ((0 : Nat) : Int)
    omega
  | e + 1, h => lyS_p hC hE hn (by omega) (lyN_p hC hE hn e (by omega))
/-- the layout of the day: spans from 0 to 3600 -/
theorem lyF_p {S : zD} (hC : mCl S) (hE : mEvs S) (hn : FP.Core.fIsNaN (mLst S) = false) : spC 3600 (lyF S).2.1 ∧ (lyF S).2.1.length ≤ 116 ∧ spV S (lyF S).2.1 ∧ spE (S 32 15) (lyF S).2.1 ∧ ∀ n, ((lyF S).2.2.1 n = 0 ∨ (lyF S).2.2.1 n = 1) ∧ ((lyF S).2.2.2.1 n = 0 ∨ (lyF S).2.2.2.1 n = 1) ∧ ((lyF S).2.2.2.2 n = 0 ∨ (lyF S).2.2.2.2 n = 1) := by
  have h15 := hE.1
  have hnn : (((S 32 15).toNat : Nat) : Int) = S 32 15 := by omega
  obtain ⟨⟨i1, i2, i3, i4, i5⟩, hb⟩ := lyN_p hC hE hn (S 32 15).toNat (by omega)
  rw [hnn] at i5
  unfold lyF lyE
  split
  · rename_i g
    have t0 := spC_nn i1
    obtain ⟨a1, a2, a3, a4⟩ := lyGap_p hC hE.2.2.2 hn (f := (lyN S (S 32 15).toNat).1) (t := 3600) (by omega) i1 i4
    have hlen : (lyGap S (lyN S (S 32 15).toNat).1 3600 (lyN S (S 32 15).toNat).2.1).length ≤ 116 := by omega
    exact ⟨a1, hlen, a3, a4 _ i5, hb⟩
  · rename_i g
    refine ⟨lyCut_C i1 (by omega) (by omega), Nat.le_trans lyCut_l (by omega), fun x hx => lyCut_m (fun a b => (a = -1 ∧ b = -1) ∨ ((0 ≤ a ∧ a < S 32 7) ∧ (b = -1 ∨ (0 ≤ b ∧ a = S 40 b.toNat)))) i4 x hx, lyCut_E i5, fun n => ?_⟩
    obtain ⟨a, b, c⟩ := hb n
    refine ⟨a, ?_, c⟩
    show (if _ then (1 : Int) else _) = 0 ∨ (if _ then (1 : Int) else _) = 1
    split
    · exact Or.inr rfl
    · exact b

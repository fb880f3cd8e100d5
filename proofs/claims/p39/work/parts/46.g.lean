/-! the reference lays out the day -/
/-- all cells but those that a layout writes -/
abbrev fAd (a i : Nat) : Prop := a < 32 ∨ 66 ≤ a ∨ (33 ≤ a ∧ a ≤ 57) ∨ (a = 32 ∧ i ≠ 21 ∧ i ≠ 26 ∧ i ≠ 27)
def fEq (S D : zD) : Prop := ∀ a i, fAd a i → D a i = S a i
theorem fEq.rf {S : zD} : fEq S S := fun _ _ _ => rfl
theorem fEq.ce {S D : zD} (h : fEq S D) : cEq S D := fun a i q => h a i (by omega)
theorem fEq.tr {S D D' : zD} (h : fEq S D) (h' : fEq D D') : fEq S D' := fun a i q => (h' a i q).trans (h a i q)
theorem mLays_fe {S D : zD} {c ev s en : Int} (hev : ev = -1 ∨ 0 ≤ ev) (h : fEq S D) : fEq S (mLays D c ev s en) := h.tr fun a i q => mLays_o (by omega) (by omega) (by omega) hev
theorem mGap_fe {S D : zD} {f t : Int} {sp : zSp} (h : fEq S D) : fEq S (mGap D f t sp) := h.tr fun a i q => mGap_o (by omega) (by omega)
theorem mCut_fe {S D : zD} {t : Int} {sp : zSp} (h : fEq S D) : fEq S (mCut t sp D) := h.tr fun a i q => mCut_o (by omega) (by omega) (by omega) (by omega) sp D
theorem zwr_fe {S D : zD} {a i : Nat} {x : Int} (ha : 58 ≤ a ∧ a ≤ 65) (h : fEq S D) : fEq S (zwr D a i x) := h.tr fun b j q => zwr_a (by omega)
theorem mLays_nn {D : zD} {c ev s en : Int} (hev : ev = -1 ∨ 0 ≤ ev) (h : FP.Core.fIsNaN (mLst D) = false) : FP.Core.fIsNaN (mLst (mLays D c ev s en)) = false := by
  unfold mLst at h ⊢
  rw [mLays_o (by omega) (by omega) (by omega) hev]
  exact h
theorem mCut_nn {D : zD} {t : Int} {sp : zSp} (h : FP.Core.fIsNaN (mLst D) = false) : FP.Core.fIsNaN (mLst (mCut t sp D)) = false := by
  unfold mLst at h ⊢
  rw [mCut_o (by omega) (by omega) (by omega) (by omega)]
  exact h
theorem zwr_nn {D : zD} {a i : Nat} {x : Int} (ha : a ≠ 32) (h : FP.Core.fIsNaN (mLst D) = false) : FP.Core.fIsNaN (mLst (zwr D a i x)) = false := by
  unfold mLst at h ⊢
  rw [zwr_a (by omega)]
  exact h
theorem plR_ps {S : zD} {m k : Nat} : ∀ (n c : Nat) (t : Int) (sp : zSp), plR k (lyPs S m n c t sp) = plR k sp
  | 0, _, _, _ => rfl
  | n + 1, c, t, sp => by
    unfold lyPs
    split
    · rw [plR_ps n]
      show (if (-1 : Int) = k then _ else _) = _
      rw [if_neg (by omega)]
    · exact plR_ps n _ _ _
theorem plR_gap {S : zD} {k : Nat} {f t : Int} {sp : zSp} : plR k (lyGap S f t sp) = plR k sp := by
  unfold lyGap
  split
  · show (if (-1 : Int) = k then _ else _) = _
    rw [if_neg (by omega)]
  · exact plR_ps _ _ _ _
/-- the reference's cells, e events laid out -/
def MR (S D : zD) (e : Nat) (st : zLS) : Prop := fEq S D ∧ FP.Core.fIsNaN (mLst D) = false ∧ D 32 21 = st.2.1.length ∧ mRp D st.2.1 ∧ ∀ n : Nat, n < e → D 62 n = st.2.2.1 n ∧ D 63 n = st.2.2.2.1 n ∧ D 64 n = st.2.2.2.2 n ∧ D 65 n = plR n st.2.1
theorem fEq.mE {S D : zD} (h : fEq S D) (hE : mEvs S) : mEvs D := by
  obtain ⟨h1, h2, h3, h4⟩ := hE
  refine ⟨by rw [h 32 15 (by omega)]; exact h1, fun e he => ?_, fun i => ?_, ?_⟩
  · rw [h 32 15 (by omega)] at he
    rw [h 40 e (by omega), h 42 e (by omega), h 43 e (by omega), h 41 e (by omega), h 32 7 (by omega)]
    exact h2 e he
  · rw [h 35 i (by omega)]
    exact h3 i
  · rw [h.ce.cls]
    exact h4
theorem fEq.I {S D : zD} (h : fEq S D) {e : Nat} {t : Int} {sp : zSp} (hI : lyI S e t sp) : lyI D e t sp := by
  obtain ⟨i1, i2, i3, i4, i5⟩ := hI
  refine ⟨i1, i2, i3, fun x hx => ?_, i5⟩
  rw [h 32 7 (by omega), h 40 _ (by omega)]
  exact i4 x hx
theorem fEq.ev {S D : zD} (h : fEq S D) (e : Nat) (t : Int) (sp : zSp) : lyEv D e t sp = lyEv S e t sp := by
  have h1 : lyLn D e = lyLn S e := by
    unfold lyLn
    rw [h 40 e (by omega), h 33 _ (by omega), h 42 e (by omega)]
  have h2 : lySt D e t = lySt S e t := by
    unfold lySt
    rw [h 43 e (by omega), h 41 e (by omega)]
  unfold lyEv
  rw [h1, h2, h 40 e (by omega), h 43 e (by omega), h.ce.gap]
/-- an event that is not barred -/
theorem mEv_ok {S D : zD} {e : Nat} {t : Int} {sp : zSp} (hC : mCl S) (hE : mEvs S) (he : (e : Int) < S 32 15) (hS : fEq S D) (hn : FP.Core.fIsNaN (mLst D) = false) (h21 : D 32 21 = sp.length) (hr : mRp D sp) (hI : lyI S e t sp) (hp : ∀ n : Nat, n ≤ e → D 65 n = plR n sp) :
    (mEv D e t sp).1 = (lyEv S e t sp).1 ∧ fEq S (mEv D e t sp).2 ∧ FP.Core.fIsNaN (mLst (mEv D e t sp).2) = false ∧ (mEv D e t sp).2 32 21 = (lyEv S e t sp).2.1.length ∧ mRp (mEv D e t sp).2 (lyEv S e t sp).2.1 ∧
    (∀ n : Nat, n ≤ e → (mEv D e t sp).2 62 n = D 62 n ∧ (mEv D e t sp).2 63 n = (if (lyEv S e t sp).2.2.1 = n then 1 else D 63 n) ∧ (mEv D e t sp).2 64 n = (if n = e ∧ (lyEv S e t sp).2.2.2 = 1 then 1 else if n = e ∧ S 43 e = 106 ∧ ¬ t < lySt S e t ∧ ¬ lySt S e t + lyLn S e ≤ t then 0 else D 64 n) ∧ (mEv D e t sp).2 65 n = plR n (lyEv S e t sp).2.1) := by
  have hCD := hS.ce.cl hC
  have hED := hS.mE hE
  have hID := hS.I hI
  rw [← hS.ev, ← hS 43 e (by omega), show lySt S e t = lySt D e t by unfold lySt; rw [hS 43 e (by omega), hS 41 e (by omega)], show lyLn S e = lyLn D e by unfold lyLn; rw [hS 40 e (by omega), hS 33 _ (by omega), hS 42 e (by omega)]]
  have heD : (e : Int) < D 32 15 := by rw [hS 32 15 (by omega)]; exact he
  have e0 : (e : Int) = -1 ∨ 0 ≤ (e : Int) := Or.inr (by omega)
  have hb := lyI_B hED hCD (e := e) (by have := hED.1; omega) hID
  obtain ⟨i1, i2, i3, i4, i5⟩ := id hID
  obtain ⟨-, -, v3, v4⟩ := hED.2.1 e heD
  have push : ∀ (D1 : zD) (sp1 : zSp) (s en : Int), D1 32 21 = sp1.length → mRp D1 sp1 → (∀ n : Nat, n < e → D1 65 n = plR n sp1) → (mLays D1 (D 40 e) e s en) 32 21 = ((D 40 e, (e : Int), s, en) :: sp1 : zSp).length ∧ mRp (mLays D1 (D 40 e) e s en) ((D 40 e, (e : Int), s, en) :: sp1) ∧ ∀ n : Nat, n ≤ e → mLays D1 (D 40 e) e s en 62 n = D1 62 n ∧ mLays D1 (D 40 e) e s en 63 n = D1 63 n ∧ mLays D1 (D 40 e) e s en 64 n = D1 64 n ∧ mLays D1 (D 40 e) e s en 65 n = plR n ((D 40 e, (e : Int), s, en) :: sp1) := by
    intro D1 sp1 s en q1 q2 q3
    have R := mLays_rp (c := D 40 e) (ev := (e : Int)) (s := s) (en := en) q1 q2
    refine ⟨by rw [R.2, List.length_cons]; omega, R.1, fun n hn9 => ⟨mLays_o (by omega) (by omega) (by omega) e0, mLays_o (by omega) (by omega) (by omega) e0, mLays_o (by omega) (by omega) (by omega) e0, ?_⟩⟩
    show _ = if (e : Int) = n then (sp1.length : Int) else plR n sp1
    by_cases g : (e : Int) = n
    · rw [if_pos g, ← q1]
      have := mLays_p (D := D1) (c := D 40 e) (ev := (e : Int)) (s := s) (en := en) (by omega)
      rw [show ((e : Int)).toNat = n by omega] at this
      exact this
    · rw [if_neg g, mLays_o (by omega) (by omega) (by omega) e0]
      exact q3 n (by omega)
  unfold mEv lyEv
  by_cases g1 : t < lySt D e t
  · simp only [g1, if_true]
    have hgap : 1 ≤ lySt D e t - t ∧ lySt D e t - t ≤ 3600 := by
      unfold lySt at g1 ⊢
      have := spC_nn i1
      split at g1
      · omega
      · rename_i q
        rw [if_neg q]
        have := v4 q
        omega
    obtain ⟨r1, r2⟩ := mGap_rp (f := t) (t := lySt D e t) h21 hr
    obtain ⟨p1, p2, p3⟩ := push _ _ (lySt D e t) (lySt D e t + lyLn D e) r2 r1 (fun n hn9 => by rw [mGap_o (by omega) (by omega), plR_gap]; exact hp n (by omega))
    refine ⟨trivial, mLays_fe e0 (mGap_fe hS), mLays_nn e0 (mGap_nn hCD hgap hn), p1, p2, fun n hn9 => ?_⟩
    obtain ⟨p4, p5, p6, p7⟩ := p3 n hn9
    refine ⟨by rw [p4, mGap_o (by omega) (by omega)], by rw [p5, mGap_o (by omega) (by omega), if_neg (by omega)], by rw [p6, mGap_o (by omega) (by omega), if_neg (by omega), if_neg (by simp)], p7⟩
  · simp only [g1, if_false]
    by_cases g2 : D 43 e = 99
    · simp only [g2, if_true]
      obtain ⟨r1, r2⟩ := mCut_rp (t := lySt D e t) sp D h21 hr
      obtain ⟨p1, p2, p3⟩ := push _ _ (lySt D e t) (lySt D e t + lyLn D e) r2 r1 (fun n hn9 => mCut_65 sp D i5 (hp n (by omega)))
      refine ⟨trivial, mLays_fe e0 (mCut_fe hS), mLays_nn e0 (mCut_nn hn), p1, p2, fun n hn9 => ?_⟩
      obtain ⟨p4, p5, p6, p7⟩ := p3 n hn9
      refine ⟨by rw [p4, mCut_o (by omega) (by omega) (by omega) (by omega)], by rw [p5, mCut_63 sp D hb], by rw [p6, mCut_o (by omega) (by omega) (by omega) (by omega), if_neg (by omega), if_neg (by omega)], p7⟩
    · simp only [g2, if_false]
      by_cases g3 : D 43 e = 106
      · simp only [g3, if_true]
        by_cases g4 : lySt D e t + lyLn D e ≤ t
        · simp only [g4, if_true]
          refine ⟨trivial, hS, hn, h21, hr, fun n hn9 => ⟨trivial, by rw [if_neg (by omega)], by rw [if_neg (by omega), if_neg (by simp)], hp n hn9⟩⟩
        · simp only [g4, if_false]
          have r1 : mRp (zwr D 64 e (zb (lySt D e t < t))) sp := mRp_c (fun k _ => ⟨zwr_a (by omega), zwr_a (by omega), zwr_a (by omega), zwr_a (by omega)⟩) hr
          obtain ⟨p1, p2, p3⟩ := push (zwr D 64 e (zb (lySt D e t < t))) sp t (lySt D e t + lyLn D e) (by rw [zwr_a (by omega), h21]) r1 (fun n hn9 => by rw [zwr_a (by omega)]; exact hp n (by omega))
          refine ⟨trivial, mLays_fe e0 (zwr_fe (by omega) hS), mLays_nn e0 (zwr_nn (by omega) hn), p1, p2, fun n hn9 => ?_⟩
          obtain ⟨p4, p5, p6, p7⟩ := p3 n hn9
          refine ⟨by rw [p4, zwr_a (by omega)], by rw [p5, zwr_a (by omega), if_neg (by omega)], ?_, p7⟩
          rw [p6, zwr_e]
          by_cases q : n = e
          · subst q
            rcases zb_v (lySt D n t < t) with z | z <;> simp [z]
          · simp [q]
      · simp only [g3, if_false]
        obtain ⟨p1, p2, p3⟩ := push D sp t (t + lyLn D e) h21 hr (fun n hn9 => hp n (by omega))
        refine ⟨trivial, mLays_fe e0 hS, mLays_nn e0 hn, p1, p2, fun n hn9 => ?_⟩
        obtain ⟨p4, p5, p6, p7⟩ := p3 n hn9
        exact ⟨p4, by rw [p5, if_neg (by omega)], by rw [p6, if_neg (by omega), if_neg (by simp)], p7⟩

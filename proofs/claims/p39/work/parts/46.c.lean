/-! what a layout rests on, and what it leaves as it was -/
/-- the cells that no layout writes -/
abbrev cAd (a i : Nat) : Prop := (33 ≤ a ∧ a ≤ 57) ∨ a = 66 ∨ a = 67 ∨ (a = 32 ∧ (i = 7 ∨ i = 8 ∨ i = 15 ∨ i = 16 ∨ i = 30 ∨ i = 31))
def cEq (S D : zD) : Prop := ∀ a i, cAd a i → D a i = S a i
theorem cEq.rf {S : zD} : cEq S S := fun _ _ _ => rfl
theorem cEq.cl {S D : zD} (h : cEq S D) (hS : mCl S) : mCl D := by
  obtain ⟨h1, h2, h3⟩ := hS
  have e7 := h 32 7 (by omega)
  have e16 := h 32 16 (by omega)
  refine ⟨by rw [e7]; exact h1, by rw [e16]; exact h2, fun i hi => ?_⟩
  rw [e7] at hi
  rw [h 33 i (by omega), h 34 i (by omega), h 36 i (by omega), h 37 i (by omega), h 38 i (by omega)]
  exact h3 i hi
theorem cEq.fl {S D : zD} (h : cEq S D) (i : Nat) : zflag D i = zflag S i := by
  unfold zflag
  rw [h 38 i (by omega), h 36 i (by omega), h 37 i (by omega), h 32 16 (by omega)]
theorem cEq.clsF {S D : zD} (h : cEq S D) : ∀ (n c : Nat), clsF D c n = clsF S c n
  | 0, _ => rfl
  | n + 1, c => by
    unfold Jvm.Pilot.CPlayoutChainLaw_law_r9196_4bd536.clsF
    rw [h.fl, h 33 c (by omega), h 34 c (by omega), cEq.clsF h n]
theorem cEq.cls {S D : zD} (h : cEq S D) : clsD D = clsD S := by
  unfold clsD
  rw [h 32 7 (by omega), h.clsF]
theorem cEq.mvs {S D : zD} (h : cEq S D) (m : Nat) : ∀ n, mvs D m n = mvs S m n
  | 0 => rfl
  | n + 1 => by
    unfold Jvm.Pilot.CPlayoutChainLaw_law_r9196_4bd536.mvs
    rw [cEq.mvs h m n, h 33 n (by omega), h 34 n (by omega)]
theorem cEq.mdv {S D : zD} (h : cEq S D) (m : Nat) (g l : Int) : mdv D m g l = mdv S m g l := by
  unfold Jvm.Pilot.CPlayoutChainLaw_law_r9196_4bd536.mdv
  rw [h.mvs, h 32 7 (by omega)]
theorem cEq.best {S D : zD} (h : cEq S D) (g l : Int) : bestM D g l = bestM S g l := by
  unfold bestM
  rw [h.cls]
  congr 1
  funext m
  congr 1
  funext x
  rw [h.mdv]
theorem cEq.lev {S D : zD} (h : cEq S D) : ∀ sp, lyLev D sp = lyLev S sp
  | [] => rfl
  | x :: r => by
    unfold lyLev
    rw [cEq.lev h r, h 34 _ (by omega)]
theorem cEq.ps {S D : zD} (h : cEq S D) (m : Nat) : ∀ (n c : Nat) (t : Int) (sp : zSp), lyPs D m n c t sp = lyPs S m n c t sp
  | 0, _, _, _ => rfl
  | n + 1, c, t, sp => by
    unfold lyPs
    rw [h 33 c (by omega), cEq.ps h m n, cEq.ps h m n]
theorem cEq.gap {S D : zD} (h : cEq S D) (f t : Int) (sp : zSp) : lyGap D f t sp = lyGap S f t sp := by
  unfold lyGap
  rw [h.lev, h.best, h.ps, h 32 7 (by omega)]
theorem cEq.tr {S D D' : zD} (h : cEq S D) (h' : cEq D D') : cEq S D' := fun a i q => (h' a i q).trans (h a i q)
theorem mLays_ce {S D : zD} {c ev s en : Int} (hev : ev = -1 ∨ 0 ≤ ev) (h : cEq S D) : cEq S (mLays D c ev s en) := h.tr fun a i q => mLays_o (by omega) (by omega) (by omega) hev
theorem mFl_ce {S D : zD} {g l : Int} (h : cEq S D) : cEq S (mFl D g l) := h.tr fun a i q => mFl_o (by omega)
/-- cells that a gap leaves -/
theorem mPs_o {D0 : zD} {m : Nat} {a i : Nat} (h : a < 58 ∨ 61 < a) (h1 : a = 32 → i ≠ 21) : ∀ (n c : Nat) (t : Int) (D : zD), mPs D0 m n c t D a i = D a i
  | 0, _, _, _ => rfl
  | n + 1, c, t, D => by
    unfold mPs
    split
    · rw [mPs_o h h1, mLays_o h h1 (by omega) (by omega)]
    · exact mPs_o h h1 n _ _ _
theorem mPs_rp {D0 : zD} {m : Nat} : ∀ (n c : Nat) (t : Int) (D : zD) (sp : zSp), D 32 21 = sp.length → mRp D sp → mRp (mPs D0 m n c t D) (lyPs D0 m n c t sp) ∧ mPs D0 m n c t D 32 21 = (lyPs D0 m n c t sp).length
  | 0, _, _, _, _, h1, h2 => ⟨h2, h1⟩
  | n + 1, c, t, D, sp, h1, h2 => by
    unfold mPs lyPs
    split
    · have := mLays_rp (c := (c : Int)) (ev := -1) (s := t) (en := t + D0 33 c) h1 h2
      exact mPs_rp n _ _ _ _ (by rw [this.2, List.length_cons]; omega) this.1
    · exact mPs_rp n _ _ _ _ h1 h2
theorem mGap_o {D : zD} {f t : Int} {sp : zSp} {a i : Nat} (h : a < 58 ∨ 61 < a) (h1 : a = 32 → i ≠ 21 ∧ i ≠ 26 ∧ i ≠ 27) : mGap D f t sp a i = D a i := by
  unfold mGap
  split
  · rw [mLays_o h (by omega) (by omega) (by omega), mFl_o (by omega)]
  · rw [mPs_o h (by omega), mFl_o (by omega)]
theorem mGap_ce {S D : zD} {f t : Int} {sp : zSp} (h : cEq S D) : cEq S (mGap D f t sp) := h.tr fun a i q => mGap_o (by omega) (by omega)
theorem mGap_rp {D : zD} {f t : Int} {sp : zSp} (h1 : D 32 21 = sp.length) (h2 : mRp D sp) : mRp (mGap D f t sp) (lyGap D f t sp) ∧ mGap D f t sp 32 21 = (lyGap D f t sp).length := by
  have g1 : mFl D (t - f) (lyLev D sp) 32 21 = sp.length := by rw [mFl_o (by omega), h1]
  have g2 : mRp (mFl D (t - f) (lyLev D sp)) sp := mRp_c (fun k _ => ⟨mFl_o (by omega), mFl_o (by omega), mFl_o (by omega), mFl_o (by omega)⟩) h2
  unfold mGap lyGap
  split
  · have := mLays_rp (c := -1) (ev := -1) (s := f) (en := t) g1 g2
    exact ⟨this.1, by rw [this.2, List.length_cons]; omega⟩
  · exact mPs_rp _ _ _ _ _ g1 g2
/-- the best value stays a number -/
theorem mFl_nn {D : zD} {g l : Int} (hD : mCl D) (hg : 1 ≤ g ∧ g ≤ 3600) (hn : FP.Core.fIsNaN (mLst D) = false) : FP.Core.fIsNaN (mLst (mFl D g l)) = false := by
  unfold mLst mFl
  rw [mE_l]
  split
  · exact hn
  · rw [Int.toNat_natCast, UInt32.ofNat_toNat]
    exact mdv_nn hD hg
theorem mGap_nn {D : zD} {f t : Int} {sp : zSp} (hD : mCl D) (hg : 1 ≤ t - f ∧ t - f ≤ 3600) (hn : FP.Core.fIsNaN (mLst D) = false) : FP.Core.fIsNaN (mLst (mGap D f t sp)) = false := by
  have h1 := mFl_nn (l := lyLev D sp) hD hg hn
  have h2 : mGap D f t sp 32 27 = mFl D (t - f) (lyLev D sp) 32 27 := by
    unfold mGap
    split
    · exact mLays_o (by omega) (by omega) (by omega) (by omega)
    · exact mPs_o (by omega) (by omega) _ _ _ _
  unfold mLst at h1 ⊢
  rw [h2]
  exact h1
/-- a cut's cells -/
theorem mCut_o {t : Int} {a i : Nat} (h1 : ¬ (a = 32 ∧ i = 21)) (h2 : a ≠ 60) (h3 : a ≠ 63) (h4 : a ≠ 65) : ∀ (sp : zSp) (D : zD), mCut t sp D a i = D a i
  | [], _ => rfl
  | x :: r, D => by
    unfold mCut
    split
    · rw [mCut_o h1 h2 h3 h4 r]
      split
      · rw [zwr_e, if_neg h1]
      · rw [zwr_a h4, zwr_e, if_neg h1]
    · split
      · split
        · rw [zwr_a h2]
        · rw [zwr_a h3, zwr_a h2]
      · rfl
theorem mCut_ce {S D : zD} {t : Int} {sp : zSp} (h : cEq S D) : cEq S (mCut t sp D) := h.tr fun a i q => mCut_o (by omega) (by omega) (by omega) (by omega) sp D
theorem mCut_rp {t : Int} : ∀ (sp : zSp) (D : zD), D 32 21 = sp.length → mRp D sp → mRp (mCut t sp D) (lyCut t sp) ∧ mCut t sp D 32 21 = (lyCut t sp).length
  | [], D, h1, h2 => ⟨trivial, h1⟩
  | x :: r, D, h1, ⟨⟨r1, r2, r3, r4⟩, h2⟩ => by
    unfold mCut lyCut
    split
    · split
      · exact mCut_rp r _ (by rw [zwr_s]) (mRp_c (fun k _ => ⟨zwr_a (by omega), zwr_a (by omega), zwr_a (by omega), zwr_a (by omega)⟩) h2)
      · exact mCut_rp r _ (by rw [zwr_a (by omega), zwr_s]) (mRp_c (fun k _ => ⟨by rw [zwr_a (by omega), zwr_a (by omega)], by rw [zwr_a (by omega), zwr_a (by omega)], by rw [zwr_a (by omega), zwr_a (by omega)], by rw [zwr_a (by omega), zwr_a (by omega)]⟩) h2)
    · split
      · split
        · refine ⟨⟨⟨?_, ?_, ?_, ?_⟩, mRp_c (fun k hk => ⟨zwr_a (by omega), zwr_a (by omega), zwr_a (by omega), zwr_i (by omega)⟩) h2⟩, ?_⟩
          · rw [zwr_a (by omega)]; exact r1
          · rw [zwr_a (by omega)]; exact r2
          · rw [zwr_a (by omega)]; exact r3
          · rw [zwr_s]
          · rw [zwr_a (by omega), h1]; rfl
        · refine ⟨⟨⟨?_, ?_, ?_, ?_⟩, mRp_c (fun k hk => ⟨by rw [zwr_a (by omega), zwr_a (by omega)], by rw [zwr_a (by omega), zwr_a (by omega)], by rw [zwr_a (by omega), zwr_a (by omega)], by rw [zwr_a (by omega), zwr_i (by omega)]⟩) h2⟩, ?_⟩
          · rw [zwr_a (by omega), zwr_a (by omega)]; exact r1
          · rw [zwr_a (by omega), zwr_a (by omega)]; exact r2
          · rw [zwr_a (by omega), zwr_a (by omega)]; exact r3
          · rw [zwr_a (by omega), zwr_s]
          · rw [zwr_a (by omega), zwr_a (by omega), h1]; rfl
      · exact ⟨⟨⟨r1, r2, r3, r4⟩, h2⟩, h1⟩
theorem mCut_63 {t : Int} {n : Nat} : ∀ (sp : zSp) (D : zD), spB sp → mCut t sp D 63 n = if lyCe t sp = n then 1 else D 63 n
  | [], D, _ => by
    unfold mCut lyCe
    rw [if_neg (by omega)]
  | x :: r, D, hb => by
    obtain ⟨-, b2, -, -⟩ := hb x List.mem_cons_self
    unfold mCut lyCe
    split
    · rw [mCut_63 r _ fun y hy => hb y (List.mem_cons_of_mem _ hy)]
      split
      · rfl
      · split
        · rw [zwr_a (by omega)]
        · rw [zwr_a (by omega), zwr_a (by omega)]
    · split
      · split
        · rw [if_neg (by omega), zwr_a (by omega)]
        · rw [zwr_e]
          by_cases g : n = x.2.1.toNat
          · rw [if_pos ⟨rfl, g⟩, if_pos (by omega)]
          · rw [if_neg (fun q => g q.2), if_neg (by omega), zwr_a (by omega)]
      · rw [if_neg (by omega)]
/-- where an event's span is, or -1 -/
def plR (n : Nat) : zSp → Int
  | [] => -1
  | x :: r => if x.2.1 = n then r.length else plR n r
/-- an event has one span at most -/
def spE : Int → zSp → Prop
  | _, [] => True
  | b, x :: r => if x.2.1 = -1 then spE b r else (0 ≤ x.2.1 ∧ x.2.1 < b) ∧ spE x.2.1 r
theorem spE_w : ∀ {b b' : Int} {sp : zSp}, b ≤ b' → spE b sp → spE b' sp
  | _, _, [], _, _ => trivial
  | b, b', x :: r, h, hs => by
    unfold spE at hs ⊢
    split
    · rename_i g
      rw [if_pos g] at hs
      exact spE_w h hs
    · rename_i g
      rw [if_neg g] at hs
      exact ⟨by omega, hs.2⟩
theorem plR_no {n : Nat} : ∀ {b : Int} {sp : zSp}, spE b sp → b ≤ n → plR n sp = -1
  | _, [], _, _ => rfl
  | b, x :: r, hs, hb => by
    unfold spE at hs
    unfold plR
    split at hs
    · rw [if_neg (by omega)]
      exact plR_no hs hb
    · rw [if_neg (by omega)]
      exact plR_no hs.2 (by omega)
theorem mCut_65 {t : Int} {n : Nat} : ∀ {b : Int} (sp : zSp) (D : zD), spE b sp → D 65 n = plR n sp → mCut t sp D 65 n = plR n (lyCut t sp)
  | _, [], D, _, h => h
  | b, x :: r, D, hs, h => by
    unfold plR at h
    unfold mCut lyCut
    unfold spE at hs
    split
    · split at hs
      · rename_i g
        rw [if_pos g]
        rw [if_neg (by omega)] at h
        exact mCut_65 r _ hs (by rw [zwr_a (by omega), h])
      · rename_i g
        rw [if_neg g]
        by_cases gn : x.2.1 = n
        · have hp := plR_no (n := n) hs.2 (by omega)
          exact mCut_65 r _ hs.2 (by rw [hp, show n = x.2.1.toNat by omega, zwr_s])
        · rw [if_neg gn] at h
          exact mCut_65 r _ hs.2 (by rw [zwr_i (by omega), zwr_a (by omega), h])
    · split
      · split
        · rw [zwr_a (by omega)]
          exact h
        · rw [zwr_a (by omega), zwr_a (by omega)]
          exact h
      · exact h

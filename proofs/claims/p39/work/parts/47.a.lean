/-! the reference's answers about the air -/
/-- what holds of the reference's cells at any time -/
def mOk (D : zD) : Prop := mCl D ∧ mEvs D ∧ FP.Core.fIsNaN (mLst D) = false ∧ (0 ≤ D 32 8 ∧ D 32 8 ≤ 8) ∧ (0 ≤ D 32 30 ∧ D 32 30 ≤ 116) ∧ (D 32 31 = 0 ∨ D 32 31 = 1)
def mSp (D : zD) (k : Nat) : Int × Int × Int × Int := (D 58 k, D 61 k, D 59 k, D 60 k)
/-- the k-th span from the first on -/
def spK (sp : zSp) (k : Nat) : Int × Int × Int × Int := sp.reverse.getD k (-1, -1, 0, 0)
theorem spK_cons {x : Int × Int × Int × Int} {r : zSp} {k : Nat} : spK (x :: r) k = if k < r.length then spK r k else if k = r.length then x else (-1, -1, 0, 0) := by
  unfold spK
  rw [List.reverse_cons, List.getD_eq_getElem?_getD, List.getD_eq_getElem?_getD]
  by_cases g : k < r.length
  · rw [if_pos g, List.getElem?_append_left (by rw [List.length_reverse]; exact g)]
  · rw [if_neg g, List.getElem?_append_right (by rw [List.length_reverse]; omega), List.length_reverse]
    by_cases g2 : k = r.length
    · rw [if_pos g2, g2, Nat.sub_self]
      rfl
    · rw [if_neg g2]
      have : k - r.length = (k - r.length - 1) + 1 := by omega
      rw [this]
      simp
theorem mRp_K {D : zD} : ∀ {sp : zSp}, mRp D sp → ∀ k, k < sp.length → D 58 k = (spK sp k).1 ∧ D 61 k = (spK sp k).2.1 ∧ D 59 k = (spK sp k).2.2.1 ∧ D 60 k = (spK sp k).2.2.2
  | [], _, k, hk => absurd hk (Nat.not_lt_zero _)
  | x :: r, ⟨h1, h2⟩, k, hk => by
    rw [spK_cons]
    rw [List.length_cons] at hk
    by_cases g : k < r.length
    · rw [if_pos g]
      exact mRp_K h2 k g
    · rw [if_neg g, if_pos (by omega), show k = r.length by omega]
      exact h1
/-- a layout rests on the core alone -/
theorem smB_cc {S D : zD} (h : cEq S D) (ba : Nat → Int) (e : Nat) : ∀ m, smB D ba e m = smB S ba e m
  | 0 => rfl
  | m + 1 => by
    unfold smB
    rw [smB_cc h ba e m, h 40 m (by omega), h 40 e (by omega)]
theorem lyBar_cc {S D : zD} (h : cEq S D) (ba : Nat → Int) (e : Nat) : lyBar D ba e ↔ lyBar S ba e := by
  unfold lyBar
  rw [smB_cc h, h 40 e (by omega), h 36 _ (by omega), h 37 _ (by omega), h 32 16 (by omega), h 35 _ (by omega)]
theorem lyEv_cc {S D : zD} (h : cEq S D) (e : Nat) (t : Int) (sp : zSp) : lyEv D e t sp = lyEv S e t sp := by
  have h1 : lyLn D e = lyLn S e := by
    unfold lyLn
    rw [h 40 e (by omega), h 33 _ (by omega), h 42 e (by omega)]
  have h2 : lySt D e t = lySt S e t := by
    unfold lySt
    rw [h 43 e (by omega), h 41 e (by omega)]
  unfold lyEv
  rw [h1, h2, h 40 e (by omega), h 43 e (by omega), h.gap]
theorem lyS_cc {S D : zD} (h : cEq S D) (e : Nat) (st : zLS) : lyS D e st = lyS S e st := by
  unfold lyS
  rw [lyEv_cc h]
  by_cases g : lyBar S st.2.2.1 e
  · rw [if_pos g, if_pos ((lyBar_cc h _ _).mpr g)]
  · rw [if_neg g, if_neg (fun q => g ((lyBar_cc h _ _).mp q))]
theorem lyN_cc {S D : zD} (h : cEq S D) : ∀ e, lyN D e = lyN S e
  | 0 => rfl
  | e + 1 => by
    unfold lyN
    rw [lyN_cc h e, lyS_cc h]
theorem lyF_cc {S D : zD} (h : cEq S D) : lyF D = lyF S := by
  unfold lyF lyE
  rw [h 32 15 (by omega), lyN_cc h, h.gap]
/-- behind a question: the core as it was, what was thrown -/
def gEq (S D : zD) : Prop := ∀ a i, fAd a i → ¬ (a = 32 ∧ i = 32) → D a i = S a i
def mAft (D D' : zD) (τ : Int) : Prop := gEq D D' ∧ D' 32 32 = τ ∧ FP.Core.fIsNaN (mLst D') = false
theorem gEq.ce {S D : zD} (h : gEq S D) : cEq S D := fun a i q => h a i (by omega) (by omega)
theorem gEq.ok {S D : zD} (h : gEq S D) (hn : FP.Core.fIsNaN (mLst D) = false) (hO : mOk S) : mOk D := by
  obtain ⟨h1, h2, h3, h4, h5, h6⟩ := hO
  refine ⟨h.ce.cl h1, ?_, hn, by rw [h 32 8 (by omega) (by omega)]; exact h4, by rw [h 32 30 (by omega) (by omega)]; exact h5, by rw [h 32 31 (by omega) (by omega)]; exact h6⟩
  obtain ⟨g1, g2, g3, g4⟩ := h2
  refine ⟨by rw [h 32 15 (by omega) (by omega)]; exact g1, fun e he => ?_, fun i => ?_, ?_⟩
  · rw [h 32 15 (by omega) (by omega)] at he
    rw [h 40 e (by omega) (by omega), h 42 e (by omega) (by omega), h 43 e (by omega) (by omega), h 41 e (by omega) (by omega), h 32 7 (by omega) (by omega)]
    exact g2 e he
  · rw [h 35 i (by omega) (by omega)]
    exact g3 i
  · rw [h.ce.cls]
    exact g4
theorem zwr_32 {D : zD} {τ : Int} : gEq D (zwr D 32 32 τ) := fun a i _ q => by rw [zwr_e, if_neg q]
theorem zwr_32n {D : zD} {τ : Int} (hn : FP.Core.fIsNaN (mLst D) = false) : FP.Core.fIsNaN (mLst (zwr D 32 32 τ)) = false := by
  unfold mLst at hn ⊢
  rw [zwr_i (by omega)]
  exact hn
theorem gEq.tr {S D D' : zD} (h : gEq S D) (h' : gEq D D') : gEq S D' := fun a i q r => (h' a i q r).trans (h a i q r)
theorem fEq.ge {S D : zD} (h : fEq S D) : gEq S D := fun a i q _ => h a i q
/-- the layout behind a write of what is thrown -/
theorem m138_t {D : zD} {h : zH} (hO : mOk D) (τ : Int) : ∃ D', zc 138 3 [.ref 32] (zV h (zwr D 32 32 τ)) = some (.inl none, zV h D') ∧ D' 32 32 = τ ∧ gEq D D' ∧ FP.Core.fIsNaN (mLst D') = false ∧ D' 32 21 = (lyF D).2.1.length ∧ mRp D' (lyF D).2.1 ∧ ∀ n : Nat, (n : Int) < D 32 15 → D' 62 n = (lyF D).2.2.1 n ∧ D' 63 n = (lyF D).2.2.2.1 n ∧ D' 64 n = (lyF D).2.2.2.2 n ∧ D' 65 n = plR n (lyF D).2.1 := by
  have g := zwr_32 (D := D) (τ := τ)
  have hO' := g.ok (zwr_32n hO.2.2.1) hO
  obtain ⟨D', e, f1, f2, f3, f4, f5⟩ := m138 (h := h) hO'.1 hO'.2.1 hO'.2.2.1
  rw [lyF_cc g.ce] at f3 f4 f5
  refine ⟨D', e, by rw [f1 32 32 (by omega), zwr_s], g.tr f1.ge, f2, f3, f4, fun n hn => f5 n (by rw [zwr_i (by omega)]; exact hn)⟩
theorem m138_0 {D : zD} {h : zH} (hO : mOk D) : ∃ D', zc 138 3 [.ref 32] (zV h D) = some (.inl none, zV h D') ∧ D' 32 32 = D 32 32 ∧ gEq D D' ∧ FP.Core.fIsNaN (mLst D') = false ∧ D' 32 21 = (lyF D).2.1.length ∧ mRp D' (lyF D).2.1 ∧ ∀ n : Nat, (n : Int) < D 32 15 → D' 62 n = (lyF D).2.2.1 n ∧ D' 63 n = (lyF D).2.2.2.1 n ∧ D' 64 n = (lyF D).2.2.2.2 n ∧ D' 65 n = plR n (lyF D).2.1 := by
  obtain ⟨D', e, f1, f2, f3, f4, f5⟩ := m138 (h := h) hO.1 hO.2.1 hO.2.2.1
  exact ⟨D', e, f1 32 32 (by omega), f1.ge, f2, f3, f4, f5⟩
/-- the layout's facts -/
theorem lyF_ok {D : zD} (hO : mOk D) : spC 3600 (lyF D).2.1 ∧ (lyF D).2.1.length ≤ 116 ∧ spV D (lyF D).2.1 ∧ spE (D 32 15) (lyF D).2.1 ∧ ∀ n, ((lyF D).2.2.1 n = 0 ∨ (lyF D).2.2.1 n = 1) ∧ ((lyF D).2.2.2.1 n = 0 ∨ (lyF D).2.2.2.1 n = 1) ∧ ((lyF D).2.2.2.2 n = 0 ∨ (lyF D).2.2.2.2 n = 1) := lyF_p hO.1 hO.2.1 hO.2.2.1
theorem plR_r {n : Nat} : ∀ {sp : zSp}, -1 ≤ plR n sp ∧ plR n sp < sp.length
  | [] => by unfold plR; simp
  | x :: r => by
    have := plR_r (n := n) (sp := r)
    unfold plR
    rw [List.length_cons]
    split <;> omega
/-- an event's span -/
def evF (n : Nat) : zSp → Option (Int × Int × Int × Int)
  | [] => none
  | x :: r => if x.2.1 = n then some x else evF n r
theorem evF_K {n : Nat} : ∀ {sp : zSp}, (plR n sp = -1 ∧ evF n sp = none) ∨ (0 ≤ plR n sp ∧ evF n sp = some (spK sp (plR n sp).toNat))
  | [] => Or.inl ⟨rfl, rfl⟩
  | x :: r => by
    unfold plR evF
    by_cases g : x.2.1 = n
    · rw [if_pos g, if_pos g]
      refine Or.inr ⟨by omega, ?_⟩
      rw [Int.toNat_natCast, spK_cons, if_neg (by omega), if_pos rfl]
    · rw [if_neg g, if_neg g]
      have hb := plR_r (n := n) (sp := r)
      rcases evF_K (n := n) (sp := r) with ⟨h1, h2⟩ | ⟨h1, h2⟩
      · exact Or.inl ⟨h1, h2⟩
      · refine Or.inr ⟨h1, ?_⟩
        rw [h2, spK_cons, if_pos (by omega)]

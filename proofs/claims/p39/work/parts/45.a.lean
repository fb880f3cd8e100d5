/-! the reference's search: its loops -/
theorem bt_or0 (a : Nat) : Int32.ofInt (a : Int) ||| Int32.ofInt 0 = Int32.ofInt (a : Int) := by
  have := bt_or a 0
  simpa using this
theorem lowr_tr : ∀ (n a b c : Nat), lowr n a b = true → lowr n b c = true → lowr n a c = true
  | 0, _, _, _, h, _ => by cases h
  | n + 1, a, b, c, h1, h2 => by
    unfold lowr at h1 h2 ⊢
    by_cases g1 : a % 2 = b % 2
    · rw [if_pos g1] at h1
      by_cases g2 : b % 2 = c % 2
      · rw [if_pos g2] at h2
        rw [if_pos (g1.trans g2)]
        exact lowr_tr n _ _ _ h1 h2
      · rw [if_neg g2] at h2
        rw [if_neg (by omega), g1]
        exact h2
    · rw [if_neg g1] at h1
      have ha : a % 2 = 1 := by simpa using h1
      by_cases g2 : b % 2 = c % 2
      · rw [if_neg (by omega)]
        simp [ha]
      · rw [if_neg g2] at h2
        have hb : b % 2 = 1 := by simpa using h2
        omega
theorem lowr_tot : ∀ (n a b : Nat), a < 2 ^ n → b < 2 ^ n → a ≠ b → lowr n a b = true ∨ lowr n b a = true
  | 0, a, b, ha, hb, h => by
    have h1 : a = 0 := by simpa using ha
    have h2 : b = 0 := by simpa using hb
    omega
  | n + 1, a, b, ha, hb, h => by
    rw [Nat.pow_succ] at ha hb
    unfold lowr
    by_cases g : a % 2 = b % 2
    · rw [if_pos g, if_pos g.symm]
      exact lowr_tot n _ _ (by omega) (by omega) (by omega)
    · rw [if_neg g, if_neg (fun q => g q.symm)]
      have : a % 2 = 1 ∨ b % 2 = 1 := by omega
      simpa using this
theorem btr_tr {n : Nat} {K : Nat → Int} {a b c : Nat} (h1 : btr n K a b) (h2 : btr n K b c) : btr n K a c := by
  unfold btr at *
  generalize popB n a = pa at *
  generalize popB n b = pb at *
  generalize popB n c = pc at *
  generalize K a = ka at *
  generalize K b = kb at *
  generalize K c = kc at *
  rcases h1 with h1 | ⟨h1, h1' | ⟨h1', h1''⟩⟩ <;> rcases h2 with h2 | ⟨h2, h2' | ⟨h2', h2''⟩⟩
  · exact Or.inl (by omega)
  · exact Or.inl (by omega)
  · exact Or.inl (by omega)
  · exact Or.inl (by omega)
  · exact Or.inr ⟨by omega, Or.inl (by omega)⟩
  · exact Or.inr ⟨by omega, Or.inl (by omega)⟩
  · exact Or.inl (by omega)
  · exact Or.inr ⟨by omega, Or.inl (by omega)⟩
  · exact Or.inr ⟨by omega, Or.inr ⟨by omega, lowr_tr _ _ _ _ h1'' h2''⟩⟩
theorem btr_tot {n : Nat} {K : Nat → Int} {a b : Nat} (ha : a < 2 ^ n) (hb : b < 2 ^ n) (h : a ≠ b) (hn : ¬ btr n K a b) : btr n K b a := by
  unfold btr at *
  have ht := lowr_tot n a b ha hb h
  generalize lowr n a b = l1 at *
  generalize lowr n b a = l2 at *
  generalize popB n a = pa at *
  generalize popB n b = pb at *
  generalize K a = ka at *
  generalize K b = kb at *
  clear ha hb h
  by_cases g1 : pb < pa
  · exact Or.inl g1
  · by_cases g2 : pa < pb
    · exact absurd (Or.inl g2) hn
    · by_cases g3 : kb < ka
      · exact Or.inr ⟨by omega, Or.inl g3⟩
      · by_cases g4 : ka < kb
        · exact absurd (Or.inr ⟨by omega, Or.inl g4⟩) hn
        · refine Or.inr ⟨by omega, Or.inr ⟨by omega, ?_⟩⟩
          rcases ht with ht | ht
          · exact absurd (Or.inr ⟨by omega, Or.inr ⟨by omega, ht⟩⟩) hn
          · exact ht
/-- the search's state in the cells -/
def mE (D : zD) (c l : Int) : zD := zwr (zwr D 32 26 c) 32 27 l
theorem mE_o {D : zD} {c l : Int} {a i : Nat} (h : a ≠ 32 ∨ (i ≠ 26 ∧ i ≠ 27)) : mE D c l a i = D a i := by
  unfold mE zwr
  rw [if_neg (by omega), if_neg (by omega)]
theorem mE_c {D : zD} {c l : Int} : mE D c l 32 26 = c := by
  unfold mE zwr
  rw [if_neg (by omega), if_pos ⟨rfl, rfl⟩]
theorem mE_l {D : zD} {c l : Int} : mE D c l 32 27 = l := by
  unfold mE zwr
  rw [if_pos ⟨rfl, rfl⟩]
theorem mE_E {D : zD} {c l c' l' : Int} : mE (mE D c l) c' l' = mE D c' l' := by
  funext a i
  unfold mE zwr
  by_cases h1 : a = 32 ∧ i = 27
  · simp [h1]
  · by_cases h2 : a = 32 ∧ i = 26
    · simp [h1, h2]
    · simp [h1, h2]
theorem mE_cl {D : zD} {c l : Int} (h : mCl D) : mCl (mE D c l) := by
  obtain ⟨h1, h2, h3⟩ := h
  refine ⟨?_, ?_, fun i hi => ?_⟩
  · rw [mE_o (by omega)]
    exact h1
  · rw [mE_o (by omega)]
    exact h2
  · rw [mE_o (by omega)] at hi
    rw [mE_o (by omega), mE_o (by omega), mE_o (by omega), mE_o (by omega), mE_o (by omega)]
    exact h3 i hi
theorem mE_mvs {D : zD} {c l : Int} {m : Nat} : ∀ n, mvs (mE D c l) m n = mvs D m n
  | 0 => rfl
  | n + 1 => by rw [mvs, mvs, mE_mvs n, mE_o (by omega), mE_o (by omega)]
theorem mE_mdv {D : zD} {c l : Int} {m : Nat} {gap lev : Int} : mdv (mE D c l) m gap lev = mdv D m gap lev := by
  unfold mdv
  rw [mE_mvs, mE_o (by omega)]
theorem mE_mss {D : zD} {c l : Int} {m : Nat} : ∀ n, mss (mE D c l) m n = mss D m n
  | 0 => rfl
  | n + 1 => by rw [mss, mss, mE_mss n, mE_o (by omega)]
theorem mTk_E {D : zD} {c l : Int} {m : Nat} {gap lev : Int} : mTk (mE D c l) m gap lev = if mTkc (mE D c l) m gap lev then mE D m ((mdv D m gap lev).toNat : Nat) else mE D c l := by
  unfold mTk
  by_cases g : mTkc (mE D c l) m gap lev
  · rw [if_pos g, if_pos g, mE_mdv]
    exact mE_E
  · rw [if_neg g, if_neg g]
theorem mTkc_E {D : zD} {c : Nat} {l : Int} {m : Nat} {gap lev : Int} : mTkc (mE D c l) m gap lev ↔ ((c : Int) = 0 ∨ popB 12 m < popB 12 c ∨ (popB 12 m = popB 12 c ∧ (FP.Core.fkey (mdv D m gap lev) < FP.Core.fkey (UInt32.ofNat l.toNat) ∨ (FP.Core.fkey (mdv D m gap lev) = FP.Core.fkey (UInt32.ofNat l.toNat) ∧ lowr 12 m c = true)))) := by
  unfold mTkc mLst
  rw [mE_mdv, mE_c, mE_l, Int.toNat_natCast]
/-- what has been found of the sets above t -/
def mInv (D : zD) (gap lev : Int) (t c : Nat) (l : Int) : Prop := c < 4096 ∧ FP.Core.fIsNaN (UInt32.ofNat l.toNat) = false ∧
  ((c = 0 ∧ l = D 32 27 ∧ ∀ x, t < x → ¬ mch (clsD D) gap x) ∨ (mch (clsD D) gap c ∧ c ≠ 0 ∧ l = ((mdv D c gap lev).toNat : Nat) ∧ ∀ x, t < x → mch (clsD D) gap x → x = c ∨ btr (clsD D).length (fun m => FP.Core.fkey (mdv D m gap lev)) c x))
theorem clsD_len {D : zD} (h : 0 ≤ D 32 7 ∧ D 32 7 ≤ 12) : (clsD D).length = (D 32 7).toNat := clsF_len _ _
theorem mch_lt {D : zD} (hD : mCl D) {gap : Int} {x : Nat} (h : mch (clsD D) gap x) : x < 2 ^ (clsD D).length ∧ x < 4096 ∧ x &&& mal D (D 32 7).toNat = x ∧ mss D x (D 32 7).toNat = gap := by
  obtain ⟨h1, h2⟩ := h
  have h3 := subC_lt _ _ h1
  have h4 := clsD_len hD.1
  refine ⟨h3, Nat.lt_of_lt_of_le h3 ?_, mal_sub.mp h1, ?_⟩
  · rw [h4]
    exact Nat.pow_le_pow_right (n := 2) (by omega) (show (D 32 7).toNat ≤ 12 by have := hD.1; omega)
  · have := sum_mss (D := D) x (D 32 7).toNat 0
    rw [Nat.zero_add, mss, Int.zero_add, Nat.pow_zero, Nat.div_one] at this
    rw [this]
    exact h2
theorem mch_of {D : zD} {gap : Int} {x : Nat} (h1 : x &&& mal D (D 32 7).toNat = x) (h2 : mss D x (D 32 7).toNat = gap) : mch (clsD D) gap x := by
  refine ⟨mal_sub.mpr h1, ?_⟩
  have := sum_mss (D := D) x (D 32 7).toNat 0
  rw [Nat.zero_add, mss, Int.zero_add, Nat.pow_zero, Nat.div_one] at this
  rw [h2] at this
  exact this.symm
/-- one set more -/
theorem mInv_s {D : zD} (hD : mCl D) {gap lev : Int} (hg : 1 ≤ gap ∧ gap ≤ 3600) {t c : Nat} {l : Int} (ht : t &&& mal D (D 32 7).toNat = t) (ht0 : 0 < t) (hI : mInv D gap lev t c l) :
    ∃ (c' : Nat) (l' : Int), (if mss D t (D 32 7).toNat = gap then mTk (mE D c l) t gap lev else mE D c l) = mE D c' l' ∧ mInv D gap lev ((t - 1) &&& mal D (D 32 7).toNat) c' l' := by
  obtain ⟨hc, hn, hI⟩ := hI
  have ht12 : t < 4096 := by
    have h1 : t ≤ mal D (D 32 7).toNat := by
      rw [← ht]
      exact Nat.and_le_right
    have h2 := mal_lt (D := D) (D 32 7).toNat
    have h3 : 2 ^ (D 32 7).toNat ≤ 2 ^ 12 := Nat.pow_le_pow_right (by omega) (by have := hD.1; omega)
    omega
  have hno : ∀ x, (t - 1) &&& mal D (D 32 7).toNat < x → mch (clsD D) gap x → t < x ∨ x = t := by
    intro x h1 h2
    have h3 := (mch_lt hD h2).2.2.1
    by_cases h4 : x < t
    · have := bt_next t (mal D (D 32 7).toNat) x ht h3 h4
      omega
    · omega
  by_cases hs : mss D t (D 32 7).toNat = gap
  · have hm := mch_of ht hs
    have hlt := (mch_lt hD hm).1
    rw [if_pos hs, mTk_E]
    have hpop : ∀ x, mch (clsD D) gap x → popB 12 x = popB (clsD D).length x := by
      intro x hx
      have h1 := (mch_lt hD hx).1
      have h2 : (clsD D).length ≤ 12 := by rw [clsD_len hD.1]; have := hD.1; omega
      have := popB_ext (clsD D).length (12 - (clsD D).length) x h1
      rwa [show (clsD D).length + (12 - (clsD D).length) = 12 by omega] at this
    have hlow : ∀ x y, mch (clsD D) gap x → mch (clsD D) gap y → lowr 12 x y = lowr (clsD D).length x y := by
      intro x y hx hy
      have h1 := (mch_lt hD hx).1
      have h1' := (mch_lt hD hy).1
      have h2 : (clsD D).length ≤ 12 := by rw [clsD_len hD.1]; have := hD.1; omega
      have := lowr_ext (clsD D).length (12 - (clsD D).length) x y h1 h1'
      rwa [show (clsD D).length + (12 - (clsD D).length) = 12 by omega] at this
    rcases hI with ⟨rfl, hl, hI⟩ | ⟨hcm, hc0, hl, hI⟩
    · refine ⟨t, ((mdv D t gap lev).toNat : Nat), ?_, ht12, ?_, Or.inr ⟨hm, by omega, rfl, fun x h1 h2 => ?_⟩⟩
      · rw [if_pos (mTkc_E.mpr (Or.inl rfl))]
      · rw [Int.toNat_natCast, UInt32.ofNat_toNat]
        exact mdv_nn hD hg
      · rcases hno x h1 h2 with h3 | h3
        · exact absurd h2 (hI x h3)
        · exact Or.inl h3
    · have hiff : mTkc (mE D c l) t gap lev ↔ btr (clsD D).length (fun m => FP.Core.fkey (mdv D m gap lev)) t c := by
        rw [mTkc_E, hl, Int.toNat_natCast, UInt32.ofNat_toNat, hpop t hm, hpop c hcm, hlow t c hm hcm]
        unfold btr
        constructor
        · rintro (q | q)
          · exact absurd (Int.ofNat_eq_zero.mp q) hc0
          · exact q
        · exact fun q => Or.inr q
      by_cases hb : mTkc (mE D c l) t gap lev
      · rw [if_pos hb]
        refine ⟨t, _, rfl, ht12, ?_, Or.inr ⟨hm, by omega, rfl, fun x h1 h2 => ?_⟩⟩
        · rw [Int.toNat_natCast, UInt32.ofNat_toNat]
          exact mdv_nn hD hg
        · rcases hno x h1 h2 with h3 | h3
          · rcases hI x h3 h2 with h4 | h4
            · rw [h4]
              exact Or.inr (hiff.mp hb)
            · exact Or.inr (btr_tr (hiff.mp hb) h4)
          · exact Or.inl h3
      · rw [if_neg hb]
        refine ⟨c, l, rfl, hc, hn, Or.inr ⟨hcm, hc0, hl, fun x h1 h2 => ?_⟩⟩
        rcases hno x h1 h2 with h3 | h3
        · exact hI x h3 h2
        · rw [h3]
          by_cases he : t = c
          · exact Or.inl he
          · exact Or.inr (btr_tot hlt (mch_lt hD hcm).1 he (fun q => hb (hiff.mpr q)))
  · rw [if_neg hs]
    refine ⟨c, l, rfl, hc, hn, ?_⟩
    rcases hI with ⟨h0, hl, hI⟩ | ⟨hcm, hc0, hl, hI⟩
    · refine Or.inl ⟨h0, hl, fun x h1 h2 => ?_⟩
      rcases hno x h1 h2 with h3 | h3
      · exact hI x h3 h2
      · rw [h3] at h2
        exact hs (mch_lt hD h2).2.2.2
    · refine Or.inr ⟨hcm, hc0, hl, fun x h1 h2 => ?_⟩
      rcases hno x h1 h2 with h3 | h3
      · exact hI x h3 h2
      · rw [h3] at h2
        exact absurd (mch_lt hD h2).2.2.2 hs

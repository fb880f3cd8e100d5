/-! the first state of the law's loop -/
def pG (k i : Nat) : Nat := if k < 20 then (if zty k i = 4 then 4 else if zty k i = 5 then 5 else if zty k i = 6 then 6 else if zty k i = 7 then 7 else 0) else if k = 24 then 4 else if k = 25 then 6 else if k = 27 ∨ k = 28 then 7 else 0
def pN (t : Nat) : Nat := if t = 4 ∨ t = 5 ∨ t = 6 ∨ t = 7 ∨ 100 ≤ t then t else 0
theorem dfl_g {k i : Nat} (h : pG k i ≠ 7) : dfl k i = zenc (pG k i) 0 := by
  unfold pG dfl at *
  by_cases h1 : k < 20
  · rw [if_pos h1] at h ⊢
    rw [if_pos h1]
    unfold zdef
    by_cases g4 : zty k i = 4
    · rw [if_pos g4, if_pos g4]; rfl
    · rw [if_neg g4, if_neg g4]
      rw [if_neg g4] at h
      by_cases g5 : zty k i = 5
      · rw [if_pos g5, if_pos g5]; rfl
      · rw [if_neg g5, if_neg g5]
        rw [if_neg g5] at h
        by_cases g6 : zty k i = 6
        · rw [if_pos g6, if_pos g6]; rfl
        · rw [if_neg g6, if_neg g6]
          rw [if_neg g6] at h
          by_cases g7 : zty k i = 7
          · rw [if_pos g7] at h
            exact absurd rfl h
          · rw [if_neg g7, if_neg g7]; rfl
  · rw [if_neg h1] at h ⊢
    rw [if_neg h1]
    by_cases g4 : k = 24
    · rw [if_pos g4, if_pos g4]; rfl
    · rw [if_neg g4, if_neg g4]
      rw [if_neg g4] at h
      by_cases g5 : k = 25
      · rw [if_pos g5, if_pos g5]; rfl
      · rw [if_neg g5, if_neg g5]
        rw [if_neg g5] at h
        by_cases g6 : k = 27 ∨ k = 28
        · rw [if_pos g6] at h
          exact absurd rfl h
        · rw [if_neg g6, if_neg g6]; rfl
theorem zenc_n (t : Nat) : zenc t 0 = zenc (pN t) 0 := by
  unfold pN
  by_cases h : t = 4 ∨ t = 5 ∨ t = 6 ∨ t = 7 ∨ 100 ≤ t
  · rw [if_pos h]
  · rw [if_neg h]
    unfold zenc
    rw [if_neg (show ¬ 100 ≤ t by omega), if_neg (show ¬ t = 4 by omega), if_neg (show ¬ t = 5 by omega), if_neg (show ¬ t = 6 by omega), if_neg (show ¬ t = 7 by omega)]
    rfl
theorem gD_ge {α : Type} (l : List α) {i : Nat} (d : α) (h : l.length ≤ i) : l.getD i d = d := by
  rw [List.getD_eq_getElem?_getD, List.getElem?_eq_none h]
  rfl
theorem pA0 : (List.range 70).all (fun a => (List.range 41).all (fun i => !(decide (3 ≤ a) && a != 4 && a != 5 && a != 18 && a != 44) || (pW.contains (a, i) || (pN (zst a i) == pG (zsk a) i && pG (zsk a) i != 7)))) = true := by decide +kernel
theorem pA : ∀ a, a < 70 → ∀ i, i < 41 → (3 ≤ a ∧ a ≠ 4 ∧ a ≠ 5 ∧ a ≠ 18 ∧ a ≠ 44) → (pW.contains (a, i) = true ∨ (pN (zst a i) = pG (zsk a) i ∧ pG (zsk a) i ≠ 7)) := fun a ha i hi hq => by
  have := List.all_eq_true.mp (List.all_eq_true.mp pA0 a (List.mem_range.mpr ha)) i (List.mem_range.mpr hi)
  rw [Bool.or_eq_true, Bool.or_eq_true, Bool.and_eq_true, beq_iff_eq, bne_iff_ne] at this
  rcases this with q | q
  · exfalso
    simp only [Bool.not_eq_true', Bool.and_eq_false_iff, decide_eq_false_iff_not, bne_eq_false_iff_eq] at q
    omega
  · exact q
theorem zty_40 {k i : Nat} (h : 40 ≤ i) : zty k i = 9 := by
  have : ∀ c, c < 8 → (([[0, 1, 0, 0, 0, 0, 0, 4], [7, 3, 0, 7, 0, 1, 1, 0, 0, 0], [7, 7, 7, 0, 7, 1, 7, 7, 7, 7, 0], [3, 0, 0], [7, 7, 7, 0], [7, 7, 7, 7, 7, 0, 1, 1], [7, 7, 7, 7, 7, 7, 7, 0, 0, 7, 7, 7, 7, 7, 7, 0, 0, 7, 7, 7, 7, 0, 7, 7, 7, 7, 0, 5, 7, 7, 0, 1, 0], [0, 7, 0]] : List (List Nat)).getD c []).length ≤ 40 := by decide
  refine gD_ge _ 9 (Nat.le_trans ?_ h)
  by_cases g : k < 8
  · exact this k g
  · rw [gD_ge ([[0, 1, 0, 0, 0, 0, 0, 4], [7, 3, 0, 7, 0, 1, 1, 0, 0, 0], [7, 7, 7, 0, 7, 1, 7, 7, 7, 7, 0], [3, 0, 0], [7, 7, 7, 0], [7, 7, 7, 7, 7, 0, 1, 1], [7, 7, 7, 7, 7, 7, 7, 0, 0, 7, 7, 7, 7, 7, 7, 0, 0, 7, 7, 7, 7, 0, 7, 7, 7, 7, 0, 5, 7, 7, 0, 1, 0], [0, 7, 0]] : List (List Nat)) (i := k) [] (show 8 ≤ k by omega)]
    exact Nat.zero_le _
theorem pG_40 {k i : Nat} (h : 40 ≤ i) : pG k i = pG k 40 := by
  unfold pG
  rw [zty_40 h, zty_40 (Nat.le_refl 40)]
theorem zst_40 {a i : Nat} (h : 40 ≤ i) : zst a i = zst a 40 := by
  unfold zst
  by_cases h1 : 45 ≤ a ∧ a < 57
  · rw [if_pos h1, if_pos h1]
  rw [if_neg h1, if_neg h1]
  by_cases h2 : 19 ≤ a ∧ a < 28
  · rw [if_pos h2, if_pos h2]
  rw [if_neg h2, if_neg h2]
  by_cases h3 : a = 18
  · rw [if_pos h3, if_pos h3, if_neg (by omega), if_neg (by omega)]
  rw [if_neg h3, if_neg h3]
  by_cases h4 : a = 44
  · rw [if_pos h4, if_pos h4, if_neg (by omega), if_neg (by omega)]
  rw [if_neg h4, if_neg h4]
  have q : (zstL.getD (a - 3) []).length ≤ 40 := by
    have : ∀ c, c < 67 → (zstL.getD c []).length ≤ 40 := by decide +kernel
    by_cases g : a - 3 < 67
    · exact this _ g
    · rw [gD_ge zstL (i := a - 3) [] (show 67 ≤ a - 3 by omega)]
      exact Nat.zero_le _
  rw [gD_ge _ _ (show _ ≤ i from Nat.le_trans q h), gD_ge _ _ q]
theorem pD_0 {a i : Nat} (h : a ≠ 18 ∧ a ≠ 44) : pD a i = 0 := if_neg (by omega)
theorem pV_c {a i : Nat} (ha : (a = 3 ∨ 6 ≤ a) ∧ a < 70) : pV 54 a i = zenc (zst a i) (pD a i) := by
  have e1 : pT a i = zenc (zst a i) (pD a i) := if_neg (by omega)
  have e0 : pW.take 54 = pW := by decide +kernel
  unfold pV
  rw [e0, e1]
  by_cases h : pW.contains (a, i) = true ∨ a = 18 ∨ a = 44
  · rw [if_pos h]
  · rw [if_neg h]
    have hn : a ≠ 18 ∧ a ≠ 44 := ⟨fun q => h (Or.inr (Or.inl q)), fun q => h (Or.inr (Or.inr q))⟩
    have ek : pK a = zsk a := if_neg (by omega)
    rw [pD_0 hn, ek, zenc_n]
    by_cases g : i < 41
    · rcases pA a ha.2 i g ⟨by omega, by omega, by omega, hn.1, hn.2⟩ with q | q
      · exact absurd (Or.inl q) h
      · rw [q.1, dfl_g q.2]
    · rcases pA a ha.2 40 (by decide) ⟨by omega, by omega, by omega, hn.1, hn.2⟩ with q | q
      · exfalso
        have : pW.all (fun w => w.2 != 40) = true := by decide +kernel
        have := List.all_eq_true.mp this _ (List.contains_iff_mem.mp q)
        simp at this
      · rw [zst_40 (by omega), q.1, ← pG_40 (show 40 ≤ i by omega)]
        rw [← pG_40 (show 40 ≤ i by omega)] at q
        rw [dfl_g q.2]
def pX (a i : Nat) : Int := if (a = 4 ∨ a = 5) ∧ i = 1 then 1 else 0
theorem zP_U {L : Nat} {xs : Nat → Int32} : zU (zP L xs 70 54) pX = zP L xs 70 54 := by
  refine Prod.ext rfl (Prod.ext rfl (Prod.ext rfl ?_))
  funext a i
  show (if (a = 4 ∨ a = 5 ∨ 70 ≤ a) ∧ i < 100 ∧ dyk (zk (zP L xs 70 54) a) = true then zenc (dty (zk (zP L xs 70 54) a) i) (pX a i) else zm (zP L xs 70 54) a i) = zm (zP L xs 70 54) a i
  by_cases h : (a = 4 ∨ a = 5 ∨ 70 ≤ a) ∧ i < 100 ∧ dyk (zk (zP L xs 70 54) a) = true
  · rw [if_pos h]
    have ha : a = 4 ∨ a = 5 := by
      rcases h.1 with q | q | q
      · exact Or.inl q
      · exact Or.inr q
      · exfalso
        have e : zk (zP L xs 70 54) a = 60 := by
          show (if a = 0 then 30 else if a = 1 then 31 else if a = 2 then 50 else if a < 70 then pK a else 60) = 60
          rw [if_neg (by omega), if_neg (by omega), if_neg (by omega), if_neg (by omega)]
        have h2 := h.2.2
        rw [e] at h2
        exact absurd h2 (by decide)
    have ek : zk (zP L xs 70 54) a = 7 := by
      rcases ha with rfl | rfl
      · exact zP_k4 (by decide)
      · exact zP_k5 (by decide)
    have em : zm (zP L xs 70 54) a i = pV 54 a i := by
      show (if a = 0 then Value.int (xs i) else if 3 ≤ a ∧ a < 70 then pV 54 a i else .null) = _
      rw [if_neg (by omega), if_pos (by omega)]
    rw [ek, em]
    have e1 : pT a i = if i = 1 then .ref 1 else .int (Int32.ofInt 0) := if_pos ha
    have eK : pK a = 7 := if_pos ha
    unfold pV
    rw [e1, eK]
    by_cases g : i = 1
    · subst g
      have q : (pW.take 54).contains (a, 1) = true := by
        rcases ha with rfl | rfl <;> decide +kernel
      rw [if_pos (Or.inl q), if_pos rfl]
      have : pX a 1 = 1 := if_pos ⟨ha, rfl⟩
      rw [this]
      rfl
    · rw [if_neg g]
      have ex : pX a i = 0 := if_neg (by omega)
      have ed : dty 7 i = 0 := by
        unfold dty
        rw [if_neg (by omega), if_neg (by omega)]
      rw [ex, ed]
      have e9 : dfl 7 i = .int (Int32.ofInt 0) := by
        rcases (show i = 0 ∨ i = 2 ∨ 3 ≤ i by omega) with q | q | q
        · subst q; rfl
        · subst q; rfl
        · have : zty 7 i = 9 := by
            unfold zty
            exact gD_ge _ 9 (show _ ≤ i from (show 3 ≤ i from q))
          show zdef (zty 7 i) = _
          rw [this]
          rfl
      rw [e9]
      exact (ite_self _).symm
  · rw [if_neg h]
theorem zP_V {L : Nat} {xs : Nat → Int32} : zP L xs 70 54 = zV (zU (zP L xs 70 54) pX) pD := by
  rw [zP_U]
  refine zV_of fun a ha => ⟨?_, ?_, fun i => ?_⟩
  · rw [zP_k (by omega) ha.2]
    exact if_neg (by omega)
  · show (if a = 0 then L else if 3 ≤ a ∧ a < 70 then pL a else 0) = _
    rw [if_neg (by omega), if_pos (by omega)]
    exact if_neg (by omega)
  · show (if a = 0 then Value.int (xs i) else if 3 ≤ a ∧ a < 70 then pV 54 a i else .null) = _
    rw [if_neg (by omega), if_pos (by omega)]
    exact pV_c ha
theorem Inv_0 {L : Nat} {xs : Nat → Int32} : Inv 0 (zP L xs 70 54) pX pD := by
  have e15 : pD 32 15 = 0 := rfl
  have e7 : pD 32 7 = 0 := rfl
  have e57 : ∀ i, pD 57 i = 0 := fun i => pD_0 ⟨by decide, by decide⟩
  have hl : ∀ a, (a = 4 ∨ a = 5) → ∀ K, lsO (zP L xs 70 54) pX a 0 K := fun a ha K => by
    refine ⟨⟨?_, if_neg (by omega), Int.le_refl 0⟩, Or.inl ⟨rfl, if_pos ⟨ha, rfl⟩⟩, fun i hi => absurd hi (by omega)⟩
    rcases ha with rfl | rfl
    · exact zP_k4 (by decide)
    · exact zP_k5 (by decide)
  refine ⟨⟨⟨⟨⟨by decide, by decide⟩, ⟨by decide, by decide⟩, fun i hi => ?_⟩, ⟨⟨by decide, by decide⟩, fun e he => ?_, fun i => ?_, by decide⟩, by decide +kernel, ⟨by decide, by decide⟩, ⟨by decide, by decide⟩, Or.inl rfl⟩, fun e he => ?_, fun i => ?_, rfl, fun i => ?_⟩, ⟨⟨hl 4 (Or.inl rfl) 0, fun i hi => ?_⟩, ⟨hl 5 (Or.inr rfl) 1, fun i j hi => ?_, fun e he => ?_⟩, fun e he => ?_⟩, ⟨⟨rfl, fun i _ => pD_0 ⟨by decide, by decide⟩⟩, rfl, Or.inl ⟨rfl, rfl, rfl⟩⟩, ⟨⟨⟨⟨by decide, by decide⟩, fun i hi => ?_⟩, by decide, Or.inl rfl, fun q => absurd q (by decide)⟩, fun k hk => ?_, ⟨rfl, fun k hk => ?_⟩⟩, Or.inl rfl, ⟨⟨?_, rfl, rfl⟩, ⟨?_, ?_⟩, Nat.zero_le _⟩⟩
  · rw [e7] at hi; omega
  · rw [e15] at he; omega
  · rw [pD_0 ⟨by decide, by decide⟩]; omega
  · rw [e15] at he; omega
  · rw [pD_0 ⟨by decide, by decide⟩]; omega
  · rw [pD_0 ⟨by decide, by decide⟩, pD_0 ⟨by decide, by decide⟩]
    omega
  · rw [e7] at hi; omega
  · rw [e15] at hi; omega
  · rw [e15] at he; omega
  · rw [e15] at he; omega
  · rw [show pD 14 3 = 0 from rfl] at hi; omega
  · rw [show pD 14 3 = 0 from rfl] at hk; omega
  · exact absurd hk (Nat.not_lt_zero _)
  · show 70 ≤ 70
    omega
  · show 70 - 3 ≤ _
    omega
  · show pU 70 ≤ _
    decide +kernel

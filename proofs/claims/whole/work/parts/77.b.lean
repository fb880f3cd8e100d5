/-! the first state is a good one -/
theorem zst_b0 : (List.range 70).all (fun a => (List.range 41).all (fun i => decide (zst a i < 170))) = true := by decide +kernel
theorem zst_b {a i : Nat} (ha : a < 70) : zst a i < 170 := by
  by_cases h : i < 41
  · exact of_decide_eq_true (List.all_eq_true.mp (List.all_eq_true.mp zst_b0 a (List.mem_range.mpr ha)) i (List.mem_range.mpr h))
  · rw [zst_40 (by omega)]
    exact of_decide_eq_true (List.all_eq_true.mp (List.all_eq_true.mp zst_b0 a (List.mem_range.mpr ha)) 40 (by decide))
theorem zenc_v {t : Nat} {x : Int} (ht : t < 170) (hx : x ≤ 0) : VOK 70 (zenc t x) := by
  intro a e
  unfold zenc at e
  by_cases h1 : 100 ≤ t
  · rw [if_pos h1] at e
    cases e
    show t - 100 < 70
    omega
  rw [if_neg h1] at e
  by_cases h2 : t = 4
  · rw [if_pos h2] at e; cases e
  rw [if_neg h2] at e
  by_cases h3 : t = 5
  · rw [if_pos h3] at e; cases e
  rw [if_neg h3] at e
  by_cases h4 : t = 6
  · rw [if_pos h4] at e; cases e
  rw [if_neg h4] at e
  by_cases h5 : t = 7
  · rw [if_pos h5] at e
    by_cases h6 : x < 0
    · rw [if_pos h6] at e; cases e
    · rw [if_neg h6] at e
      cases e
      exact (show x.toNat < 70 by omega)
  · rw [if_neg h5] at e; cases e
theorem pD_le {a i : Nat} : pD a i ≤ 0 := by
  unfold pD
  split <;> omega
theorem pT_v {a i : Nat} (ha : a < 70) : VOK 70 (pT a i) := by
  unfold pT
  by_cases h : a = 4 ∨ a = 5
  · rw [if_pos h]
    by_cases h1 : i = 1
    · rw [if_pos h1]
      intro b e
      cases e
      exact (by decide : (1 : Nat) < 70)
    · rw [if_neg h1]
      intro b e
      cases e
  · rw [if_neg h]
    exact zenc_v (zst_b ha) pD_le
theorem zdef_v {t : Nat} : VOK 70 (zdef t) := by
  intro a e
  unfold zdef at e
  by_cases h1 : t = 4
  · rw [if_pos h1] at e; cases e
  rw [if_neg h1] at e
  by_cases h2 : t = 5
  · rw [if_pos h2] at e; cases e
  rw [if_neg h2] at e
  by_cases h3 : t = 6
  · rw [if_pos h3] at e; cases e
  rw [if_neg h3] at e
  by_cases h4 : t = 7
  · rw [if_pos h4] at e; cases e
  · rw [if_neg h4] at e; cases e
theorem dfl_v {k i : Nat} : VOK 70 (dfl k i) := by
  unfold dfl
  by_cases h1 : k < 20
  · rw [if_pos h1]
    exact zdef_v
  rw [if_neg h1]
  by_cases h2 : k = 24
  · rw [if_pos h2]; intro b e; cases e
  rw [if_neg h2]
  by_cases h3 : k = 25
  · rw [if_pos h3]; intro b e; cases e
  rw [if_neg h3]
  by_cases h4 : k = 27 ∨ k = 28
  · rw [if_pos h4]; intro b e; cases e
  · rw [if_neg h4]; intro b e; cases e
theorem pV_v {m a i : Nat} (ha : a < 70) : VOK 70 (pV m a i) := by
  unfold pV
  split
  · exact pT_v ha
  · exact dfl_v
theorem pK_0 : (List.range 70).all (fun a => !decide (3 ≤ a) || ((!decide (pK a < 20) || decide (pK a < 8)) && decide (pK a < 29))) = true := by decide +kernel
theorem zP_I {L : Nat} {xs : Nat → Int32} : zINV L xs (zP L xs 70 54) := by
  have hk : ∀ a, zk (zP L xs 70 54) a = if a = 0 then 30 else if a = 1 then 31 else if a = 2 then 50 else if a < 70 then pK a else 60 := fun _ => rfl
  have hp : ∀ a, 3 ≤ a → a < 70 → (¬ pK a < 20 ∨ pK a < 8) ∧ pK a < 29 := fun a h1 h2 => by
    have q := List.all_eq_true.mp pK_0 a (List.mem_range.mpr h2)
    rw [Bool.or_eq_true, Bool.and_eq_true, Bool.or_eq_true] at q
    rcases q with q | q
    · rw [Bool.not_eq_true', decide_eq_false_iff_not] at q
      exact absurd h1 q
    · refine ⟨?_, of_decide_eq_true q.2⟩
      rcases q.1 with w | w
      · rw [Bool.not_eq_true', decide_eq_false_iff_not] at w
        exact Or.inl w
      · exact Or.inr (of_decide_eq_true w)
  refine ⟨⟨?_, fun a h => ?_, rfl, rfl, rfl, rfl, rfl, fun _ _ => rfl, fun a i => ?_⟩, fun a h => ?_, fun a h => ?_⟩
  · show 3 ≤ 70
    omega
  · rw [hk] at h
    show 3 ≤ a ∧ a < 70
    by_cases h0 : a = 0
    · rw [if_pos h0] at h; omega
    rw [if_neg h0] at h
    by_cases h1 : a = 1
    · rw [if_pos h1] at h; omega
    rw [if_neg h1] at h
    by_cases h2 : a = 2
    · rw [if_pos h2] at h; omega
    rw [if_neg h2] at h
    by_cases h3 : a < 70
    · omega
    · rw [if_neg h3] at h; omega
  · show VOK 70 (if a = 0 then .int (xs i) else if 3 ≤ a ∧ a < 70 then pV 54 a i else .null)
    by_cases h0 : a = 0
    · rw [if_pos h0]; intro b e; cases e
    rw [if_neg h0]
    by_cases h1 : 3 ≤ a ∧ a < 70
    · rw [if_pos h1]; exact pV_v h1.2
    · rw [if_neg h1]; intro b e; cases e
  · rw [hk] at h ⊢
    by_cases h0 : a = 0
    · rw [if_pos h0] at h; omega
    rw [if_neg h0] at h ⊢
    by_cases h1 : a = 1
    · rw [if_pos h1] at h; omega
    rw [if_neg h1] at h ⊢
    by_cases h2 : a = 2
    · rw [if_pos h2] at h; omega
    rw [if_neg h2] at h ⊢
    by_cases h3 : a < 70
    · rw [if_pos h3] at h ⊢
      have := (hp a (by omega) h3).1
      omega
    · rw [if_neg h3] at h; omega
  · rw [hk] at h ⊢
    by_cases h0 : a = 0
    · exact Or.inr (Or.inl h0)
    by_cases h1 : a = 1
    · exact Or.inr (Or.inr h1)
    left
    rw [if_neg h0, if_neg h1] at h ⊢
    by_cases h2 : a = 2
    · rw [if_pos h2] at h; omega
    rw [if_neg h2] at h ⊢
    by_cases h3 : a < 70
    · rw [if_pos h3] at h ⊢
      exact (hp a (by omega) h3).2
    · rw [if_neg h3] at h; omega

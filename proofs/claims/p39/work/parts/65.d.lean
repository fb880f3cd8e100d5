/-! .. how many pieces the best choice has -/
theorem popB_12e : ∀ (n k m : Nat), m < 2 ^ n → popB (n + k) m = popB n m
  | 0, k, m, h => by
    have : m = 0 := by
      have : m < 1 := h
      omega
    subst this
    have z : ∀ k, popB k 0 = 0 := by
      intro k
      induction k with
      | zero => rfl
      | succ k ih => rw [popB, Nat.zero_div, ih]
    rw [z, z]
  | n + 1, k, m, h => by
    rw [show n + 1 + k = (n + k) + 1 by omega, popB, popB, popB_12e n k (m / 2) (by rw [Nat.pow_succ] at h; omega)]
theorem best_pop {D : zD} {gap lev : Int} (hC : mCl D) (hg : 1 ≤ gap ∧ gap ≤ 3600) (hl : -60 ≤ lev ∧ lev ≤ 0) (hn : FP.Core.fIsNaN (mLst D) = false) (h8 : (pcs (clsD D)).length ≤ 8) :
    (bestM D gap lev = 0 ∧ fewR (lns (pcs (clsD D))) gap = 9) ∨ (bestM D gap lev ≠ 0 ∧ fewR (lns (pcs (clsD D))) gap < 9 ∧ (popB 12 (bestM D gap lev) : Int) = fewR (lns (pcs (clsD D))) gap) := by
  have hB := bestM_B hC hg hl hn
  have hp1 : ∀ q ∈ clsD D, 1 ≤ q.2.1 := fun q hq => by
    obtain ⟨i, i1, i2, rfl⟩ := clsF_mem 0 _ q hq
    exact (hC.2.2 i (by omega)).1.1
  have h7 := hC.1
  have hlen := clsD_len h7
  have hr := fewR_r (lns (pcs (clsD D))) gap
  by_cases g9 : fewR (lns (pcs (clsD D))) gap = 9
  · exact Or.inl ⟨bestM_of (isB_0 hp1 (by rw [hlen]; omega) h8 g9), g9⟩
  · obtain ⟨b, hb⟩ := few_sel (lns (pcs (clsD D))) gap (by omega)
    obtain ⟨x, x1, x2, x3, x4⟩ := C_sel (clsD D) _ _ b hb
    rcases hB with ⟨-, q⟩ | ⟨q1, q2⟩
    · exact absurd ⟨x1, x3⟩ (q x)
    · have s1 := sel_C (clsD D) _ hp1 q1.1
      rw [q1.2] at s1
      have s2 := sel_few _ _ _ _ s1
      have s3 : popB (clsD D).length (bestM D gap lev) ≤ popB (clsD D).length x := by
        rcases q2 x ⟨x1, x3⟩ with rfl | q2
        · exact Nat.le_refl _
        · rcases q2 with q2 | q2
          · omega
          · omega
      have hm := mch_lt hC q1
      have e12 : popB 12 (bestM D gap lev) = popB (clsD D).length (bestM D gap lev) := by
        have := popB_12e (clsD D).length (12 - (clsD D).length) _ hm.1
        rw [show (clsD D).length + (12 - (clsD D).length) = 12 by omega] at this
        exact this
      refine Or.inr ⟨fun e => ?_, by omega, by rw [e12]; omega⟩
      have q3 := q1.2
      rw [e] at q3
      have z : ∀ cs : zCL, sumC cs 0 = 0 := by
        intro cs
        induction cs with
        | nil => rfl
        | cons q r ih =>
          rw [sumC_0 rfl]
          exact ih
      rw [z] at q3
      omega

/-! only events differ -/
def evX (h : zH) (X X' : zD) : Prop := ∀ b i, zk h b ≠ 1 → X' b i = X b i
theorem evX.rf {h : zH} {X : zD} : evX h X X := fun _ _ _ => rfl
theorem evX.tr {h : zH} {X X1 X2 : zD} (p : evX h X X1) (q : evX h X1 X2) : evX h X X2 := fun b i g => (q b i g).trans (p b i g)
theorem evX.wr {h : zH} {X X' : zD} {a i : Nat} {x : Int} (p : evX h X X') (ha : zk h a = 1) : evX h X (zwr X' a i x) := fun b j g => by
  have hne : b ≠ a := fun e => g (by rw [e]; exact ha)
  rw [zwr_a hne]
  exact p b j g
theorem lsO_v {h : zH} {X X' : zD} {a K : Nat} {n : Int} (hl : lsO h X a n K) (he : evX h X X') : lsO h X' a n K ∧ ∀ i : Nat, (i : Int) < n → lsE X' a i = lsE X a i := by
  obtain ⟨⟨h1, h2, h3⟩, h4, h5⟩ := hl
  have ea : ∀ i, X' a i = X a i := fun i => he a i (by omega)
  rcases h4 with h4 | ⟨q1, q2, q3, q4, q5⟩
  · refine ⟨⟨⟨h1, by rw [ea]; exact h2, h3⟩, Or.inl ⟨h4.1, by rw [ea]; exact h4.2⟩, fun i hi => by omega⟩, fun i hi => by omega⟩
  · have ed : ∀ i, X' (X a 1).toNat i = X (X a 1).toNat i := fun i => he _ i (by omega)
    refine ⟨⟨⟨h1, by rw [ea]; exact h2, h3⟩, Or.inr ?_, fun i hi => ?_⟩, fun i hi => ?_⟩
    · rw [ea, ed]
      exact ⟨q1, q2, q3, q4, q5⟩
    · rw [ea, ed]
      exact h5 i hi
    · unfold lsE
      rw [ea, ed]

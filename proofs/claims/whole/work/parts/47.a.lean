/-! the reference's answers about the air -/
/-- what holds of the reference's cells at any time -/
def mOk (D : zD) : Prop := mCl D ∧ mEvs D ∧ FP.Core.fIsNaN (mLst D) = false ∧ (0 ≤ D 32 8 ∧ D 32 8 ≤ 8) ∧ (0 ≤ D 32 30 ∧ D 32 30 ≤ 116) ∧ (D 32 31 = 0 ∨ D 32 31 = 1)
def mSp (D : zD) (k : Nat) : Int × Int × Int × Int := (D 58 k, D 61 k, D 59 k, D 60 k)
/-- the k-th span from the first on -/
def spK (sp : zSp) (k : Nat) : Int × Int × Int × Int := sp.reverse.getD k (-1, -1, 0, 0)
theorem spK_cons {x : Int × Int × Int × Int} {r : zSp} {k : Nat} : spK (x :: r) k = if k < r.length then spK r k else if k = r.length then x else (-1, -1, 0, 0) := by
  unfold spK
  rw [List.reverse_cons, List.getD_eq_getElem?_getD, List.getD_eq_getElem?_getD]
  by_cases g : k < r.length
  · rw [if_pos g, List.getElem?_append_left (by rw [List.length_reverse]; exact g)]
  · rw [if_neg g, List.getElem?_append_right (by rw [List.length_reverse]; omega), List.length_reverse]
    by_cases g2 : k = r.length
    · rw [if_pos g2, g2, Nat.sub_self]
      rfl
    · rw [if_neg g2]
      have : k - r.length = (k - r.length - 1) + 1 := by omega
      rw [this]
      simp
theorem mRp_K {D : zD} : ∀ {sp : zSp}, mRp D sp → ∀ k, k < sp.length → D 58 k = (spK sp k).1 ∧ D 61 k = (spK sp k).2.1 ∧ D 59 k = (spK sp k).2.2.1 ∧ D 60 k = (spK sp k).2.2.2
  | [], _, k, hk => absurd hk (Nat.not_lt_zero _)
  | x :: r, ⟨h1, h2⟩, k, hk => by
    rw [spK_cons]
    rw [List.length_cons] at hk
    by_cases g : k < r.length
    · rw [if_pos g]
      exact mRp_K h2 k g
    · rw [if_neg g, if_pos (by omega), show k = r.length by omega]
      exact h1

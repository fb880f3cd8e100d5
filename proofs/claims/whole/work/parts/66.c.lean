/-! .. a gap -/
theorem selC_len : ∀ (cs : zCL) (m : Nat), (selC cs m).length = (pcs cs).length
  | [], _ => rfl
  | q :: r, m => by
    rcases Bool.eq_false_or_eq_true q.1 with hq | hq
    · rw [selC_t hq, pcs_t hq, List.length_cons, List.length_cons, selC_len r]
    · rw [selC_f hq, pcs_f hq, selC_len r]
theorem mkB_b {D : zD} {gap lev : Int} (h8 : (pcs (clsD D)).length ≤ 8) : mkB D gap lev < 256 ∧ ∀ k, k ≤ 7 → (mkB D gap lev).testBit (7 - (0 + k)) = (selC (clsD D) (bestM D gap lev)).getD k false := by
  have hl := selC_len (clsD D) (bestM D gap lev)
  exact ⟨mk_lt _ 0 (by omega), fun k hk => mk_tb _ 0 k (by omega) (by omega)⟩

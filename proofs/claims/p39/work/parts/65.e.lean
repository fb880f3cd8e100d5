/-! .. which clips they are -/
def zpS : List Nat → List Bool → List Nat
  | x :: r, b :: bs => if b = true then x :: zpS r bs else zpS r bs
  | _, _ => []
def tbL (m : Nat) : Nat → Nat → List Nat
  | _, 0 => []
  | c, n + 1 => if m.testBit c = true then c :: tbL m (c + 1) n else tbL m (c + 1) n
theorem zflag_d {D : zD} {d : Int} (hd : D 32 16 = d) {c : Nat} : (zflag D c = true) ↔ (D 38 c = 1 ∧ D 36 c ≤ d ∧ d ≤ D 37 c) := by
  unfold zflag
  rw [hd]
  simp only [Bool.and_eq_true, decide_eq_true_eq]
theorem zp_tb {D : zD} {d : Int} (hd : D 32 16 = d) {m : Nat} : ∀ (n c : Nat), subC (clsF D c n) (m / 2 ^ c) = true → zpS (nuC D d c n) (selC (clsF D c n) (m / 2 ^ c)) = tbL m c n
  | 0, _, _ => rfl
  | n + 1, c, h => by
    rw [clsF] at h ⊢
    obtain ⟨h1, h2⟩ := subC_s h
    rw [tb_half] at h1
    have ih := zp_tb hd (m := m) n (c + 1) h1
    have hb := tb_div m c
    rw [nuC, tbL]
    by_cases g : D 38 c = 1 ∧ D 36 c ≤ d ∧ d ≤ D 37 c
    · have hz := (zflag_d hd).mpr g
      rw [if_pos g, selC_t hz, tb_half, zpS, ih]
      by_cases q : m / 2 ^ c % 2 = 1
      · rw [if_pos (by simp [q]), hb, if_pos (by simp [q])]
      · rw [if_neg (by simp [q]), hb, if_neg (by simp [q])]
    · have hz : zflag D c = false := by
        cases q : zflag D c with
        | false => rfl
        | true => exact absurd ((zflag_d hd).mp q) g
      have h0 := h2 hz
      rw [if_neg g, selC_f hz, tb_half, ih, hb, if_neg (by simp [h0])]

/-! the reference's search, set by set -/
theorem tb_div (m c : Nat) : m.testBit c = decide (m / 2 ^ c % 2 = 1) := Nat.testBit_eq_decide_div_mod_eq
theorem tb_half (m c : Nat) : m / 2 ^ c / 2 = m / 2 ^ (c + 1) := by rw [Nat.div_div_eq_div_mul, Nat.pow_succ]
def mss (D : zD) (m : Nat) : Nat → Int
  | 0 => 0
  | c + 1 => mss D m c + (if m.testBit c = true then D 33 c else 0)
theorem sum_mss {D : zD} (m : Nat) : ∀ (n c : Nat), mss D m (c + n) = mss D m c + sumC (clsF D c n) (m / 2 ^ c)
  | 0, c => by simp [clsF, sumC]
  | n + 1, c => by
    rw [show c + (n + 1) = (c + 1) + n by omega, sum_mss m n (c + 1), mss, clsF, sumC, tb_half, tb_div]
    simp only [decide_eq_true_eq]
    omega
theorem dev_mvs {D : zD} (m : Nat) : ∀ (n c : Nat), mvs D m (c + n) = devC (clsF D c n) (m / 2 ^ c) (mvs D m c)
  | 0, c => rfl
  | n + 1, c => by
    rw [show c + (n + 1) = (c + 1) + n by omega, dev_mvs m n (c + 1), mvs, clsF, devC, tb_half, tb_div]
    simp only [decide_eq_true_eq]
theorem sub_tb {D : zD} : ∀ (n c m : Nat), subC (clsF D c n) m = true ↔ ∀ i, m.testBit i = true → i < n ∧ zflag D (c + i) = true
  | 0, c, m => by
    unfold clsF subC
    simp only [beq_iff_eq]
    constructor
    · intro h i hi
      subst h
      simp at hi
    · intro h
      refine Nat.eq_of_testBit_eq fun i => ?_
      cases hi : m.testBit i with
      | false => simp
      | true => exact absurd (h i hi).1 (Nat.not_lt_zero _)
  | n + 1, c, m => by
    unfold clsF subC
    simp only [Bool.and_eq_true, Bool.or_eq_true, beq_iff_eq]
    rw [sub_tb n (c + 1) (m / 2)]
    constructor
    · rintro ⟨h1, h2⟩ i hi
      cases i with
      | zero =>
        refine ⟨Nat.succ_pos _, ?_⟩
        rcases h1 with h1 | h1
        · exact h1
        · rw [Nat.testBit_zero, decide_eq_true_eq] at hi
          omega
      | succ i =>
        rw [Nat.testBit_succ] at hi
        have := h2 i hi
        exact ⟨by omega, by rw [show c + (i + 1) = c + 1 + i by omega]; exact this.2⟩
    · intro h
      refine ⟨?_, fun i hi => ?_⟩
      · by_cases g : m % 2 = 1
        · have := h 0 (by rw [Nat.testBit_zero, g]; rfl)
          exact Or.inl this.2
        · exact Or.inr (by omega)
      · have := h (i + 1) (by rw [Nat.testBit_succ]; exact hi)
        exact ⟨by omega, by rw [show c + 1 + i = c + (i + 1) by omega]; exact this.2⟩
/-- all of today's pieces among the first c clips -/
def mal (D : zD) : Nat → Nat
  | 0 => 0
  | c + 1 => mal D c ||| (if zflag D c = true then 2 ^ c else 0)
theorem mal_tb {D : zD} : ∀ (n i : Nat), (mal D n).testBit i = (decide (i < n) && zflag D i)
  | 0, i => by simp [mal]
  | n + 1, i => by
    rw [mal, Nat.testBit_or, mal_tb n i]
    by_cases g : zflag D n = true
    · rw [if_pos g, Nat.testBit_two_pow]
      by_cases h : n = i
      · subst h
        simp [g]
      · have : (decide (i < n + 1)) = decide (i < n) := by
          apply decide_eq_decide.mpr
          omega
        simp [h, this]
    · rw [if_neg g]
      by_cases h : n = i
      · subst h
        simp [g]
      · have : (decide (i < n + 1)) = decide (i < n) := by
          apply decide_eq_decide.mpr
          omega
        simp [this]
theorem mal_lt {D : zD} (n : Nat) : mal D n < 2 ^ n := by
  refine Nat.lt_pow_two_of_testBit _ fun i hi => ?_
  rw [mal_tb]
  simp
  intro h
  omega
theorem mal_sub {D : zD} {n m : Nat} : subC (clsF D 0 n) m = true ↔ m &&& mal D n = m := by
  rw [sub_tb]
  constructor
  · intro h
    refine Nat.eq_of_testBit_eq fun i => ?_
    rw [Nat.testBit_and, mal_tb]
    cases hi : m.testBit i with
    | false => rfl
    | true =>
      have := h i hi
      rw [Nat.zero_add] at this
      simp [this.1, this.2]
  · intro h i hi
    have := congrArg (fun x => x.testBit i) h
    simp only [Nat.testBit_and, mal_tb, hi, Bool.true_and, Bool.and_eq_true, decide_eq_true_eq] at this
    rw [Nat.zero_add]
    exact this
theorem mss_b {D : zD} (hD : mCl D) (m : Nat) : ∀ c : Nat, (c : Int) ≤ D 32 7 → 0 ≤ mss D m c ∧ mss D m c ≤ 900 * c
  | 0, _ => by simp [mss]
  | c + 1, h => by
    have := mss_b hD m c (by omega)
    have := (hD.2.2 c (by omega)).1
    unfold mss
    split <;> omega

/-! bits: sets as numbers below 4096, and what the machine's operations make of them -/
theorem bt_half (a b : Nat) : (a &&& b) / 2 = (a / 2) &&& (b / 2) := by
  apply Nat.eq_of_testBit_eq
  intro i
  simp only [Nat.testBit_and, ← Nat.testBit_succ]
theorem bt_mod (a b : Nat) : (a &&& b) % 2 = a % 2 * (b % 2) := by
  have h := Nat.testBit_and a b 0
  simp only [Nat.testBit_zero] at h
  have ha : a % 2 = 0 ∨ a % 2 = 1 := by omega
  have hb : b % 2 = 0 ∨ b % 2 = 1 := by omega
  have hc : (a &&& b) % 2 = 0 ∨ (a &&& b) % 2 = 1 := by omega
  rcases ha with ha | ha <;> rcases hb with hb | hb <;> rcases hc with hc | hc <;> simp [ha, hb, hc] at h ⊢
/-- of the sets in all, none lies between t and the one behind it -/
theorem bt_next : ∀ (t all m : Nat), t &&& all = t → m &&& all = m → m < t → m ≤ (t - 1) &&& all := by
  intro t
  induction t using Nat.strongRecOn with
  | _ t ih =>
    intro all m ht hm hlt
    have h1 := bt_half t all
    have h2 := bt_mod t all
    rw [ht] at h1 h2
    have h3 := bt_half m all
    have h4 := bt_mod m all
    rw [hm] at h3 h4
    have h5 := bt_half (t - 1) all
    have h6 := bt_mod (t - 1) all
    have ha : all % 2 = 0 ∨ all % 2 = 1 := by omega
    rcases Nat.mod_two_eq_zero_or_one t with ht2 | ht2
    · have ht1 : (t - 1) / 2 = t / 2 - 1 := by omega
      have ht0 : (t - 1) % 2 = 1 := by omega
      rw [ht1] at h5
      rw [ht0] at h6
      have hM : m / 2 < t / 2 := by omega
      have := ih (t / 2) (by omega) (all / 2) (m / 2) h1.symm h3.symm hM
      have hm2 : m % 2 = 0 ∨ m % 2 = 1 := by omega
      rcases ha with ha | ha
      · rw [ha] at h4 h6
        omega
      · rw [ha] at h4 h6
        omega
    · have ht1 : (t - 1) / 2 = t / 2 := by omega
      rw [ht1, ← h1] at h5
      omega
theorem bt_and_le (a b : Nat) : a &&& b ≤ a := Nat.and_le_left
theorem bt_i (n : Nat) : Int32.ofInt (n : Int) = Int32.ofNat n := (iI_n n).symm
theorem bt_and (a b : Nat) : Int32.ofInt (a : Int) &&& Int32.ofInt (b : Int) = Int32.ofInt ((a &&& b : Nat) : Int) := by
  rw [bt_i, bt_i, bt_i]
  apply Int32.toBitVec_inj.mp
  simp [Int32.toBitVec_ofNat', BitVec.ofNat_and]
theorem bt_or (a b : Nat) : Int32.ofInt (a : Int) ||| Int32.ofInt (b : Int) = Int32.ofInt ((a ||| b : Nat) : Int) := by
  rw [bt_i, bt_i, bt_i]
  apply Int32.toBitVec_inj.mp
  simp [Int32.toBitVec_ofNat', BitVec.ofNat_or]
theorem bt_xor (a b : Nat) : Int32.ofInt (a : Int) ^^^ Int32.ofInt (b : Int) = Int32.ofInt ((a ^^^ b : Nat) : Int) := by
  rw [bt_i, bt_i, bt_i]
  apply Int32.toBitVec_inj.mp
  simp [Int32.toBitVec_ofNat', BitVec.ofNat_xor]
theorem bt_shr0 : ((List.range 4096).all fun s => (List.range 12).all fun c => decide ((Int32.ofInt (s : Int) >>> (Int32.ofInt (c : Int) &&& 31)) &&& Int32.ofInt 1 = Int32.ofInt (if s.testBit c then 1 else 0))) = true := by decide +kernel
theorem bt_shr {s c : Nat} (hs : s < 4096) (hc : c < 12) : (Int32.ofInt (s : Int) >>> (Int32.ofInt (c : Int) &&& 31)) &&& Int32.ofInt 1 = Int32.ofInt (if s.testBit c then 1 else 0) := by
  have := List.all_eq_true.mp (List.all_eq_true.mp bt_shr0 s (List.mem_range.mpr hs)) c (List.mem_range.mpr hc)
  exact of_decide_eq_true this
theorem bt_shl0 : ((List.range 12).all fun c => decide (Int32.ofInt 1 <<< (Int32.ofInt (c : Int) &&& 31) = Int32.ofInt ((2 ^ c : Nat) : Int))) = true := by decide +kernel
theorem bt_shl {c : Nat} (hc : c < 12) : Int32.ofInt 1 <<< (Int32.ofInt (c : Int) &&& 31) = Int32.ofInt ((2 ^ c : Nat) : Int) :=
  of_decide_eq_true (List.all_eq_true.mp bt_shl0 c (List.mem_range.mpr hc))
/-- the lowest member alone -/
def lowB : Nat → Nat → Nat
  | 0, _ => 0
  | n + 1, p => if p % 2 = 1 then 1 else 2 * lowB n (p / 2)
theorem bt_low0 : ((List.range 4096).all fun p => decide (Int32.ofInt (p : Int) &&& -Int32.ofInt (p : Int) = Int32.ofInt (lowB 12 p : Int))) = true := by decide +kernel
theorem bt_low {p : Nat} (hp : p < 4096) : Int32.ofInt (p : Int) &&& -Int32.ofInt (p : Int) = Int32.ofInt (lowB 12 p : Int) :=
  of_decide_eq_true (List.all_eq_true.mp bt_low0 p (List.mem_range.mpr hp))
/-- how many members -/
def popB : Nat → Nat → Nat
  | 0, _ => 0
  | n + 1, p => p % 2 + popB n (p / 2)
/-- one set has the lower member where both first differ -/
def lowr : Nat → Nat → Nat → Bool
  | 0, _, _ => false
  | n + 1, a, b => if a % 2 = b % 2 then lowr n (a / 2) (b / 2) else a % 2 == 1
theorem bt_lowr : ∀ (n a b : Nat), a &&& lowB n (a ^^^ b) = 0 ↔ lowr n a b = false
  | 0, a, b => by simp [lowB, lowr]
  | n + 1, a, b => by
    have hx : (a ^^^ b) / 2 = (a / 2) ^^^ (b / 2) := by
      apply Nat.eq_of_testBit_eq
      intro i
      simp only [Nat.testBit_xor, ← Nat.testBit_succ]
    have hm : (a ^^^ b) % 2 = 1 ↔ a % 2 ≠ b % 2 := by
      have h := Nat.testBit_xor a b 0
      simp only [Nat.testBit_zero] at h
      have ha : a % 2 = 0 ∨ a % 2 = 1 := by omega
      have hb : b % 2 = 0 ∨ b % 2 = 1 := by omega
      have hc : (a ^^^ b) % 2 = 0 ∨ (a ^^^ b) % 2 = 1 := by omega
      rcases ha with ha | ha <;> rcases hb with hb | hb <;> rcases hc with hc | hc <;> simp [ha, hb, hc] at h ⊢
    unfold lowB lowr
    by_cases h : a % 2 = b % 2
    · have h0 : ¬ (a ^^^ b) % 2 = 1 := fun q => hm.mp q h
      rw [if_neg h0, if_pos h, ← bt_lowr n (a / 2) (b / 2), hx]
      have h2 := bt_half a (2 * lowB n (a / 2 ^^^ b / 2))
      have h3 := bt_mod a (2 * lowB n (a / 2 ^^^ b / 2))
      rw [show 2 * lowB n (a / 2 ^^^ b / 2) / 2 = lowB n (a / 2 ^^^ b / 2) by omega] at h2
      rw [show 2 * lowB n (a / 2 ^^^ b / 2) % 2 = 0 by omega] at h3
      constructor <;> intro h4 <;> omega
    · have h0 : (a ^^^ b) % 2 = 1 := hm.mpr h
      rw [if_pos h0, if_neg h]
      have h2 := bt_half a 1
      have h3 := bt_mod a 1
      have h4 : a / 2 &&& 1 / 2 = 0 := by simp
      have ha : a % 2 = 0 ∨ a % 2 = 1 := by omega
      rcases ha with ha | ha <;> simp only [ha] at h3 ⊢ <;> simp <;> omega

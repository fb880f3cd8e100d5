/-! .. which is what the sums say -/
def cF (m : Nat) : Nat → Nat → Int
  | _, 0 => 0
  | i, n + 1 => (if m.testBit (7 - i) = true then 1 else 0) + cF m (i + 1) n
def bF (m : Nat) : Nat → Nat → List Bool
  | _, 0 => []
  | i, n + 1 => m.testBit (7 - i) :: bF m (i + 1) n
theorem cF_b {m : Nat} : ∀ (n i : Nat), 0 ≤ cF m i n ∧ cF m i n ≤ n
  | 0, _ => ⟨Int.le_refl _, Int.le_refl _⟩
  | n + 1, i => by
    have := cF_b (m := m) n (i + 1)
    rw [cF]
    split <;> omega
theorem fi_pop0 : ((List.range 9).all fun n => (List.range (2 ^ n)).all fun i => decide ((popB 12 (i * 2 ^ (8 - n)) : Int) = cF (i * 2 ^ (8 - n)) 0 n)) = true := by decide +kernel
theorem fi_pop {n i : Nat} (hn : n < 9) (hi : i < 2 ^ n) : (popB 12 (i * 2 ^ (8 - n)) : Int) = cF (i * 2 ^ (8 - n)) 0 n :=
  of_decide_eq_true (List.all_eq_true.mp (List.all_eq_true.mp fi_pop0 n (List.mem_range.mpr hn)) i (List.mem_range.mpr hi))
theorem bF_sel {D : zD} (hB : fiB D) {m : Nat} : ∀ (n i : Nat), (i : Int) + n ≤ D 14 3 → bF m i n ∈ selR (lnF D i n) (sF D m i n) (cF m i n)
  | 0, i, _ => by
    show [] ∈ selR [] 0 0
    unfold selR
    rw [if_pos ⟨rfl, rfl⟩]
    exact List.mem_cons_self
  | n + 1, i, h => by
    have ih := bF_sel hB (m := m) n (i + 1) (by omega)
    have hs := sF_b hB (m := m) n (i + 1) (by omega)
    rw [bF, lnF, sF, cF, selR]
    cases hb : m.testBit (7 - i) with
    | true =>
      rw [if_pos rfl, if_pos rfl, if_pos (by omega)]
      refine List.mem_append_left _ (List.mem_map.mpr ⟨_, ?_, rfl⟩)
      rw [show D 16 i + sF D m (i + 1) n - D 16 i = sF D m (i + 1) n by omega, show 1 + cF m (i + 1) n - 1 = cF m (i + 1) n by omega]
      exact ih
    | false =>
      rw [if_neg (show ¬ (false = true) by simp), if_neg (show ¬ (false = true) by simp), Int.zero_add, Int.zero_add]
      exact List.mem_append_right _ (List.mem_map.mpr ⟨_, ih, rfl⟩)
theorem sel_sF {D : zD} {m : Nat} : ∀ (n i : Nat) (s k : Int) (b : List Bool), b ∈ selR (lnF D i n) s k → (∀ j, j < n → m.testBit (7 - (i + j)) = b.getD j false) → sF D m i n = s ∧ cF m i n = k
  | 0, i, s, k, b, h, _ => by
    have h : b ∈ selR [] s k := h
    unfold selR at h
    split at h
    · rename_i g
      exact ⟨g.1.symm, g.2.symm⟩
    · cases h
  | n + 1, i, s, k, b, h, hb => by
    rw [lnF, selR] at h
    have h0 := hb 0 (by omega)
    rw [Nat.add_zero] at h0
    have next : ∀ c : List Bool, (∀ j, b.getD (j + 1) false = c.getD j false) → ∀ j, j < n → m.testBit (7 - ((i + 1) + j)) = c.getD j false := fun c hc j hj => by
      have := hb (j + 1) (by omega)
      rw [show i + (j + 1) = (i + 1) + j by omega, hc] at this
      exact this
    rcases List.mem_append.mp h with h | h
    · split at h
      · obtain ⟨c, hc, rfl⟩ := List.mem_map.mp h
        obtain ⟨t1, t2⟩ := sel_sF n (i + 1) _ _ c hc (next c (fun j => rfl))
        have h0 : m.testBit (7 - i) = true := h0
        rw [sF, cF, if_pos h0, if_pos h0]
        omega
      · cases h
    · obtain ⟨c, hc, rfl⟩ := List.mem_map.mp h
      obtain ⟨t1, t2⟩ := sel_sF n (i + 1) _ _ c hc (next c (fun j => rfl))
      have h0 : m.testBit (7 - i) = false := h0
      rw [sF, cF, if_neg (by simp [h0]), if_neg (by simp [h0])]
      omega
theorem mk_mul {b : List Bool} {n : Nat} (hb : b.length = n) (hn : n ≤ 8) : ∃ i, maskK 0 b = i * 2 ^ (8 - n) ∧ i < 2 ^ n := by
  have h0 : maskK 0 b % 2 ^ (8 - n) = 0 := by
    apply Nat.eq_of_testBit_eq
    intro j
    rw [Nat.testBit_mod_two_pow, Nat.zero_testBit]
    by_cases g : j < 8 - n
    · have := mk_tb b 0 (7 - j) (by omega) (by omega)
      rw [show 7 - (0 + (7 - j)) = j by omega] at this
      rw [this, List.getD_eq_getElem?_getD, List.getElem?_eq_none (by omega)]
      simp
    · simp [g]
  have h1 := mk_lt b 0 (by omega)
  refine ⟨maskK 0 b / 2 ^ (8 - n), (Nat.div_mul_cancel (Nat.dvd_of_mod_eq_zero h0)).symm, ?_⟩
  rw [Nat.div_lt_iff_lt_mul (Nat.pow_pos (by omega)), ← Nat.pow_add, show n + (8 - n) = 8 by omega]
  exact h1
def tryI (D : zD) (gap : Int) (i : Nat) (few : Int) : Prop :=
  (few = 0 ∧ ∀ j, 1 ≤ j → j < i → sF D (j * 2 ^ (8 - (D 14 3).toNat)) 0 (D 14 3).toNat ≠ gap) ∨
  (0 < few ∧ (∃ j, 1 ≤ j ∧ j < i ∧ sF D (j * 2 ^ (8 - (D 14 3).toNat)) 0 (D 14 3).toNat = gap ∧ few = (popB 12 (j * 2 ^ (8 - (D 14 3).toNat)) : Int)) ∧ ∀ j, 1 ≤ j → j < i → sF D (j * 2 ^ (8 - (D 14 3).toNat)) 0 (D 14 3).toNat = gap → few ≤ (popB 12 (j * 2 ^ (8 - (D 14 3).toNat)) : Int))
theorem cF_0 {D : zD} {m : Nat} : ∀ (n i : Nat), cF m i n = 0 → sF D m i n = 0
  | 0, _, _ => rfl
  | n + 1, i, h => by
    have hb := cF_b (m := m) n (i + 1)
    rw [cF] at h
    rw [sF]
    by_cases g : m.testBit (7 - i) = true
    · rw [if_pos g] at h
      omega
    · rw [if_neg g] at h
      rw [if_neg g, cF_0 n (i + 1) (by omega)]
      rfl
theorem tryF_I {D : zD} {gap : Int} (hB : fiB D) (hg : 1 ≤ gap) : ∀ (m i : Nat) (few : Int), 1 ≤ i → i + m = 2 ^ (D 14 3).toNat → tryI D gap i few → tryI D gap (i + m) (tryF D gap m i few)
  | 0, i, few, _, _, h => h
  | m + 1, i, few, hi, hm, h => by
    have hn := hB.1
    have hp := fi_pop (n := (D 14 3).toNat) (i := i) (by omega) (by omega)
    have hcb := cF_b (m := i * 2 ^ (8 - (D 14 3).toNat)) (D 14 3).toNat 0
    have hc0 := cF_0 (D := D) (m := i * 2 ^ (8 - (D 14 3).toNat)) (D 14 3).toNat 0
    rw [tryF, show i + (m + 1) = (i + 1) + m by omega]
    refine tryF_I hB hg m (i + 1) _ (by omega) (by omega) ?_
    by_cases g : sF D (i * 2 ^ (8 - (D 14 3).toNat)) 0 (D 14 3).toNat = gap
    · have hpos : 0 < (popB 12 (i * 2 ^ (8 - (D 14 3).toNat)) : Int) := by
        by_cases q : cF (i * 2 ^ (8 - (D 14 3).toNat)) 0 (D 14 3).toNat = 0
        · have := hc0 q
          omega
        · omega
      by_cases g2 : few = 0 ∨ (popB 12 (i * 2 ^ (8 - (D 14 3).toNat)) : Int) < few
      · rw [if_pos ⟨g, g2⟩]
        refine Or.inr ⟨hpos, ⟨i, hi, by omega, g, rfl⟩, fun j h1 h2 h3 => ?_⟩
        by_cases e : j = i
        · rw [e]
          exact Int.le_refl _
        · rcases h with ⟨-, h⟩ | ⟨p1, p2, p3⟩
          · exact absurd h3 (h j h1 (by omega))
          · have := p3 j h1 (by omega) h3
            omega
      · rw [if_neg (fun q => g2 q.2)]
        rcases h with ⟨p, -⟩ | ⟨p1, ⟨j, j1, j2, j3, j4⟩, p3⟩
        · exact absurd (Or.inl p) g2
        · refine Or.inr ⟨p1, ⟨j, j1, by omega, j3, j4⟩, fun k h1 h2 h3 => ?_⟩
          by_cases e : k = i
          · rw [e]
            omega
          · exact p3 k h1 (by omega) h3
    · rw [if_neg (fun q => g q.1)]
      rcases h with ⟨p, q⟩ | ⟨p1, ⟨j, j1, j2, j3, j4⟩, p3⟩
      · refine Or.inl ⟨p, fun k h1 h2 => ?_⟩
        by_cases e : k = i
        · rw [e]
          exact g
        · exact q k h1 (by omega)
      · refine Or.inr ⟨p1, ⟨j, j1, by omega, j3, j4⟩, fun k h1 h2 h3 => ?_⟩
        by_cases e : k = i
        · rw [e] at h3
          exact absurd h3 g
        · exact p3 k h1 (by omega) h3
/-- the fewest by trying are the fewest -/
theorem tryF_few {D : zD} {gap : Int} (hB : fiB D) (hg : 1 ≤ gap ∧ gap ≤ 3600) : tryF D gap (2 ^ (D 14 3).toNat - 1) 1 0 = if fewR (lnF D 0 (D 14 3).toNat) gap = 9 then 0 else fewR (lnF D 0 (D 14 3).toNat) gap := by
  have hn := hB.1
  have hp : 0 < 2 ^ (D 14 3).toNat := Nat.pow_pos (by omega)
  have hI := tryF_I hB hg.1 (2 ^ (D 14 3).toNat - 1) 1 0 (by omega) (by omega) (Or.inl ⟨rfl, fun j h1 h2 => by omega⟩)
  rw [show 1 + (2 ^ (D 14 3).toNat - 1) = 2 ^ (D 14 3).toNat by omega] at hI
  generalize tryF D gap (2 ^ (D 14 3).toNat - 1) 1 0 = few at *
  have hr := fewR_r (lnF D 0 (D 14 3).toNat) gap
  have hlen : ∀ n i, (lnF D i n).length = n := by
    intro n
    induction n with
    | zero => intro i; rfl
    | succ n ih => intro i; rw [lnF, List.length_cons, ih]
  have back : fewR (lnF D 0 (D 14 3).toNat) gap < 9 → ∃ j, 1 ≤ j ∧ j < 2 ^ (D 14 3).toNat ∧ sF D (j * 2 ^ (8 - (D 14 3).toNat)) 0 (D 14 3).toNat = gap ∧ (popB 12 (j * 2 ^ (8 - (D 14 3).toNat)) : Int) = fewR (lnF D 0 (D 14 3).toNat) gap := fun q => by
    obtain ⟨b, hb⟩ := few_sel _ _ q
    have hbl : b.length = (D 14 3).toNat := by rw [sel_ln _ _ _ b hb, hlen]
    obtain ⟨j, j1, j2⟩ := mk_mul hbl (by omega)
    have hnz := mk_nz (sel_tr _ _ _ b hb (by omega)) (by omega)
    obtain ⟨t1, t2⟩ := sel_sF (m := maskK 0 b) (D 14 3).toNat 0 _ _ b hb (fun k hk => mk_tb b 0 k (by omega) (by omega))
    have hj : 1 ≤ j := by
      by_cases e : j = 0
      · rw [j1, e, Nat.zero_mul] at hnz
        exact absurd rfl hnz
      · omega
    have hpp := fi_pop (n := (D 14 3).toNat) (i := j) (by omega) j2
    rw [j1] at t1 t2
    exact ⟨j, hj, j2, t1, hpp.trans t2⟩
  rcases hI with ⟨p, q⟩ | ⟨p1, ⟨j, j1, j2, j3, j4⟩, p3⟩
  · by_cases g : fewR (lnF D 0 (D 14 3).toNat) gap = 9
    · rw [if_pos g, p]
    · obtain ⟨j, j1, j2, j3, -⟩ := back (by omega)
      exact absurd j3 (q j j1 j2)
  · have hs := bF_sel hB (m := j * 2 ^ (8 - (D 14 3).toNat)) (D 14 3).toNat 0 (by omega)
    rw [j3] at hs
    have hle := sel_few _ _ _ _ hs
    have hpp := fi_pop (n := (D 14 3).toNat) (i := j) (by omega) j2
    have hcb := cF_b (m := j * 2 ^ (8 - (D 14 3).toNat)) (D 14 3).toNat 0
    obtain ⟨k, k1, k2, k3, k4⟩ := back (by omega)
    have := p3 k k1 k2 k3
    rw [if_neg (by omega)]
    omega

/-! .. a choice as a number, as a list -/
theorem sel_ln : ∀ (Ls : List Int) (s m : Int) (b : List Bool), b ∈ selR Ls s m → b.length = Ls.length
  | [], s, m, b, h => by
    unfold selR at h
    split at h
    · cases List.mem_singleton.mp h
      rfl
    · cases h
  | l :: r, s, m, b, h => by
    rw [selR] at h
    rcases List.mem_append.mp h with h | h
    · split at h
      · obtain ⟨c, hc, rfl⟩ := List.mem_map.mp h
        rw [List.length_cons, List.length_cons, sel_ln r _ _ c hc]
      · cases h
    · obtain ⟨c, hc, rfl⟩ := List.mem_map.mp h
      rw [List.length_cons, List.length_cons, sel_ln r _ _ c hc]
/-- a sum that is not 0 has a piece -/
theorem sel_tr : ∀ (Ls : List Int) (s m : Int) (b : List Bool), b ∈ selR Ls s m → s ≠ 0 → true ∈ b
  | [], s, m, b, h, hs => by
    unfold selR at h
    split at h
    · rename_i g
      exact absurd g.1 hs
    · cases h
  | l :: r, s, m, b, h, hs => by
    rw [selR] at h
    rcases List.mem_append.mp h with h | h
    · split at h
      · obtain ⟨c, hc, rfl⟩ := List.mem_map.mp h
        exact List.mem_cons_self
      · cases h
    · obtain ⟨c, hc, rfl⟩ := List.mem_map.mp h
      exact List.mem_cons_of_mem _ (sel_tr r _ _ c hc hs)
theorem mk_lt : ∀ (b : List Bool) (i : Nat), i + b.length ≤ 8 → maskK i b < 2 ^ (8 - i)
  | [], i, _ => Nat.pow_pos (by omega)
  | b :: r, i, h => by
    rw [List.length_cons] at h
    have ih := mk_lt r (i + 1) (by omega)
    rw [maskK]
    refine Nat.or_lt_two_pow ?_ (Nat.lt_of_lt_of_le ih (Nat.pow_le_pow_right (by omega) (by omega)))
    split
    · exact Nat.pow_lt_pow_right (by omega) (by omega)
    · exact Nat.pow_pos (by omega)
theorem mk_tb : ∀ (b : List Bool) (i k : Nat), i + b.length ≤ 8 → i + k ≤ 7 → (maskK i b).testBit (7 - (i + k)) = b.getD k false
  | [], i, k, _, _ => by
    show (0 : Nat).testBit _ = _
    rw [Nat.zero_testBit]
    rfl
  | b :: r, i, 0, h, hk => by
    rw [List.length_cons] at h
    have ih := mk_lt r (i + 1) (by omega)
    rw [maskK, Nat.testBit_or, Nat.add_zero, Nat.testBit_lt_two_pow (x := maskK (i + 1) r) (by rw [show 8 - (i + 1) = 7 - i by omega] at ih; exact ih), Bool.or_false]
    cases b with
    | true =>
      show (2 ^ (7 - i)).testBit (7 - i) = true
      rw [Nat.testBit_two_pow_self]
    | false => exact Nat.zero_testBit _
  | b :: r, i, k + 1, h, hk => by
    rw [List.length_cons] at h
    have ih := mk_tb r (i + 1) k (by omega) (by omega)
    rw [maskK, Nat.testBit_or, show 7 - (i + (k + 1)) = 7 - ((i + 1) + k) by omega, ih]
    have : (if b = true then 2 ^ (7 - i) else 0).testBit (7 - ((i + 1) + k)) = false := by
      split
      · rw [Nat.testBit_two_pow]
        exact decide_eq_false (by omega)
      · exact Nat.zero_testBit _
    rw [this, Bool.false_or]
    rfl
theorem mk_nz {b : List Bool} (h : true ∈ b) (hl : b.length ≤ 8) : maskK 0 b ≠ 0 := by
  intro e
  obtain ⟨k, hk, hb⟩ := List.mem_iff_getElem.mp h
  have := mk_tb b 0 k (by omega) (by omega)
  rw [e, Nat.zero_testBit, List.getD_eq_getElem?_getD, List.getElem?_eq_getElem hk, hb] at this
  cases this
theorem mk_0 : ∀ (b : List Bool) (i : Nat), (∀ x ∈ b, x = false) → maskK i b = 0
  | [], _, _ => rfl
  | b :: r, i, h => by
    rw [maskK, h b List.mem_cons_self, mk_0 r (i + 1) (fun x hx => h x (List.mem_cons_of_mem _ hx)), if_neg (by simp)]
    rfl
/-- the pieces there are: lengths and levels -/
def psF (D : zD) : Nat → Nat → List (Int × Int)
  | _, 0 => []
  | i, n + 1 => (D 16 i, D 17 i) :: psF D (i + 1) n
theorem psF_l {D : zD} : ∀ (n i : Nat), lnF D i n = lns (psF D i n)
  | 0, _ => rfl
  | n + 1, i => by
    rw [lnF, psF, psF_l n (i + 1)]
    rfl
theorem psF_c {D D' : zD} (h : ∀ i, D' 16 i = D 16 i ∧ D' 17 i = D 17 i) : ∀ (n i : Nat), psF D' i n = psF D i n
  | 0, _ => rfl
  | n + 1, i => by rw [psF, psF, (h i).1, (h i).2, psF_c h n]
theorem psF_len {D : zD} : ∀ (n i : Nat), (psF D i n).length = n
  | 0, _ => rfl
  | n + 1, i => by rw [psF, List.length_cons, psF_len]
theorem fvs_P {D : zD} {m : Nat} : ∀ (n i : Nat) (bs : List Bool), bs.length = n → (∀ k, k < n → m.testBit (7 - (i + k)) = bs.getD k false) → devP (psF D i n) bs (fvs D m i) = fvs D m (i + n)
  | 0, i, bs, _, _ => by
    cases bs <;> rfl
  | n + 1, i, [], h, _ => by cases h
  | n + 1, i, b :: bs, h, hb => by
    have h0 := hb 0 (by omega)
    rw [Nat.add_zero] at h0
    have h0 : m.testBit (7 - i) = b := h0
    have ih := fvs_P (D := D) (m := m) n (i + 1) bs (by simpa using h) (fun k hk => by
      have := hb (k + 1) (by omega)
      rw [show i + (k + 1) = (i + 1) + k by omega] at this
      exact this)
    rw [psF, devP, show i + (n + 1) = (i + 1) + n by omega, ← ih]
    congr 1
    rw [fvs, h0]
/-- how far a choice is off, for the choice as a list -/
noncomputable def keyP (ps : List (Int × Int)) (gap lev : Int) (b : List Bool) : Int := FP.Core.fkey (FP.fsub (FP.fdiv (devP ps b FP.fconst0) (FP.i2f (Int32.ofInt gap))) (FP.i2f (Int32.ofInt lev)) &&& 0x7fffffff)
theorem keyP_f {D : zD} (hD : fiB D) {gap lev : Int} (hg : 1 ≤ gap ∧ gap ≤ 3600) {b : List Bool} (hb : b.length = (D 14 3).toNat) : FP.Core.fkey (fdv D (maskK 0 b) gap lev) = keyP (psF D 0 (D 14 3).toNat) gap lev b := by
  have hn := hD.1
  have e := fvs_P (D := D) (m := maskK 0 b) (D 14 3).toNat 0 b hb (fun k hk => mk_tb b 0 k (by omega) (by omega))
  rw [Nat.zero_add] at e
  have e : devP (psF D 0 (D 14 3).toNat) b FP.fconst0 = fvs D (maskK 0 b) (D 14 3).toNat := e
  have nn := fdf_nn hD (m := maskK 0 b) (lev := lev) hg
  unfold fdv keyP
  rw [fl_absk nn, e]
  rfl
/-- .. and as the reference counts it -/
theorem keyP_m {D : zD} (hC : mCl D) {gap lev : Int} {m : Nat} (hm : subC (clsD D) m = true) : FP.Core.fkey (mdv D m gap lev) = keyP (pcs (clsD D)) gap lev (selC (clsD D) m) := by
  have h := dev_mvs (D := D) m (D 32 7).toNat 0
  rw [Nat.zero_add, Nat.pow_zero, Nat.div_one] at h
  have h : mvs D m (D 32 7).toNat = devC (clsD D) m FP.fconst0 := h
  unfold mdv keyP
  rw [h, dev_CP _ _ _ hm]

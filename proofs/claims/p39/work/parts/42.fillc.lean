/-! sets of clips against choices of today's pieces -/
abbrev zCL : Type := List (Bool × Int × Int)
def subC : zCL → Nat → Bool
  | [], m => m == 0
  | q :: r, m => (q.1 || m % 2 == 0) && subC r (m / 2)
def selC : zCL → Nat → List Bool
  | [], _ => []
  | q :: r, m => if q.1 = true then (m % 2 == 1) :: selC r (m / 2) else selC r (m / 2)
def sumC : zCL → Nat → Int
  | [], _ => 0
  | q :: r, m => (if m % 2 = 1 then q.2.1 else 0) + sumC r (m / 2)
def devC : zCL → Nat → UInt32 → UInt32
  | [], _, a => a
  | q :: r, m, a => devC r (m / 2) (if m % 2 = 1 then FP.fadd a (FP.i2f (Int32.ofInt (q.2.2 * q.2.1))) else a)
/-- today's pieces: their lengths and levels -/
def pcs (cs : zCL) : List (Int × Int) := (cs.filter (fun q => q.1)).map (fun q => q.2)
def lns (ps : List (Int × Int)) : List Int := ps.map (fun q => q.1)
def devP : List (Int × Int) → List Bool → UInt32 → UInt32
  | q :: r, b :: bs, a => devP r bs (if b = true then FP.fadd a (FP.i2f (Int32.ofInt (q.2 * q.1))) else a)
  | _, _, a => a
theorem pcs_t {q : Bool × Int × Int} {r : zCL} (h : q.1 = true) : pcs (q :: r) = q.2 :: pcs r := by
  unfold pcs
  rw [List.filter_cons_of_pos h, List.map_cons]
theorem pcs_f {q : Bool × Int × Int} {r : zCL} (h : q.1 = false) : pcs (q :: r) = pcs r := by
  unfold pcs
  rw [List.filter_cons_of_neg (by simp [h])]
theorem selC_t {q : Bool × Int × Int} {r : zCL} {m : Nat} (h : q.1 = true) : selC (q :: r) m = (m % 2 == 1) :: selC r (m / 2) := by rw [selC, if_pos h]
theorem selC_f {q : Bool × Int × Int} {r : zCL} {m : Nat} (h : q.1 = false) : selC (q :: r) m = selC r (m / 2) := by rw [selC, if_neg (by simp [h])]
theorem sumC_0 {q : Bool × Int × Int} {r : zCL} {m : Nat} (h : m % 2 = 0) : sumC (q :: r) m = sumC r (m / 2) := by rw [sumC, if_neg (by omega), Int.zero_add]
theorem sumC_1 {q : Bool × Int × Int} {r : zCL} {m : Nat} (h : m % 2 = 1) : sumC (q :: r) m = q.2.1 + sumC r (m / 2) := by rw [sumC, if_pos h]
theorem subC_s {q : Bool × Int × Int} {r : zCL} {m : Nat} (h : subC (q :: r) m = true) : subC r (m / 2) = true ∧ (q.1 = false → m % 2 = 0) := by
  unfold subC at h
  simp only [Bool.and_eq_true, Bool.or_eq_true, beq_iff_eq] at h
  refine ⟨h.2, fun g => ?_⟩
  rcases h.1 with h1 | h1
  · rw [g] at h1
    cases h1
  · exact h1
theorem dev_CP : ∀ (cs : zCL) (m : Nat) (a : UInt32), subC cs m = true → devC cs m a = devP (pcs cs) (selC cs m) a
  | [], _, _, _ => rfl
  | q :: r, m, a, h => by
    obtain ⟨h1, h2⟩ := subC_s h
    rw [devC, dev_CP r (m / 2) _ h1]
    rcases Bool.eq_false_or_eq_true q.1 with hq | hq
    · rw [pcs_t hq, selC_t hq, devP]
      by_cases g : m % 2 = 1 <;> simp [g]
    · rw [pcs_f hq, selC_f hq]
      have := h2 hq
      have g : ¬ m % 2 = 1 := by omega
      rw [if_neg g]
theorem sumC_nn : ∀ (cs : zCL) (m : Nat), (∀ q ∈ cs, 1 ≤ q.2.1) → 0 ≤ sumC cs m
  | [], _, _ => Int.le_refl _
  | q :: r, m, h => by
    have h1 := sumC_nn r (m / 2) (fun x hx => h x (List.mem_cons_of_mem _ hx))
    have h2 := h q List.mem_cons_self
    rw [sumC]
    split <;> omega
theorem sel_C : ∀ (cs : zCL) (m : Nat), (∀ q ∈ cs, 1 ≤ q.2.1) → subC cs m = true → selC cs m ∈ selR (lns (pcs cs)) (sumC cs m) (popB cs.length m)
  | [], m, _, h => by
    have : m = 0 := by simpa [subC] using h
    subst this
    show [] ∈ selR [] 0 ((0 : Nat) : Int)
    unfold selR
    rw [if_pos ⟨rfl, rfl⟩]
    exact List.mem_cons_self
  | q :: r, m, hp, h => by
    obtain ⟨h1, h2⟩ := subC_s h
    have hr : ∀ x ∈ r, 1 ≤ x.2.1 := fun x hx => hp x (List.mem_cons_of_mem _ hx)
    have ih := sel_C r (m / 2) hr h1
    have hs := sumC_nn r (m / 2) hr
    rw [List.length_cons, popB]
    rcases Bool.eq_false_or_eq_true q.1 with hq | hq
    · have e : lns (pcs (q :: r)) = q.2.1 :: lns (pcs r) := by rw [pcs_t hq]; rfl
      rw [e, selR, selC_t hq]
      rcases Nat.mod_two_eq_zero_or_one m with g | g
      · rw [sumC_0 g, g, Nat.zero_add]
        exact List.mem_append.mpr (Or.inr (List.mem_map.mpr ⟨_, ih, rfl⟩))
      · rw [sumC_1 g, g]
        refine List.mem_append.mpr (Or.inl ?_)
        rw [if_pos (by omega)]
        refine List.mem_map.mpr ⟨selC r (m / 2), ?_, rfl⟩
        rw [show q.2.1 + sumC r (m / 2) - q.2.1 = sumC r (m / 2) by omega, show ((1 + popB r.length (m / 2) : Nat) : Int) - 1 = (popB r.length (m / 2) : Nat) by omega]
        exact ih
    · rw [pcs_f hq, selC_f hq, sumC_0 (h2 hq), h2 hq, Nat.zero_add]
      exact ih
theorem C_sel : ∀ (cs : zCL) (s k : Int) (b : List Bool), b ∈ selR (lns (pcs cs)) s k → ∃ m, subC cs m = true ∧ selC cs m = b ∧ sumC cs m = s ∧ (popB cs.length m : Int) = k
  | [], s, k, b, h => by
    have e : lns (pcs []) = [] := rfl
    rw [e] at h
    unfold selR at h
    split at h
    · rename_i g
      cases List.mem_singleton.mp h
      exact ⟨0, rfl, rfl, g.1.symm, g.2.symm⟩
    · cases h
  | q :: r, s, k, b, h => by
    rcases Bool.eq_false_or_eq_true q.1 with hq | hq
    · have e : lns (pcs (q :: r)) = q.2.1 :: lns (pcs r) := by rw [pcs_t hq]; rfl
      rw [e, selR] at h
      rcases List.mem_append.mp h with h | h
      · split at h
        · obtain ⟨c, hc, rfl⟩ := List.mem_map.mp h
          obtain ⟨m, g1, g2, g3, g4⟩ := C_sel r _ _ c hc
          have d1 : (2 * m + 1) / 2 = m := by omega
          have d2 : (2 * m + 1) % 2 = 1 := by omega
          refine ⟨2 * m + 1, ?_, ?_, ?_, ?_⟩
          · unfold subC
            rw [d1, g1, hq]
            rfl
          · rw [selC_t hq, d1, d2, g2]
            rfl
          · rw [sumC_1 d2, d1, g3]
            omega
          · rw [List.length_cons, popB, d1, d2]
            omega
        · cases h
      · obtain ⟨c, hc, rfl⟩ := List.mem_map.mp h
        obtain ⟨m, g1, g2, g3, g4⟩ := C_sel r _ _ c hc
        have d1 : (2 * m) / 2 = m := by omega
        have d2 : (2 * m) % 2 = 0 := by omega
        refine ⟨2 * m, ?_, ?_, ?_, ?_⟩
        · unfold subC
          rw [d1, g1, hq]
          rfl
        · rw [selC_t hq, d1, d2, g2]
          rfl
        · rw [sumC_0 d2, d1, g3]
        · rw [List.length_cons, popB, d1, d2]
          omega
    · rw [pcs_f hq] at h
      obtain ⟨m, g1, g2, g3, g4⟩ := C_sel r s k b h
      have d1 : (2 * m) / 2 = m := by omega
      have d2 : (2 * m) % 2 = 0 := by omega
      refine ⟨2 * m, ?_, ?_, ?_, ?_⟩
      · unfold subC
        rw [d1, g1, d2]
        simp
      · rw [selC_f hq, d1, g2]
      · rw [sumC_0 d2, d1, g3]
      · rw [List.length_cons, popB, d1, d2]
        omega
theorem lowr_C : ∀ (cs : zCL) (a b : Nat), subC cs a = true → subC cs b = true → lowr cs.length a b = lexT (selC cs a) (selC cs b)
  | [], _, _, _, _ => rfl
  | q :: r, a, b, ha, hb => by
    obtain ⟨a1, a2⟩ := subC_s ha
    obtain ⟨b1, b2⟩ := subC_s hb
    rw [List.length_cons, lowr, lowr_C r _ _ a1 b1]
    rcases Bool.eq_false_or_eq_true q.1 with hq | hq
    · rw [selC_t hq, selC_t hq, lexT]
      have ha2 : a % 2 = 0 ∨ a % 2 = 1 := by omega
      have hb2 : b % 2 = 0 ∨ b % 2 = 1 := by omega
      rcases ha2 with g | g <;> rcases hb2 with g' | g' <;> simp [g, g']
    · rw [selC_f hq, selC_f hq, a2 hq, b2 hq, if_pos rfl]
theorem selC_inj : ∀ (cs : zCL) (a b : Nat), subC cs a = true → subC cs b = true → selC cs a = selC cs b → a = b
  | [], a, b, ha, hb, _ => by
    have h1 : a = 0 := by simpa [subC] using ha
    have h2 : b = 0 := by simpa [subC] using hb
    omega
  | q :: r, a, b, ha, hb, h => by
    obtain ⟨a1, a2⟩ := subC_s ha
    obtain ⟨b1, b2⟩ := subC_s hb
    rcases Bool.eq_false_or_eq_true q.1 with hq | hq
    · rw [selC_t hq, selC_t hq] at h
      obtain ⟨h1, h2⟩ := List.cons.inj h
      have := selC_inj r _ _ a1 b1 h2
      have ha2 : a % 2 = 0 ∨ a % 2 = 1 := by omega
      have hb2 : b % 2 = 0 ∨ b % 2 = 1 := by omega
      rcases ha2 with g | g <;> rcases hb2 with g' | g' <;> simp [g, g'] at h1 <;> omega
    · rw [selC_f hq, selC_f hq] at h
      have := selC_inj r _ _ a1 b1 h
      have := a2 hq
      have := b2 hq
      omega
theorem lowr_as : ∀ (n a b : Nat), lowr n a b = true → lowr n b a = false
  | 0, _, _, h => by cases h
  | n + 1, a, b, h => by
    unfold lowr at h ⊢
    by_cases g : a % 2 = b % 2
    · rw [if_pos g] at h
      rw [if_pos g.symm]
      exact lowr_as n _ _ h
    · rw [if_neg g] at h
      rw [if_neg (fun q => g q.symm)]
      have : a % 2 = 1 := by simpa using h
      have : b % 2 = 0 := by omega
      simp [this]
/-- the order of choices: fewer, of less deviation K, with the lower number first -/
def btr (n : Nat) (K : Nat → Int) (a b : Nat) : Prop := popB n a < popB n b ∨ (popB n a = popB n b ∧ (K a < K b ∨ (K a = K b ∧ lowr n a b = true)))
def mch (cs : zCL) (gap : Int) (m : Nat) : Prop := subC cs m = true ∧ sumC cs m = gap
def isB (cs : zCL) (K : Nat → Int) (gap : Int) (m : Nat) : Prop := (m = 0 ∧ ∀ x, ¬ mch cs gap x) ∨ (mch cs gap m ∧ ∀ x, mch cs gap x → x = m ∨ btr cs.length K m x)
theorem isB_u {cs : zCL} {K : Nat → Int} {gap : Int} {a b : Nat} (ha : isB cs K gap a) (hb : isB cs K gap b) : a = b := by
  rcases ha with ⟨rfl, ha⟩ | ⟨h1, h2⟩
  · rcases hb with ⟨rfl, -⟩ | ⟨g1, -⟩
    · rfl
    · exact absurd g1 (ha _)
  · rcases hb with ⟨rfl, hb⟩ | ⟨g1, g2⟩
    · exact absurd h1 (hb _)
    · rcases h2 b g1 with h | h
      · exact h.symm
      · rcases g2 a h1 with g | g
        · exact g
        · unfold btr at h g
          rcases h with h | ⟨e1, h⟩ <;> rcases g with g | ⟨e2, g⟩
          · omega
          · omega
          · omega
          · rcases h with h | ⟨k1, h⟩ <;> rcases g with g | ⟨k2, g⟩
            · omega
            · omega
            · omega
            · rw [lowr_as _ _ _ h] at g
              cases g
/-- the first of the list of least K -/
theorem isB_of {cs : zCL} {K : Nat → Int} {gap : Int} {KP : List Bool → Int} (hp : ∀ q ∈ cs, 1 ≤ q.2.1) (hK : ∀ m, subC cs m = true → K m = KP (selC cs m)) {b : List Bool} {pre suf : List (List Bool)}
    (hs : selR (lns (pcs cs)) gap (fewR (lns (pcs cs)) gap) = pre ++ b :: suf) (h1 : ∀ x ∈ pre, KP b < KP x) (h2 : ∀ x ∈ suf, KP b ≤ KP x) : ∃ m, isB cs K gap m ∧ mch cs gap m ∧ selC cs m = b := by
  have hb : b ∈ selR (lns (pcs cs)) gap (fewR (lns (pcs cs)) gap) := by rw [hs]; simp
  obtain ⟨m, g1, g2, g3, g4⟩ := C_sel cs _ _ b hb
  refine ⟨m, Or.inr ⟨⟨g1, g3⟩, fun x hx => ?_⟩, ⟨g1, g3⟩, g2⟩
  obtain ⟨x1, x2⟩ := hx
  have hx := sel_C cs x hp x1
  rw [x2] at hx
  have hle := sel_few _ _ _ _ hx
  by_cases hlt : popB cs.length m < popB cs.length x
  · exact Or.inr (Or.inl hlt)
  · have he : popB cs.length m = popB cs.length x := by omega
    rw [← he, g4, hs] at hx
    rcases List.mem_append.mp hx with hx | hx
    · refine Or.inr (Or.inr ⟨he, Or.inl ?_⟩)
      rw [hK m g1, hK x x1, g2]
      exact h1 _ hx
    · rcases List.mem_cons.mp hx with hx | hx
      · exact Or.inl (selC_inj cs _ _ x1 g1 (by rw [hx, g2]))
      · refine Or.inr (Or.inr ⟨he, ?_⟩)
        have hle := h2 _ hx
        rw [hK m g1, hK x x1, g2]
        by_cases hlt : KP b < KP (selC cs x)
        · exact Or.inl hlt
        · refine Or.inr ⟨by omega, ?_⟩
          rw [lowr_C cs m x g1 x1, g2]
          have hpw := sel_lex (lns (pcs cs)) gap (fewR (lns (pcs cs)) gap)
          rw [hs] at hpw
          have := (List.pairwise_append.mp hpw).2.1
          exact (List.pairwise_cons.mp this).1 _ hx
theorem bnB_0 : ∀ {n : Nat} {m : Int}, (n : Int) < m → bnB n m = 0
  | 0, m, h => by
    unfold bnB
    rw [if_neg (by omega)]
  | n + 1, m, h => by
    unfold bnB
    rw [bnB_0 (by omega), bnB_0 (by omega)]
theorem isB_0 {cs : zCL} {K : Nat → Int} {gap : Int} (hp : ∀ q ∈ cs, 1 ≤ q.2.1) (hl : cs.length ≤ 12) (h8 : (pcs cs).length ≤ 8) (h : fewR (lns (pcs cs)) gap = 9) : isB cs K gap 0 := by
  refine Or.inl ⟨rfl, fun x hx => ?_⟩
  have h1 := sel_C cs x hp hx.1
  rw [hx.2] at h1
  have h2 := sel_few _ _ _ _ h1
  have h3 := sel_len (lns (pcs cs)) gap (popB cs.length x)
  have h4 : 0 < (selR (lns (pcs cs)) gap (popB cs.length x)).length := List.length_pos_of_mem h1
  have h5 : bnB (lns (pcs cs)).length (popB cs.length x) = 0 := bnB_0 (by unfold lns; rw [List.length_map]; omega)
  omega

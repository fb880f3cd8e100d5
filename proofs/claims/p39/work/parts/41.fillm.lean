/-! choices of pieces: the fewest, and all of the fewest in their order -/
/-- the fewest pieces of these lengths that make s; 9: there are none -/
def fewR : List Int → Int → Int
  | [], s => if s = 0 then 0 else 9
  | l :: r, s => if l ≤ s ∧ fewR r (s - l) + 1 < fewR r s then fewR r (s - l) + 1 else fewR r s
/-- the choices of m pieces that make s, those with the first piece ahead -/
def selR : List Int → Int → Int → List (List Bool)
  | [], s, m => if s = 0 ∧ m = 0 then [[]] else []
  | l :: r, s, m => (if l ≤ s then (selR r (s - l) (m - 1)).map (true :: ·) else []) ++ (selR r s m).map (false :: ·)
theorem fewR_r : ∀ (Ls : List Int) (s : Int), 0 ≤ fewR Ls s ∧ fewR Ls s ≤ 9
  | [], s => by
    unfold fewR
    split <;> omega
  | l :: r, s => by
    have h1 := fewR_r r s
    have h2 := fewR_r r (s - l)
    unfold fewR
    split <;> omega
theorem sel_few : ∀ (Ls : List Int) (s m : Int) (b : List Bool), b ∈ selR Ls s m → fewR Ls s ≤ m
  | [], s, m, b, h => by
    unfold selR at h
    split at h
    · rename_i q
      unfold fewR
      rw [if_pos q.1]
      omega
    · cases h
  | l :: r, s, m, b, h => by
    unfold selR at h
    unfold fewR
    rcases List.mem_append.mp h with h | h
    · split at h
      · rename_i q
        obtain ⟨c, hc, -⟩ := List.mem_map.mp h
        have := sel_few r (s - l) (m - 1) c hc
        split <;> omega
      · cases h
    · obtain ⟨c, hc, -⟩ := List.mem_map.mp h
      have := sel_few r s m c hc
      split <;> omega
theorem few_sel : ∀ (Ls : List Int) (s : Int), fewR Ls s < 9 → ∃ b, b ∈ selR Ls s (fewR Ls s)
  | [], s, h => by
    unfold fewR at h ⊢
    split at h
    · rename_i q
      refine ⟨[], ?_⟩
      rw [if_pos q]
      unfold selR
      rw [if_pos ⟨q, rfl⟩]
      exact List.mem_cons_self
    · omega
  | l :: r, s, h => by
    by_cases q : l ≤ s ∧ fewR r (s - l) + 1 < fewR r s
    · have e : fewR (l :: r) s = fewR r (s - l) + 1 := by
        rw [fewR, if_pos q]
      have h9 := fewR_r r s
      obtain ⟨b, hb⟩ := few_sel r (s - l) (by omega)
      refine ⟨true :: b, ?_⟩
      rw [e]
      unfold selR
      refine List.mem_append.mpr (Or.inl ?_)
      rw [if_pos q.1]
      refine List.mem_map.mpr ⟨b, ?_, rfl⟩
      rwa [show fewR r (s - l) + 1 - 1 = fewR r (s - l) by omega]
    · have e : fewR (l :: r) s = fewR r s := by
        rw [fewR, if_neg q]
      rw [e] at h ⊢
      obtain ⟨b, hb⟩ := few_sel r s h
      refine ⟨false :: b, ?_⟩
      unfold selR
      exact List.mem_append.mpr (Or.inr (List.mem_map.mpr ⟨b, hb, rfl⟩))
theorem fewR_le {l : Int} {r : List Int} {s : Int} : fewR (l :: r) s ≤ fewR r s ∧ (l ≤ s → fewR (l :: r) s ≤ fewR r (s - l) + 1) := by
  rw [fewR]
  split <;> omega
/-- one piece more: what can still be made, with it ahead of without it -/
def stepK (l : Int) (r : List Int) (bit : Nat) (q : Nat × Int) : List (Nat × Int) :=
  (if l ≤ q.2 ∧ fewR r (q.2 - l) = fewR (l :: r) q.2 - 1 then [(q.1 ||| bit, q.2 - l)] else []) ++ (if fewR r q.2 = fewR (l :: r) q.2 then [(q.1, q.2)] else [])
def runK : List Int → Nat → List (Nat × Int) → List (Nat × Int)
  | [], _, K => K
  | l :: r, i, K => runK r (i + 1) (K.flatMap (stepK l r (2 ^ (7 - i))))
def maskK : Nat → List Bool → Nat
  | _, [] => 0
  | i, b :: r => (if b then 2 ^ (7 - i) else 0) ||| maskK (i + 1) r
theorem fm_congr {α β : Type} {f g : α → List β} : ∀ {l : List α}, (∀ a ∈ l, f a = g a) → l.flatMap f = l.flatMap g
  | [], _ => rfl
  | a :: l, h => by
    rw [List.flatMap_cons, List.flatMap_cons, h a List.mem_cons_self, fm_congr fun x hx => h x (List.mem_cons_of_mem _ hx)]
theorem stepK_ok {l : Int} {r : List Int} {bit : Nat} {q : Nat × Int} (h : fewR (l :: r) q.2 ≤ 8) : ∀ x ∈ stepK l r bit q, fewR r x.2 ≤ 8 := by
  intro x hx
  unfold stepK at hx
  rcases List.mem_append.mp hx with hx | hx
  · split at hx
    · rename_i g
      cases List.mem_singleton.mp hx
      have := g.2
      show fewR r (q.2 - l) ≤ 8
      omega
    · cases hx
  · split at hx
    · rename_i g
      cases List.mem_singleton.mp hx
      show fewR r q.2 ≤ 8
      omega
    · cases hx
theorem runK_eq : ∀ (Ls : List Int) (i : Nat) (K : List (Nat × Int)), (∀ q ∈ K, fewR Ls q.2 ≤ 8) → runK Ls i K = K.flatMap (fun q => (selR Ls q.2 (fewR Ls q.2)).map (fun b => (q.1 ||| maskK i b, 0)))
  | [], i, K, h => by
    have e : K.flatMap (fun q => (selR [] q.2 (fewR [] q.2)).map (fun b => (q.1 ||| maskK i b, (0 : Int)))) = K.flatMap (fun q => [q]) := by
      refine fm_congr fun q hq => ?_
      have h1 := h q hq
      have h2 : q.2 = 0 := by
        unfold fewR at h1
        split at h1
        · assumption
        · omega
      have h3 : fewR [] q.2 = 0 := by rw [fewR, if_pos h2]
      rw [h3]
      unfold selR
      rw [if_pos ⟨h2, rfl⟩]
      simp only [List.map_cons, List.map_nil, maskK, Nat.or_zero]
      rw [← h2]
    rw [e, List.flatMap_singleton']
    rfl
  | l :: r, i, K, h => by
    have h9 : ∀ q ∈ K.flatMap (stepK l r (2 ^ (7 - i))), fewR r q.2 ≤ 8 := by
      intro x hx
      obtain ⟨q, hq, hx⟩ := List.mem_flatMap.mp hx
      exact stepK_ok (h q hq) x hx
    rw [runK, runK_eq r (i + 1) _ h9, List.flatMap_assoc]
    refine fm_congr fun q hq => ?_
    have h1 := h q hq
    have h2 := fewR_le (l := l) (r := r) (s := q.2)
    rw [selR, List.map_append]
    unfold stepK
    rw [List.flatMap_append]
    congr 1
    · by_cases hl : l ≤ q.2
      · rw [if_pos hl]
        by_cases he : fewR r (q.2 - l) = fewR (l :: r) q.2 - 1
        · rw [if_pos ⟨hl, he⟩, List.flatMap_cons, List.flatMap_nil, List.append_nil, List.map_map, ← he]
          refine List.map_congr_left fun b _ => ?_
          simp only [Function.comp, maskK, if_true, Nat.or_assoc]
        · rw [if_neg (fun g => he g.2)]
          have : selR r (q.2 - l) (fewR (l :: r) q.2 - 1) = [] := by
            refine List.eq_nil_iff_forall_not_mem.mpr fun b hb => ?_
            have := sel_few _ _ _ b hb
            have := h2.2 hl
            omega
          rw [this]
          rfl
      · rw [if_neg hl, if_neg (fun g => hl g.1)]
        rfl
    · by_cases he : fewR r q.2 = fewR (l :: r) q.2
      · rw [if_pos he, List.flatMap_cons, List.flatMap_nil, List.append_nil, List.map_map, ← he]
        refine List.map_congr_left fun b _ => ?_
        simp only [Function.comp, maskK, Bool.false_eq_true, if_false, Nat.zero_or]
      · rw [if_neg he]
        have : selR r q.2 (fewR (l :: r) q.2) = [] := by
          refine List.eq_nil_iff_forall_not_mem.mpr fun b hb => ?_
          have := sel_few _ _ _ b hb
          omega
        rw [this]
        rfl
/-- so many choices of m of n at most -/
def bnB : Nat → Int → Nat
  | 0, m => if m = 0 then 1 else 0
  | n + 1, m => bnB n (m - 1) + bnB n m
theorem sel_len : ∀ (Ls : List Int) (s m : Int), (selR Ls s m).length ≤ bnB Ls.length m
  | [], s, m => by
    unfold selR
    split
    · rename_i q
      show 1 ≤ bnB 0 m
      rw [bnB, if_pos q.2]
      exact Nat.le_refl _
    · exact Nat.zero_le _
  | l :: r, s, m => by
    have h1 := sel_len r (s - l) (m - 1)
    have h2 := sel_len r s m
    unfold selR
    show _ ≤ bnB r.length (m - 1) + bnB r.length m
    rw [List.length_append, List.length_map]
    split
    · rw [List.length_map]
      omega
    · simp only [List.length_nil]
      omega
theorem bnB_70 : ((List.range 9).all fun n => (List.range 9).all fun m => decide (bnB n (m : Int) ≤ 70)) = true := by decide +kernel
theorem sel_70 {Ls : List Int} {s m : Int} (hl : Ls.length ≤ 8) (hm : 0 ≤ m ∧ m ≤ 8) : (selR Ls s m).length ≤ 70 := by
  refine Nat.le_trans (sel_len Ls s m) ?_
  have := List.all_eq_true.mp (List.all_eq_true.mp bnB_70 Ls.length (List.mem_range.mpr (by omega))) m.toNat (List.mem_range.mpr (by omega))
  have h := of_decide_eq_true this
  rwa [show ((m.toNat : Nat) : Int) = m by omega] at h
theorem runK_len : ∀ (Ls : List Int) (i : Nat) (K : List (Nat × Int)), (∀ q ∈ K, fewR Ls q.2 ≤ 8) → K.length ≤ (runK Ls i K).length := by
  intro Ls i K h
  rw [runK_eq Ls i K h]
  induction K with
  | nil => exact Nat.zero_le _
  | cons q K ih =>
    have h1 := ih (fun x hx => h x (List.mem_cons_of_mem _ hx))
    have h2 := h q List.mem_cons_self
    obtain ⟨b, hb⟩ := few_sel Ls q.2 (by omega)
    have h3 : 0 < (selR Ls q.2 (fewR Ls q.2)).length := List.length_pos_of_mem hb
    rw [List.flatMap_cons, List.length_append, List.length_map, List.length_cons]
    omega
/-- the first has the piece where both first differ -/
def lexT : List Bool → List Bool → Bool
  | a :: x, b :: y => if a = b then lexT x y else a
  | _, _ => false
theorem sel_lex : ∀ (Ls : List Int) (s m : Int), List.Pairwise (fun a b => lexT a b = true) (selR Ls s m)
  | [], s, m => by
    unfold selR
    split
    · exact List.pairwise_singleton _ _
    · exact List.Pairwise.nil
  | l :: r, s, m => by
    unfold selR
    refine List.pairwise_append.mpr ⟨?_, ?_, ?_⟩
    · split
      · refine List.pairwise_map.mpr ((sel_lex r (s - l) (m - 1)).imp fun h => ?_)
        simpa [lexT] using h
      · exact List.Pairwise.nil
    · refine List.pairwise_map.mpr ((sel_lex r s m).imp fun h => ?_)
      simpa [lexT] using h
    · intro a ha b hb
      obtain ⟨c, -, rfl⟩ := List.mem_map.mp hb
      split at ha
      · obtain ⟨d, -, rfl⟩ := List.mem_map.mp ha
        simp [lexT]
      · cases ha

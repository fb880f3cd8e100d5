/-! the table of code held against the bytes and the tables -/
def zdecB (k pc : Nat) (i : Instr) (n : Nat) : Bool := match decode (zB k) pc with
  | .ok (i', n') => decide (i' = i) && Nat.beq n' n
  | .error _ => false
theorem zdecB_ok {k pc : Nat} {i : Instr} {n : Nat} (h : zdecB k pc i n = true) : decode (zB k) pc = .ok (i, n) := by
  unfold zdecB at h
  split at h
  · rename_i i' n' e
    simp only [Bool.and_eq_true, decide_eq_true_eq] at h
    rw [e, h.1, Nat.eq_of_beq_eq_true h.2]
  · cases h
def ztabB (k pc : Nat) (dflt lo hi : Int) (offs : Array Int) (tg : Nat) (aux : List Nat) : Bool := (match decode (zB k) pc with
  | .ok (i', _) => decide (i' = .tableswitch dflt lo hi offs)
  | .error _ => false) && (decide ((pc : Int) + dflt = (tg : Int)) && (decide (offs.toList.map (fun o => (pc : Int) + o) = aux.map (fun (t : Nat) => (t : Int))) && decide (hi - lo + 1 = aux.length)))
theorem ztabB_ok {k pc : Nat} {dflt lo hi : Int} {offs : Array Int} {tg : Nat} {aux : List Nat} (h : ztabB k pc dflt lo hi offs tg aux = true) : ztab k pc dflt lo hi offs tg aux := by
  unfold ztabB at h
  simp only [Bool.and_eq_true, decide_eq_true_eq] at h
  obtain ⟨h1, h2, h3, h4⟩ := h
  refine ⟨?_, h2, h3, h4⟩
  split at h1
  · rename_i i' n' e
    rw [of_decide_eq_true h1] at e
    exact ⟨n', e⟩
  · cases h1
def ztgB (pc tg : Nat) (i : Instr) : Bool := match ztgt i with
  | none => true
  | some o => decide ((pc : Int) + o = (tg : Int))
def zchB (k pc n v nx : Nat) : Bool := zSTab.contains (zOI k, 222, 12) && (Nat.beq (zOI k) 8 && (Nat.beq n 220 && (zdecB k pc (.ldc n) 2 && (zdecB k (pc + 2) (.iload v) 2 && (zdecB k (pc + 4) (.sipush 156) 3 && (zdecB k (pc + 7) .idiv 1 && (zdecB k (pc + 8) (.iconst 4) 1 && (zdecB k (pc + 9) .irem 1 && (zdecB k (pc + 10) (.invokevirtual 222) 3 && Nat.beq nx (pc + 13))))))))))
theorem zchB_ok {k pc n v nx : Nat} (h : zchB k pc n v nx = true) : zch k pc n v nx := by
  unfold zchB at h
  simp only [Bool.and_eq_true] at h
  obtain ⟨h1, h2, h3, h4, h5, h6, h7, h8, h9, h10, h11⟩ := h
  exact ⟨List.contains_iff_mem.mp h1, Nat.eq_of_beq_eq_true h2, Nat.eq_of_beq_eq_true h3, zdecB_ok h4, zdecB_ok h5, zdecB_ok h6, zdecB_ok h7, zdecB_ok h8, zdecB_ok h9, zdecB_ok h10, Nat.eq_of_beq_eq_true h11⟩
def zchC (k pc n nx : Nat) (aux : List Nat) : Bool := match aux with
  | [s, v] => Nat.beq s 3 && zchB k pc n v nx
  | _ => false
def zok0B (k pc : Nat) (i : Instr) (nx tg : Nat) (aux : List Nat) : Bool := match i with
  | .tableswitch dflt lo hi offs => ztabB k pc dflt lo hi offs tg aux
  | .ldc n => zchC k pc n nx aux || (zdecB k pc (.ldc n) (zlen (.ldc n)) && (Nat.beq nx (pc + zlen (.ldc n)) && (ztgB pc tg (.ldc n) && zaux k pc (.ldc n) aux)))
  | i => zdecB k pc i (zlen i) && (Nat.beq nx (pc + zlen i) && (ztgB pc tg i && zaux k pc i aux))
theorem zok0B_ok {k pc : Nat} {i : Instr} {nx tg : Nat} {aux : List Nat} (h : zok0B k pc i nx tg aux = true) : zok0 k pc i nx tg aux := by
  have gen : ∀ i : Instr, (zdecB k pc i (zlen i) && (Nat.beq nx (pc + zlen i) && (ztgB pc tg i && zaux k pc i aux))) = true → zdec k pc i ∧ nx = pc + zlen i ∧ (∀ o, ztgt i = some o → (pc : Int) + o = (tg : Int)) ∧ zaux k pc i aux = true := by
    intro i h
    simp only [Bool.and_eq_true] at h
    obtain ⟨h1, h2, h3, h4⟩ := h
    refine ⟨zdecB_ok h1, Nat.eq_of_beq_eq_true h2, fun o ho => ?_, h4⟩
    unfold ztgB at h3
    rw [ho] at h3
    exact of_decide_eq_true h3
  by_cases hi : ∃ dflt lo hi offs, i = .tableswitch dflt lo hi offs
  · obtain ⟨dflt, lo, hi, offs, rfl⟩ := hi
    exact ztabB_ok h
  · by_cases hl : ∃ n, i = .ldc n
    · obtain ⟨n, rfl⟩ := hl
      have h0 := h
      replace h : (zchC k pc n nx aux || (zdecB k pc (.ldc n) (zlen (.ldc n)) && (Nat.beq nx (pc + zlen (.ldc n)) && (ztgB pc tg (.ldc n) && zaux k pc (.ldc n) aux)))) = true := h
      rw [Bool.or_eq_true] at h
      rcases h with h | h
      · unfold zchC at h
        clear h0 gen
        split at h
        · rename_i s v
          rw [Bool.and_eq_true] at h
          exact Or.inl ⟨v, by rw [Nat.eq_of_beq_eq_true h.1], zchB_ok h.2⟩
        · cases h
      · exact Or.inr (gen _ h)
    · have e1 : zok0B k pc i nx tg aux = (zdecB k pc i (zlen i) && (Nat.beq nx (pc + zlen i) && (ztgB pc tg i && zaux k pc i aux))) := by
        cases i <;> first | rfl | exact absurd ⟨_, _, _, _, rfl⟩ hi | exact absurd ⟨_, rfl⟩ hl
      have e2 : zok0 k pc i nx tg aux = (zdec k pc i ∧ nx = pc + zlen i ∧ (∀ o, ztgt i = some o → (pc : Int) + o = (tg : Int)) ∧ zaux k pc i aux = true) := by
        cases i <;> first | rfl | exact absurd ⟨_, _, _, _, rfl⟩ hi | exact absurd ⟨_, rfl⟩ hl
      rw [e1] at h
      rw [e2]
      exact gen i h
def zok1B (k pc : Nat) (i : Instr) (t : Nat) : Bool := zdecB k pc i (zlen i) && (match zRT k with
  | none => Nat.beq t 8 && decide (i = .return_)
  | some ty => (Nat.blt t 4 && (decide (i = .ireturn) && Nat.beq (ztag ty) t)) || ((Nat.beq t 5 && (decide (i = .freturn) && decide (ty = .float))) || ((Nat.beq t 7 && (decide (i = .areturn) && Nat.beq (ztag ty) 7)) || (Nat.beq t 4 && (decide (i = .lreturn) && decide (ty = .long))))))
theorem zok1B_ok {k pc : Nat} {i : Instr} {t : Nat} (h : zok1B k pc i t = true) : zok1 k pc i t := by
  unfold zok1B at h
  rw [Bool.and_eq_true] at h
  obtain ⟨h1, h2⟩ := h
  refine ⟨zdecB_ok h1, ?_⟩
  split at h2
  · rename_i e
    simp only [Bool.and_eq_true, decide_eq_true_eq] at h2
    exact Or.inl ⟨Nat.eq_of_beq_eq_true h2.1, h2.2, e⟩
  · rename_i ty e
    simp only [Bool.and_eq_true, Bool.or_eq_true, decide_eq_true_eq] at h2
    rcases h2 with ⟨g1, g2, g3⟩ | ⟨g1, g2, g3⟩ | ⟨g1, g2, g3⟩ | ⟨g1, g2, g3⟩
    · refine Or.inr (Or.inl ⟨?_, g2, ty, e, Nat.eq_of_beq_eq_true g3⟩)
      simpa [Nat.blt_eq] using g1
    · exact Or.inr (Or.inr (Or.inl ⟨Nat.eq_of_beq_eq_true g1, g2, by rw [e, g3]⟩))
    · exact Or.inr (Or.inr (Or.inr (Or.inl ⟨Nat.eq_of_beq_eq_true g1, g2, ty, e, Nat.eq_of_beq_eq_true g3⟩)))
    · exact Or.inr (Or.inr (Or.inr (Or.inr ⟨Nat.eq_of_beq_eq_true g1, g2, by rw [e, g3]⟩)))
def zmt (x : Nat × Nat × Nat × Nat × Nat) : List (Nat × Nat × Nat × Nat × Nat) → Bool
  | [] => false
  | y :: l => (Nat.beq x.1 y.1 && (Nat.beq x.2.1 y.2.1 && (Nat.beq x.2.2.1 y.2.2.1 && (Nat.beq x.2.2.2.1 y.2.2.2.1 && Nat.beq x.2.2.2.2 y.2.2.2.2)))) || zmt x l
theorem zmt_ok {x : Nat × Nat × Nat × Nat × Nat} : ∀ {l : List (Nat × Nat × Nat × Nat × Nat)}, zmt x l = true → x ∈ l
  | [], h => by cases h
  | y :: l, h => by
    unfold zmt at h
    simp only [Bool.or_eq_true, Bool.and_eq_true] at h
    rcases h with ⟨h1, h2, h3, h4, h5⟩ | h
    · have : x = y := by
        exact Prod.ext (Nat.eq_of_beq_eq_true h1) (Prod.ext (Nat.eq_of_beq_eq_true h2) (Prod.ext (Nat.eq_of_beq_eq_true h3) (Prod.ext (Nat.eq_of_beq_eq_true h4) (Nat.eq_of_beq_eq_true h5))))
      rw [this]
      exact List.mem_cons_self
    · exact List.mem_cons_of_mem _ (zmt_ok h)
def zinvB (k j n rk : Nat) (i : Instr) : Bool := match i with
  | .invokestatic idx => zmt (zOI k, idx, j, rk, n) zMTab && Nat.beq rk 0
  | .invokespecial idx => zmt (zOI k, idx, j, rk, n) zMTab && Nat.beq rk 100
  | .invokevirtual idx => zmt (zOI k, idx, j, rk, n) zMTab && (!Nat.beq rk 0 && !Nat.beq rk 100)
  | _ => false
theorem zinvB_ok {k j n rk : Nat} {i : Instr} : zinvB k j n rk i = true → match i with
  | .invokestatic idx => (zOI k, idx, j, rk, n) ∈ zMTab ∧ rk = 0
  | .invokespecial idx => (zOI k, idx, j, rk, n) ∈ zMTab ∧ rk = 100
  | .invokevirtual idx => (zOI k, idx, j, rk, n) ∈ zMTab ∧ rk ≠ 0 ∧ rk ≠ 100
  | _ => False := by
  intro h
  unfold zinvB at h
  split at h
  · rw [Bool.and_eq_true] at h
    exact ⟨zmt_ok h.1, Nat.eq_of_beq_eq_true h.2⟩
  · rw [Bool.and_eq_true] at h
    exact ⟨zmt_ok h.1, Nat.eq_of_beq_eq_true h.2⟩
  · simp only [Bool.and_eq_true, Bool.not_eq_true'] at h
    exact ⟨zmt_ok h.1, Nat.ne_of_beq_eq_false h.2.1, Nat.ne_of_beq_eq_false h.2.2⟩
  · cases h
def zok2B (k pc : Nat) (i : Instr) (nx j n ml rk : Nat) : Bool := zdecB k pc i (zlen i) && (Nat.beq nx (pc + 3) && (Nat.beq (zML j) ml && (Nat.blt (zRK j) (zRK k) && (Nat.ble ml 20 && ((zrl j && Nat.ble n ml) && zinvB k j n rk i)))))
theorem zok2B_ok {k pc : Nat} {i : Instr} {nx j n ml rk : Nat} (h : zok2B k pc i nx j n ml rk = true) : zok2 k pc i nx j n ml rk := by
  unfold zok2B at h
  simp only [Bool.and_eq_true] at h
  obtain ⟨h1, h2, h3, h4, h5, h6, h7⟩ := h
  exact ⟨zdecB_ok h1, Nat.eq_of_beq_eq_true h2, Nat.eq_of_beq_eq_true h3, by simpa [Nat.blt_eq] using h4, Nat.le_of_ble_eq_true h5, ⟨h6.1, Nat.le_of_ble_eq_true h6.2⟩, zinvB_ok h7⟩
def zok3B (k pc E ik is ic w : Nat) : Bool := (zHH k).isNone && (zmt (zOI k, ik, is, ic, E) zXTab && (zdecB k pc (.new ik) 3 && (zdecB k (pc + 3) .dup 1 &&
  ((Nat.beq w 0 && (zdecB k (pc + 4) (.ldc is) 2 && (zdecB k (pc + 6) (.invokespecial ic) 3 && zdecB k (pc + 9) .athrow 1))) ||
   (Nat.beq w 1 && (zdecB k (pc + 4) (.ldc_w is) 3 && (zdecB k (pc + 7) (.invokespecial ic) 3 && zdecB k (pc + 10) .athrow 1)))))))
theorem zok3B_ok {k pc E ik is ic w : Nat} (h : zok3B k pc E ik is ic w = true) : zok3 k pc E ik is ic w := by
  unfold zok3B at h
  simp only [Bool.and_eq_true, Bool.or_eq_true, Option.isNone_iff_eq_none] at h
  obtain ⟨h1, h2, h3, h4, h5⟩ := h
  refine ⟨h1, zmt_ok h2, zdecB_ok h3, zdecB_ok h4, ?_⟩
  rcases h5 with ⟨g1, g2, g3, g4⟩ | ⟨g1, g2, g3, g4⟩
  · exact Or.inl ⟨Nat.eq_of_beq_eq_true g1, zdecB_ok g2, zdecB_ok g3, zdecB_ok g4⟩
  · exact Or.inr ⟨Nat.eq_of_beq_eq_true g1, zdecB_ok g2, zdecB_ok g3, zdecB_ok g4⟩
def zokB (k pc : Nat) (e : zE) : Bool := match e with
  | (0, i, nx, tg, aux) => zok0B k pc i nx tg aux
  | (1, i, _, _, [t]) => zok1B k pc i t
  | (2, i, nx, _, [j, n, ml, rk]) => zok2B k pc i nx j n ml rk
  | (3, _, _, _, [E, ik, is, ic, w]) => zok3B k pc E ik is ic w
  | _ => false
theorem zokB_ok {k pc : Nat} {e : zE} (h : zokB k pc e = true) : zok k pc e := by
  unfold zokB at h
  split at h
  · exact zok0B_ok h
  · exact zok1B_ok h
  · exact zok2B_ok h
  · exact zok3B_ok h
  · cases h
def zmB (k : Nat) : Bool := (zix zCs k).all (fun seg => seg.all (fun r => zokB k r.1 r.2))
theorem zlk_mem : ∀ {l : List (Nat × zE)} {p : Nat} {e : zE}, zlk l p = some e → (p, e) ∈ l
  | [], _, _, h => by cases h
  | (q, x) :: l, p, e, h => by
    unfold zlk at h
    cases hb : Nat.beq q p with
    | true =>
      rw [hb, cond_true] at h
      cases h
      rw [Nat.eq_of_beq_eq_true hb]
      exact List.mem_cons_self
    | false =>
      rw [hb, cond_false] at h
      exact List.mem_cons_of_mem _ (zlk_mem h)
theorem zix_mem : ∀ {L : List (List (Nat × zE))} {n : Nat} {x : Nat × zE}, x ∈ zix L n → ∃ seg ∈ L, x ∈ seg
  | [], _, _, h => by cases h
  | a :: L, 0, x, h => ⟨a, List.mem_cons_self, h⟩
  | a :: L, n + 1, x, h => by
    obtain ⟨seg, h1, h2⟩ := zix_mem (L := L) (n := n) h
    exact ⟨seg, List.mem_cons_of_mem _ h1, h2⟩
theorem zmB_ok {k : Nat} (h : zmB k = true) : ∀ pc e, codeT k pc = some e → zok k pc e := by
  intro pc e hc
  obtain ⟨seg, h1, h2⟩ := zix_mem (zlk_mem hc)
  exact zokB_ok (List.all_eq_true.mp (List.all_eq_true.mp h seg h1) (pc, e) h2)

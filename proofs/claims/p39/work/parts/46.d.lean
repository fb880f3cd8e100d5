/-! the layout of a day, event by event -/
/-- time, spans, barred, cut, joined -/
abbrev zLS : Type := Int × zSp × (Nat → Int) × (Nat → Int) × (Nat → Int)
def smB (S : zD) (ba : Nat → Int) (e : Nat) : Nat → Int
  | 0 => 0
  | n + 1 => smB S ba e n + (if ba n = 0 ∧ S 40 n = S 40 e then 1 else 0)
abbrev lyBar (S : zD) (ba : Nat → Int) (e : Nat) : Prop := ¬ (S 36 (S 40 e).toNat ≤ S 32 16 ∧ S 32 16 ≤ S 37 (S 40 e).toNat) ∨ S 35 (S 40 e).toNat ≤ smB S ba e e
def upN (f : Nat → Int) (n : Nat) (v : Int) : Nat → Int := fun k => if k = n then v else f k
def lyLn (S : zD) (e : Nat) : Int := S 33 (S 40 e).toNat + S 42 e
def lySt (S : zD) (e : Nat) (t : Int) : Int := if S 43 e = 102 then t else S 41 e
/-- an event: the time behind it, the spans, the event that is cut short, whether it joins -/
noncomputable def lyEv (S : zD) (e : Nat) (t : Int) (sp : zSp) : Int × zSp × Int × Int :=
  if t < lySt S e t then (lySt S e t + lyLn S e, (S 40 e, (e : Int), lySt S e t, lySt S e t + lyLn S e) :: lyGap S t (lySt S e t) sp, -1, 0)
  else if S 43 e = 99 then (lySt S e t + lyLn S e, (S 40 e, (e : Int), lySt S e t, lySt S e t + lyLn S e) :: lyCut (lySt S e t) sp, lyCe (lySt S e t) sp, 0)
  else if S 43 e = 106 then (if lySt S e t + lyLn S e ≤ t then (t, sp, -1, 0) else (lySt S e t + lyLn S e, (S 40 e, (e : Int), t, lySt S e t + lyLn S e) :: sp, -1, zb (lySt S e t < t)))
  else (t + lyLn S e, (S 40 e, (e : Int), t, t + lyLn S e) :: sp, -1, 0)
noncomputable def lyS (S : zD) (e : Nat) (st : zLS) : zLS :=
  if lyBar S st.2.2.1 e then (st.1, st.2.1, upN st.2.2.1 e 1, upN st.2.2.2.1 e 0, upN st.2.2.2.2 e 0)
  else ((lyEv S e st.1 st.2.1).1, (lyEv S e st.1 st.2.1).2.1, upN st.2.2.1 e 0, upN (fun n => if (lyEv S e st.1 st.2.1).2.2.1 = n then 1 else st.2.2.2.1 n) e 0, upN st.2.2.2.2 e (lyEv S e st.1 st.2.1).2.2.2)
noncomputable def lyN (S : zD) : Nat → zLS
  | 0 => (0, [], fun _ => 0, fun _ => 0, fun _ => 0)
  | e + 1 => lyS S e (lyN S e)
noncomputable def lyE (S : zD) (st : zLS) : zLS := if st.1 < 3600 then (3600, lyGap S st.1 3600 st.2.1, st.2.2) else (st.1, lyCut 3600 st.2.1, st.2.2.1, (fun n => if lyCe 3600 st.2.1 = n then 1 else st.2.2.2.1 n), st.2.2.2.2)
/-- the layout of the day -/
noncomputable def lyF (S : zD) : zLS := lyE S (lyN S (S 32 15).toNat)
/-- what holds of the events there are -/
def mEvs (S : zD) : Prop := (0 ≤ S 32 15 ∧ S 32 15 ≤ 12) ∧ (∀ e : Nat, (e : Int) < S 32 15 → (0 ≤ S 40 e ∧ S 40 e < S 32 7) ∧ (0 ≤ S 42 e ∧ S 42 e ≤ 900) ∧ (S 43 e = 102 ∨ S 43 e = 99 ∨ S 43 e = 112 ∨ S 43 e = 106) ∧ (S 43 e ≠ 102 → 0 ≤ S 41 e ∧ S 41 e ≤ 3599)) ∧ (∀ i, -1000000 ≤ S 35 i ∧ S 35 i ≤ 1000000) ∧ (pcs (clsD S)).length ≤ 8
/-- the spans follow each other from 0 to t -/
def spC : Int → zSp → Prop
  | t, [] => t = 0
  | t, x :: r => x.2.2.2 = t ∧ x.2.2.1 < t ∧ spC x.2.2.1 r
theorem spC_nn : ∀ {t : Int} {sp : zSp}, spC t sp → 0 ≤ t
  | t, [], h => by
    have : t = 0 := h
    omega
  | t, x :: r, ⟨h1, h2, h3⟩ => by
    have := spC_nn h3
    omega
theorem spC_b : ∀ {t : Int} {sp : zSp}, spC t sp → ∀ x ∈ sp, 0 ≤ x.2.2.1 ∧ x.2.2.1 < x.2.2.2 ∧ x.2.2.2 ≤ t
  | _, [], _, x, hx => nomatch hx
  | t, y :: r, ⟨h1, h2, h3⟩, x, hx => by
    rcases List.mem_cons.mp hx with rfl | hx
    · exact ⟨spC_nn h3, by omega, by omega⟩
    · have := spC_b h3 x hx
      omega
/-- clips and events of spans -/
def spV (S : zD) (sp : zSp) : Prop := ∀ x ∈ sp, (x.1 = -1 ∧ x.2.1 = -1) ∨ ((0 ≤ x.1 ∧ x.1 < S 32 7) ∧ (x.2.1 = -1 ∨ (0 ≤ x.2.1 ∧ x.1 = S 40 x.2.1.toNat)))
theorem lyCut_C {t : Int} : ∀ {t0 : Int} {sp : zSp}, spC t0 sp → 0 ≤ t → t ≤ t0 → spC t (lyCut t sp)
  | t0, [], h, h0, h1 => by
    have : t0 = 0 := h
    show t = 0
    omega
  | t0, x :: r, ⟨h1, h2, h3⟩, h0, ht => by
    unfold lyCut
    split
    · exact lyCut_C h3 h0 (by omega)
    · split
      · exact ⟨rfl, by show x.2.2.1 < t; omega, h3⟩
      · exact ⟨by omega, by omega, h3⟩
theorem lyCut_m {t : Int} : ∀ {sp : zSp} (P : Int → Int → Prop), (∀ x ∈ sp, P x.1 x.2.1) → ∀ x ∈ lyCut t sp, P x.1 x.2.1
  | [], _, _, x, hx => nomatch hx
  | y :: r, P, h, x, hx => by
    unfold lyCut at hx
    split at hx
    · exact lyCut_m P (fun z hz => h z (List.mem_cons_of_mem _ hz)) x hx
    · split at hx
      · rcases List.mem_cons.mp hx with rfl | hx
        · exact h y List.mem_cons_self
        · exact h x (List.mem_cons_of_mem _ hx)
      · exact h x hx
theorem lyCut_E {t : Int} : ∀ {b : Int} {sp : zSp}, spE b sp → spE b (lyCut t sp)
  | _, [], _ => trivial
  | b, x :: r, h => by
    unfold lyCut
    have h' := h
    unfold spE at h
    split
    · split at h
      · exact lyCut_E h
      · exact spE_w (by omega) (lyCut_E h.2)
    · split
      · exact h'
      · exact h'
theorem lyCut_l {t : Int} : ∀ {sp : zSp}, (lyCut t sp).length ≤ sp.length
  | [] => Nat.le_refl _
  | x :: r => by
    have := lyCut_l (t := t) (sp := r)
    unfold lyCut
    split
    · rw [List.length_cons]
      omega
    · split
      · exact Nat.le_refl _
      · exact Nat.le_refl _
theorem lyPs_p {S : zD} (hS : mCl S) {m : Nat} : ∀ (n c : Nat) (t : Int) (sp : zSp), (c : Int) + n = S 32 7 → spC t sp →
    spC (t + (mss S m (c + n) - mss S m c)) (lyPs S m n c t sp) ∧ (lyPs S m n c t sp).length = sp.length + popB n (m / 2 ^ c) ∧ (spV S sp → spV S (lyPs S m n c t sp)) ∧ ∀ b, spE b sp → spE b (lyPs S m n c t sp)
  | 0, c, t, sp, _, h => by
    refine ⟨?_, rfl, fun q => q, fun _ q => q⟩
    rw [show t + (mss S m (c + 0) - mss S m c) = t by rw [Nat.add_zero]; omega]
    exact h
  | n + 1, c, t, sp, hn, h => by
    have hl := (hS.2.2 c (by omega)).1
    have hm : mss S m (c + 1) = mss S m c + (if m.testBit c = true then S 33 c else 0) := rfl
    have hp : popB (n + 1) (m / 2 ^ c) = m / 2 ^ c % 2 + popB n (m / 2 ^ (c + 1)) := by
      rw [popB, tb_half]
    have htb := tb_div m c
    unfold lyPs
    by_cases g : m.testBit c = true
    · rw [if_pos g] at hm ⊢
      have g2 : m / 2 ^ c % 2 = 1 := by
        rw [g] at htb
        exact of_decide_eq_true htb.symm
      obtain ⟨a1, a2, a3, a4⟩ := lyPs_p hS (m := m) n (c + 1) (t + S 33 c) (((c : Int), -1, t, t + S 33 c) :: sp) (by omega) ⟨rfl, by show t < t + S 33 c; omega, h⟩
      refine ⟨?_, ?_, fun q => a3 fun x hx => ?_, fun b q => a4 b ?_⟩
      · rw [show c + (n + 1) = c + 1 + n by omega, show t + (mss S m (c + 1 + n) - mss S m c) = t + S 33 c + (mss S m (c + 1 + n) - mss S m (c + 1)) by omega]
        exact a1
      · rw [a2, hp, List.length_cons, g2]
        omega
      · rcases List.mem_cons.mp hx with rfl | hx
        · exact Or.inr ⟨⟨by show 0 ≤ (c : Int); omega, by show (c : Int) < S 32 7; omega⟩, Or.inl rfl⟩
        · exact q x hx
      · unfold spE
        rw [if_pos rfl]
        exact q
    · rw [if_neg g] at hm ⊢
      have g2 : m / 2 ^ c % 2 = 0 := by
        have : ¬ m / 2 ^ c % 2 = 1 := fun q => g (by rw [htb, q]; rfl)
        omega
      obtain ⟨a1, a2, a3, a4⟩ := lyPs_p hS (m := m) n (c + 1) t sp (by omega) h
      refine ⟨?_, ?_, a3, a4⟩
      · rw [show c + (n + 1) = c + 1 + n by omega, show t + (mss S m (c + 1 + n) - mss S m c) = t + (mss S m (c + 1 + n) - mss S m (c + 1)) by omega]
        exact a1
      · rw [a2, hp, g2]
        omega
theorem cls_pos {S : zD} (hS : mCl S) : ∀ q ∈ clsD S, 1 ≤ q.2.1 := by
  intro q hq
  obtain ⟨i, h1, h2, rfl⟩ := clsF_mem _ _ q hq
  exact (hS.2.2 i (by have := hS.1; omega)).1.1
/-- a gap filled -/
theorem lyGap_p {S : zD} (hS : mCl S) (h8 : (pcs (clsD S)).length ≤ 8) (hn : FP.Core.fIsNaN (mLst S) = false) {f t : Int} {sp : zSp} (hg : 1 ≤ t - f ∧ t - f ≤ 3600) (h : spC f sp) (hv : spV S sp) :
    spC t (lyGap S f t sp) ∧ (lyGap S f t sp).length ≤ sp.length + 8 ∧ spV S (lyGap S f t sp) ∧ ∀ b, spE b sp → spE b (lyGap S f t sp) := by
  have hlv := lyLev_b hS (sp := sp) (fun x hx => by
    rcases hv x hx with h1 | h1
    · exact Or.inl h1.2
    · exact Or.inr h1.1)
  have hB := bestM_B hS hg hlv hn
  unfold lyGap
  split
  · refine ⟨⟨rfl, by show f < t; omega, h⟩, by rw [List.length_cons]; omega, fun x hx => ?_, fun b q => ?_⟩
    · rcases List.mem_cons.mp hx with rfl | hx
      · exact Or.inl ⟨rfl, rfl⟩
      · exact hv x hx
    · unfold spE
      rw [if_pos rfl]
      exact q
  · rename_i g
    rcases hB with ⟨hB, -⟩ | ⟨hB, -⟩
    · exact absurd hB g
    · have hm := mch_lt hS hB
      obtain ⟨a1, a2, a3, a4⟩ := lyPs_p hS (m := bestM S (t - f) (lyLev S sp)) (S 32 7).toNat 0 f sp (by have := hS.1; omega) h
      rw [Nat.zero_add, mss, hm.2.2.2] at a1
      rw [Nat.pow_zero, Nat.div_one] at a2
      refine ⟨by rw [show f + (t - f - 0) = t by omega] at a1; exact a1, ?_, a3 hv, a4⟩
      rw [a2]
      have h1 := sel_C (clsD S) _ (cls_pos hS) hB.1
      have h2 := sel_len (lns (pcs (clsD S))) (sumC (clsD S) (bestM S (t - f) (lyLev S sp))) (popB (clsD S).length (bestM S (t - f) (lyLev S sp)))
      have h3 := List.length_pos_of_mem h1
      rw [clsD_len hS.1] at h2 h3
      by_cases h4 : popB (S 32 7).toNat (bestM S (t - f) (lyLev S sp)) ≤ 8
      · omega
      · have h5 : bnB (lns (pcs (clsD S))).length (popB (S 32 7).toNat (bestM S (t - f) (lyLev S sp))) = 0 := bnB_0 (by unfold lns; rw [List.length_map]; omega)
        omega

/-! what a layout rests on: a programme more, or a secondary event more, leaves it as it is -/
theorem subC_a {l v : Int} : ∀ (cs : zCL) (m : Nat), subC (cs ++ [(false, l, v)]) m = subC cs m
  | [], m => by
    show ((false || m % 2 == 0) && (m / 2 == 0)) = (m == 0)
    by_cases h : m = 0
    · subst h; rfl
    · have e1 : (m == 0) = false := by simp [h]
      rw [e1]
      by_cases h2 : m % 2 = 0
      · have : ¬ m / 2 = 0 := by omega
        simp [h2]
        omega
      · simp [h2]
  | q :: r, m => by
    show ((q.1 || m % 2 == 0) && subC (r ++ [(false, l, v)]) (m / 2)) = ((q.1 || m % 2 == 0) && subC r (m / 2))
    rw [subC_a r]
theorem sumC_a {l v : Int} : ∀ (cs : zCL) (m : Nat), subC cs m = true → sumC (cs ++ [(false, l, v)]) m = sumC cs m
  | [], m, h => by
    have h : (m == 0) = true := h
    have h : m = 0 := by simpa using h
    subst h
    rfl
  | q :: r, m, h => by
    have h : ((q.1 || m % 2 == 0) && subC r (m / 2)) = true := h
    have h2 : subC r (m / 2) = true := (Bool.and_eq_true_iff.mp h).2
    show (if m % 2 = 1 then q.2.1 else 0) + sumC (r ++ [(false, l, v)]) (m / 2) = (if m % 2 = 1 then q.2.1 else 0) + sumC r (m / 2)
    rw [sumC_a r _ h2]
theorem mch_a {l v : Int} {cs : zCL} {gap : Int} {m : Nat} : mch (cs ++ [(false, l, v)]) gap m ↔ mch cs gap m := by
  unfold mch
  rw [subC_a]
  constructor
  · rintro ⟨h1, h2⟩
    exact ⟨h1, by rw [sumC_a _ _ h1] at h2; exact h2⟩
  · rintro ⟨h1, h2⟩
    exact ⟨h1, by rw [sumC_a _ _ h1]; exact h2⟩
theorem popB_a : ∀ (n a : Nat), a < 2 ^ n → popB (n + 1) a = popB n a
  | 0, a, h => by
    have : a = 0 := by simpa using h
    subst this
    rfl
  | n + 1, a, h => by
    rw [popB, popB_a n (a / 2) (by rw [Nat.pow_succ] at h; omega), popB]
theorem lowr_a : ∀ (n a b : Nat), a < 2 ^ n → b < 2 ^ n → lowr (n + 1) a b = lowr n a b
  | 0, a, b, ha, hb => by
    have : a = 0 := by simpa using ha
    subst this
    have : b = 0 := by simpa using hb
    subst this
    rfl
  | n + 1, a, b, ha, hb => by
    rw [Nat.pow_succ] at ha hb
    rw [lowr, lowr_a n (a / 2) (b / 2) (by omega) (by omega), lowr]
/-- of the cells of clips and events, those that a layout reads -/
def lEq (S D : zD) : Prop := (D 32 15 = S 32 15 ∧ D 32 16 = S 32 16) ∧ (∀ e : Nat, (e : Int) < S 32 15 → D 40 e = S 40 e ∧ D 41 e = S 41 e ∧ D 42 e = S 42 e ∧ D 43 e = S 43 e) ∧
  (∀ i : Nat, (i : Int) < S 32 7 → D 33 i = S 33 i ∧ D 34 i = S 34 i ∧ D 35 i = S 35 i ∧ D 36 i = S 36 i ∧ D 37 i = S 37 i ∧ D 38 i = S 38 i) ∧ (D 32 7 = S 32 7 ∨ (D 32 7 = S 32 7 + 1 ∧ D 38 (S 32 7).toNat = 0))
theorem clsF_g {S D : zD} (h : lEq S D) : ∀ (n c : Nat), (c : Int) + n ≤ S 32 7 → clsF D c n = clsF S c n
  | 0, _, _ => rfl
  | n + 1, c, hc => by
    obtain ⟨h33, h34, h35, h36, h37, h38⟩ := h.2.2.1 c (by omega)
    have : zflag D c = zflag S c := by
      unfold zflag
      rw [h38, h36, h37, h.1.2]
    unfold clsF
    rw [this, h33, h34, clsF_g h n (c + 1) (by omega)]
theorem clsF_app {D : zD} : ∀ (n c : Nat), clsF D c (n + 1) = clsF D c n ++ [(zflag D (c + n), D 33 (c + n), D 34 (c + n))]
  | 0, c => rfl
  | n + 1, c => by
    rw [clsF, clsF_app n (c + 1), clsF, show c + 1 + n = c + (n + 1) by omega]
    rfl
theorem cls_g {S D : zD} (h : lEq S D) (hS : mCl S) : clsD D = clsD S ∧ D 32 7 = S 32 7 ∨ (∃ l v, clsD D = clsD S ++ [(false, l, v)]) ∧ D 32 7 = S 32 7 + 1 := by
  have h7 := hS.1
  rcases h.2.2.2 with g | ⟨g1, g2⟩
  · refine Or.inl ⟨?_, g⟩
    unfold clsD
    rw [g, clsF_g h _ _ (by omega)]
  · refine Or.inr ⟨⟨D 33 (S 32 7).toNat, D 34 (S 32 7).toNat, ?_⟩, g1⟩
    unfold clsD
    rw [g1, show (S 32 7 + 1).toNat = (S 32 7).toNat + 1 by omega, clsF_app, clsF_g h _ _ (by omega), Nat.zero_add]
    have : zflag D (S 32 7).toNat = false := by
      unfold zflag
      rw [g2]
      rfl
    rw [this]
theorem pcs_a {l v : Int} {cs : zCL} : pcs (cs ++ [(false, l, v)]) = pcs cs := by
  unfold pcs
  simp
theorem mvs_g {S D : zD} (h : lEq S D) (m : Nat) : ∀ n : Nat, (n : Int) ≤ S 32 7 → mvs D m n = mvs S m n
  | 0, _ => rfl
  | n + 1, hn => by
    obtain ⟨h33, h34, -⟩ := h.2.2.1 n (by omega)
    unfold mvs
    rw [mvs_g h m n (by omega), h33, h34]
theorem tb_lt {n m : Nat} (h : m < 2 ^ n) : m.testBit n = false := Nat.testBit_lt_two_pow h
theorem mdv_g {S D : zD} (h : lEq S D) (hS : mCl S) {m : Nat} (hm : m < 2 ^ (S 32 7).toNat) (g l : Int) : mdv D m g l = mdv S m g l := by
  have h7 := hS.1
  have e : mvs D m (D 32 7).toNat = mvs S m (S 32 7).toNat := by
    rcases h.2.2.2 with q | ⟨q, -⟩
    · rw [q, mvs_g h m _ (by omega)]
    · rw [q, show (S 32 7 + 1).toNat = (S 32 7).toNat + 1 by omega, mvs, if_neg (by rw [tb_lt hm]; simp), mvs_g h m _ (by omega)]
  unfold mdv
  rw [e]
theorem best_lt {S : zD} (hS : mCl S) {gap lev : Int} (hg : 1 ≤ gap ∧ gap ≤ 3600) (hl : -60 ≤ lev ∧ lev ≤ 0) (hn : FP.Core.fIsNaN (mLst S) = false) : bestM S gap lev < 2 ^ (S 32 7).toNat := by
  rcases bestM_B hS hg hl hn with ⟨h, -⟩ | ⟨h, -⟩
  · rw [h]
    exact Nat.two_pow_pos _
  · have := (mch_lt hS h).1
    rw [clsD_len hS.1] at this
    exact this
theorem btr_c {n : Nat} {K K' : Nat → Int} {a b : Nat} (ha : K' a = K a) (hb : K' b = K b) (h : btr n K a b) : btr n K' a b := by
  unfold btr at h ⊢
  rw [ha, hb]
  exact h
theorem btr_a {n : Nat} {K : Nat → Int} {a b : Nat} (ha : a < 2 ^ n) (hb : b < 2 ^ n) (h : btr n K a b) : btr (n + 1) K a b := by
  unfold btr at h ⊢
  rw [popB_a _ _ ha, popB_a _ _ hb, lowr_a _ _ _ ha hb]
  exact h
theorem best_g {S D : zD} (h : lEq S D) (hS : mCl S) {gap lev : Int} (hg : 1 ≤ gap ∧ gap ≤ 3600) (hl : -60 ≤ lev ∧ lev ≤ 0) (hn : FP.Core.fIsNaN (mLst S) = false) : bestM D gap lev = bestM S gap lev := by
  refine bestM_of ?_
  have hB := bestM_B hS hg hl hn
  have hb := best_lt hS hg hl hn
  have hlen := clsD_len hS.1
  have hmd : ∀ x, mch (clsD S) gap x → x < 2 ^ (S 32 7).toNat := fun x hx => by
    have := (mch_lt hS hx).1
    rw [hlen] at this
    exact this
  rcases cls_g h hS with ⟨e, -⟩ | ⟨⟨l, v, e⟩, -⟩
  · rw [e]
    rcases hB with ⟨q1, q2⟩ | ⟨q1, q2⟩
    · exact Or.inl ⟨q1, q2⟩
    · refine Or.inr ⟨q1, fun x hx => ?_⟩
      rcases q2 x hx with r | r
      · exact Or.inl r
      · refine Or.inr ?_
        exact btr_c (congrArg FP.Core.fkey (mdv_g h hS hb gap lev)) (congrArg FP.Core.fkey (mdv_g h hS (hmd x hx) gap lev)) r
  · rw [e]
    rcases hB with ⟨q1, q2⟩ | ⟨q1, q2⟩
    · exact Or.inl ⟨q1, fun x hx => q2 x (mch_a.mp hx)⟩
    · refine Or.inr ⟨mch_a.mpr q1, fun x hx => ?_⟩
      have hx := mch_a.mp hx
      rcases q2 x hx with r | r
      · exact Or.inl r
      · refine Or.inr ?_
        have hx2 := hmd x hx
        have r2 := btr_c (K' := fun m => FP.Core.fkey (mdv D m gap lev)) (congrArg FP.Core.fkey (mdv_g h hS hb gap lev)) (congrArg FP.Core.fkey (mdv_g h hS hx2 gap lev)) r
        rw [← hlen] at hb hx2
        rw [List.length_append, List.length_singleton]
        exact btr_a hb hx2 r2
theorem lev_g {S D : zD} (h : lEq S D) : ∀ {sp : zSp}, spV S sp → lyLev D sp = lyLev S sp
  | [], _ => rfl
  | x :: r, hv => by
    have hv1 := hv x List.mem_cons_self
    unfold lyLev
    rw [lev_g h (fun y hy => hv y (List.mem_cons_of_mem _ hy))]
    by_cases g : x.2.1 = -1
    · rw [if_pos g, if_pos g]
    · rw [if_neg g, if_neg g]
      rcases hv1 with q | q
      · exact absurd q.2 g
      · exact (h.2.2.1 x.1.toNat (by omega)).2.1
theorem ps_g {S D : zD} (h : lEq S D) (m : Nat) : ∀ (n c : Nat) (t : Int) (sp : zSp), (c : Int) + n ≤ S 32 7 → lyPs D m n c t sp = lyPs S m n c t sp
  | 0, _, _, _, _ => rfl
  | n + 1, c, t, sp, hc => by
    unfold lyPs
    rw [(h.2.2.1 c (by omega)).1, ps_g h m n _ _ _ (by omega), ps_g h m n _ _ _ (by omega)]
theorem ps_a {D : zD} {m : Nat} : ∀ (n c : Nat) (t : Int) (sp : zSp), m.testBit (c + n) = false → lyPs D m (n + 1) c t sp = lyPs D m n c t sp
  | 0, c, t, sp, h => by
    show (if m.testBit c = true then lyPs D m 0 (c + 1) (t + D 33 c) (((c : Int), -1, t, t + D 33 c) :: sp) else lyPs D m 0 (c + 1) t sp) = sp
    rw [if_neg (by rw [Nat.add_zero] at h; rw [h]; simp)]
    rfl
  | n + 1, c, t, sp, h => by
    rw [lyPs, ps_a n (c + 1) _ _ (by rw [show c + 1 + n = c + (n + 1) by omega]; exact h), ps_a n (c + 1) _ _ (by rw [show c + 1 + n = c + (n + 1) by omega]; exact h)]
    rfl
theorem gap_g {S D : zD} (h : lEq S D) (hS : mCl S) (hn : FP.Core.fIsNaN (mLst S) = false) {f t : Int} {sp : zSp} (hg : 1 ≤ t - f ∧ t - f ≤ 3600) (hv : spV S sp) : lyGap D f t sp = lyGap S f t sp := by
  have hl := lyLev_b hS (sp := sp) (fun x hx => by
    rcases hv x hx with h1 | h1
    · exact Or.inl h1.2
    · exact Or.inr h1.1)
  have h7 := hS.1
  have hb := best_lt hS hg hl hn
  unfold lyGap
  rw [lev_g h hv, best_g h hS hg hl hn]
  rcases h.2.2.2 with q | ⟨q, -⟩
  · rw [q, ps_g h _ _ _ _ _ (by omega)]
  · rw [q, show (S 32 7 + 1).toNat = (S 32 7).toNat + 1 by omega, ps_a _ _ _ _ (by rw [Nat.zero_add]; exact tb_lt hb), ps_g h _ _ _ _ _ (by omega)]
theorem smB_g {S D : zD} (h : lEq S D) (ba : Nat → Int) {e : Nat} (he : (e : Int) < S 32 15) : ∀ m, m ≤ e → smB D ba e m = smB S ba e m
  | 0, _ => rfl
  | m + 1, hm => by
    unfold smB
    rw [smB_g h ba he m (by omega), (h.2.1 m (by omega)).1, (h.2.1 e he).1]
theorem lyN_g {S D : zD} (h : lEq S D) (hS : mCl S) (hE : mEvs S) (hn : FP.Core.fIsNaN (mLst S) = false) : ∀ e : Nat, (e : Int) ≤ S 32 15 → lyN D e = lyN S e
  | 0, _ => rfl
  | e + 1, he => by
    have ih := lyN_g h hS hE hn e (by omega)
    obtain ⟨⟨i1, i2, i3, i4, i5⟩, -⟩ := lyN_p hS hE hn e (by omega)
    obtain ⟨h40, h41, h42, h43⟩ := h.2.1 e (by omega)
    obtain ⟨v1, v2, v3, v4⟩ := hE.2.1 e (by omega)
    have t0 := spC_nn i1
    obtain ⟨h33, h34, h35, h36, h37, h38⟩ := h.2.2.1 (S 40 e).toNat (by omega)
    unfold lyN
    rw [ih]
    generalize lyN S e = st at *
    have hbar : lyBar D st.2.2.1 e ↔ lyBar S st.2.2.1 e := by
      unfold lyBar
      rw [smB_g h _ (by omega) e (Nat.le_refl _), h40, h36, h37, h35, h.1.2]
    have hev : lyEv D e st.1 st.2.1 = lyEv S e st.1 st.2.1 := by
      have h1 : lyLn D e = lyLn S e := by
        unfold lyLn
        rw [h40, h33, h42]
      have h2 : lySt D e st.1 = lySt S e st.1 := by
        unfold lySt
        rw [h43, h41]
      unfold lyEv
      rw [h1, h2, h40, h43]
      by_cases g : st.1 < lySt S e st.1
      · have hst : S 43 e ≠ 102 ∧ lySt S e st.1 = S 41 e := by
          unfold lySt at g ⊢
          by_cases g2 : S 43 e = 102
          · rw [if_pos g2] at g
            omega
          · exact ⟨g2, if_neg g2⟩
        have := v4 hst.1
        rw [if_pos g, if_pos g, gap_g h hS hn (by omega) i4]
      · rw [if_neg g, if_neg g]
    unfold lyS
    rw [hev]
    by_cases g : lyBar S st.2.2.1 e
    · rw [if_pos g, if_pos (hbar.mpr g)]
    · rw [if_neg g, if_neg (fun q => g (hbar.mp q))]
theorem lyF_g {S D : zD} (h : lEq S D) (hS : mCl S) (hE : mEvs S) (hn : FP.Core.fIsNaN (mLst S) = false) : lyF D = lyF S := by
  have h15 := hE.1
  obtain ⟨⟨i1, i2, i3, i4, i5⟩, -⟩ := lyN_p hS hE hn (S 32 15).toNat (by omega)
  have t0 := spC_nn i1
  unfold lyF lyE
  rw [h.1.1, lyN_g h hS hE hn _ (by omega)]
  by_cases g : (lyN S (S 32 15).toNat).1 < 3600
  · rw [if_pos g, if_pos g, gap_g h hS hn (by omega) i4]
  · rw [if_neg g, if_neg g]

/-! an event's span: what cuts and gaps do to it -/
theorem evF_no {n : Nat} : ∀ {b : Int} {sp : zSp}, spE b sp → b ≤ n → evF n sp = none
  | _, [], _, _ => rfl
  | b, x :: r, hs, hb => by
    unfold spE at hs
    unfold evF
    split at hs
    · rw [if_neg (by omega)]
      exact evF_no hs hb
    · rw [if_neg (by omega)]
      exact evF_no hs.2 (by omega)
theorem evF_mem {n : Nat} {x : Int × Int × Int × Int} : ∀ {sp : zSp}, evF n sp = some x → x ∈ sp ∧ x.2.1 = n
  | [], h => nomatch h
  | y :: r, h => by
    unfold evF at h
    split at h
    · rename_i g
      have : y = x := Option.some.inj h
      rw [← this]
      exact ⟨List.mem_cons_self, g⟩
    · obtain ⟨h1, h2⟩ := evF_mem h
      exact ⟨List.mem_cons_of_mem _ h1, h2⟩
theorem evF_ps {S : zD} {m k : Nat} : ∀ (n c : Nat) (t : Int) (sp : zSp), evF k (lyPs S m n c t sp) = evF k sp
  | 0, _, _, _ => rfl
  | n + 1, c, t, sp => by
    unfold lyPs
    split
    · rw [evF_ps n (c + 1), evF, if_neg (by show ¬ (-1 : Int) = k; omega)]
    · exact evF_ps n (c + 1) t sp
theorem evF_gap {S : zD} {k : Nat} {f t : Int} {sp : zSp} : evF k (lyGap S f t sp) = evF k sp := by
  unfold lyGap
  split
  · rw [evF, if_neg (by show ¬ (-1 : Int) = k; omega)]
  · exact evF_ps _ _ _ _
/-- what a cut leaves of a span -/
def cutO (t : Int) : Option (Int × Int × Int × Int) → Option (Int × Int × Int × Int)
  | none => none
  | some x => if t ≤ x.2.2.1 then none else some (x.1, x.2.1, x.2.2.1, min x.2.2.2 t)
theorem cutO_s {t : Int} {x : Int × Int × Int × Int} : cutO t (some x) = if t ≤ x.2.2.1 then none else some (x.1, x.2.1, x.2.2.1, min x.2.2.2 t) := rfl
theorem cutO_n {t : Int} {o : Option (Int × Int × Int × Int)} (h : ∀ x, o = some x → x.2.2.1 < t ∧ x.2.2.2 ≤ t) : cutO t o = o := by
  cases o with
  | none => rfl
  | some x =>
    have := h x rfl
    rw [cutO_s, if_neg (by omega), show min x.2.2.2 t = x.2.2.2 by omega]
theorem evF_cut {t : Int} {n : Nat} : ∀ {t0 b : Int} {sp : zSp}, spC t0 sp → spE b sp → evF n (lyCut t sp) = cutO t (evF n sp)
  | _, _, [], _, _ => rfl
  | t0, b, x :: r, ⟨h1, h2, h3⟩, hs => by
    have hE : ∃ b', spE b' r ∧ (x.2.1 = n → b' ≤ n) := by
      unfold spE at hs
      split at hs
      · exact ⟨b, hs, fun q => by omega⟩
      · exact ⟨x.2.1, hs.2, fun q => by omega⟩
    obtain ⟨b', hE1, hE2⟩ := hE
    have ih := evF_cut (t := t) (n := n) h3 hE1
    have hr : ∀ y, evF n r = some y → y.2.2.1 < x.2.2.1 ∧ y.2.2.2 ≤ x.2.2.1 := fun y hy => by
      have := spC_b h3 y (evF_mem hy).1
      omega
    unfold lyCut
    by_cases g1 : t ≤ x.2.2.1
    · rw [if_pos g1, ih]
      by_cases g2 : x.2.1 = n
      · rw [evF_no hE1 (hE2 g2)]
        show none = cutO t (if x.2.1 = n then some x else evF n r)
        rw [if_pos g2, cutO_s, if_pos g1]
      · show _ = cutO t (if x.2.1 = n then some x else evF n r)
        rw [if_neg g2]
    · rw [if_neg g1]
      by_cases g3 : t < x.2.2.2
      · rw [if_pos g3]
        show (if x.2.1 = n then some (x.1, x.2.1, x.2.2.1, t) else evF n r) = cutO t (if x.2.1 = n then some x else evF n r)
        by_cases g2 : x.2.1 = n
        · rw [if_pos g2, if_pos g2, cutO_s, if_neg g1, show min x.2.2.2 t = t by omega]
        · rw [if_neg g2, if_neg g2, cutO_n fun y hy => by have := hr y hy; omega]
      · rw [if_neg g3]
        show _ = cutO t (if x.2.1 = n then some x else evF n r)
        show (if x.2.1 = n then some x else evF n r) = _
        by_cases g2 : x.2.1 = n
        · rw [if_pos g2, cutO_n fun y hy => by have : x = y := Option.some.inj hy; subst this; omega]
        · rw [if_neg g2, cutO_n fun y hy => by have := hr y hy; omega]
theorem lyCe_i {t : Int} {n : Nat} : ∀ {t0 b : Int} {sp : zSp}, spC t0 sp → spE b sp → (lyCe t sp = (n : Int) ↔ ∃ x, evF n sp = some x ∧ x.2.2.1 < t ∧ t < x.2.2.2)
  | _, _, [], _, _ => ⟨fun q => by unfold lyCe at q; omega, fun ⟨x, q, _⟩ => nomatch q⟩
  | t0, b, x :: r, ⟨h1, h2, h3⟩, hs => by
    have hE : ∃ b', spE b' r ∧ (x.2.1 = n → b' ≤ n) := by
      unfold spE at hs
      split at hs
      · exact ⟨b, hs, fun q => by omega⟩
      · exact ⟨x.2.1, hs.2, fun q => by omega⟩
    obtain ⟨b', hE1, hE2⟩ := hE
    have ih := lyCe_i (t := t) (n := n) h3 hE1
    have hr : ∀ y, evF n r = some y → y.2.2.1 < x.2.2.1 ∧ y.2.2.2 ≤ x.2.2.1 := fun y hy => by
      have := spC_b h3 y (evF_mem hy).1
      omega
    have ev : evF n (x :: r) = if x.2.1 = n then some x else evF n r := rfl
    rw [ev]
    unfold lyCe
    by_cases g1 : t ≤ x.2.2.1
    · rw [if_pos g1, ih]
      by_cases g2 : x.2.1 = n
      · rw [if_pos g2, evF_no hE1 (hE2 g2)]
        exact ⟨fun ⟨_, q, _⟩ => (nomatch q), fun ⟨y, q1, q2, q3⟩ => by have : x = y := Option.some.inj q1; subst this; omega⟩
      · rw [if_neg g2]
    · rw [if_neg g1]
      by_cases g3 : t < x.2.2.2
      · rw [if_pos g3]
        by_cases g2 : x.2.1 = n
        · rw [if_pos g2]
          exact ⟨fun _ => ⟨x, rfl, by omega, g3⟩, fun _ => g2⟩
        · rw [if_neg g2]
          exact ⟨fun q => absurd q g2, fun ⟨y, q1, q2, q3⟩ => by have := hr y q1; omega⟩
      · rw [if_neg g3]
        refine ⟨fun q => by omega, fun ⟨y, q1, q2, q3⟩ => ?_⟩
        by_cases g2 : x.2.1 = n
        · rw [if_pos g2] at q1
          have : x = y := Option.some.inj q1
          subst this
          omega
        · rw [if_neg g2] at q1
          have := hr y q1
          omega
/-! the level ahead -/
theorem lyLev_0 {S : zD} : ∀ {sp : zSp}, spE 0 sp → lyLev S sp = -23
  | [], _ => rfl
  | x :: r, h => by
    unfold spE at h
    unfold lyLev
    split at h
    · rename_i g
      rw [if_pos g]
      exact lyLev_0 h
    · omega
theorem lyLev_e {S : zD} {e : Nat} : ∀ {sp : zSp}, spE ((e : Int) + 1) sp → spV S sp → ((∀ x, evF e sp = some x → lyLev S sp = S 34 (S 40 e).toNat) ∧ (evF e sp = none → spE e sp))
  | [], _, _ => ⟨fun x q => (nomatch q), fun _ => trivial⟩
  | x :: r, h, hv => by
    have hv1 := hv x List.mem_cons_self
    have hvr : spV S r := fun y hy => hv y (List.mem_cons_of_mem _ hy)
    have ev : evF e (x :: r) = if x.2.1 = e then some x else evF e r := rfl
    have el : lyLev S (x :: r) = if x.2.1 = -1 then lyLev S r else S 34 x.1.toNat := rfl
    rw [ev, el]
    unfold spE at h ⊢
    by_cases g : x.2.1 = -1
    · rw [if_pos g] at h
      rw [if_pos g, if_pos g, if_neg (by omega)]
      exact lyLev_e h hvr
    · rw [if_neg g] at h
      rw [if_neg g, if_neg g]
      obtain ⟨⟨h1, h2⟩, h3⟩ := h
      by_cases g2 : x.2.1 = e
      · rw [if_pos g2]
        refine ⟨fun y _ => ?_, fun q => nomatch q⟩
        rcases hv1 with q | q
        · omega
        · rw [show x.1 = S 40 e by
            rcases q.2 with q2 | q2
            · omega
            · rw [q2.2, g2, Int.toNat_natCast]]
      · rw [if_neg g2]
        have := evF_no (n := e) h3 (by omega)
        exact ⟨fun y q => (by rw [this] at q; cases q), fun _ => ⟨by omega, h3⟩⟩
/-! the class's events and the reference's -/
def evY (h : zH) (X X' : zD) : Prop := ∀ b i, zk h b ≠ 1 ∨ i < 5 ∨ 10 ≤ i → X' b i = X b i
theorem evY.rf {h : zH} {X : zD} : evY h X X := fun _ _ _ => rfl
theorem evY.tr {h : zH} {X X1 X2 : zD} (p : evY h X X1) (q : evY h X1 X2) : evY h X X2 := fun b i g => (q b i g).trans (p b i g)
theorem evY.ev {h : zH} {X X' : zD} (p : evY h X X') : evX h X X' := fun b i g => p b i (Or.inl g)
theorem evY.wr {h : zH} {X X' : zD} {a i : Nat} {x : Int} (p : evY h X X') (hi : 5 ≤ i ∧ i < 10) : zk h a = 1 → evY h X (zwr X' a i x) := fun ha b j g => by
  rw [zwr_e, if_neg (fun q => by
    obtain ⟨q1, q2⟩ := q
    rcases g with g | g
    · exact g (by rw [q1]; exact ha)
    · omega)]
  exact p b j g
def evS (h : zH) (X S : zD) : Prop := lsO h X 5 (S 32 15) 1 ∧ (∀ i j : Nat, (i : Int) < S 32 15 → (j : Int) < S 32 15 → lsE X 5 i = lsE X 5 j → i = j) ∧ ∀ e : Nat, (e : Int) < S 32 15 → X (lsE X 5 e) 0 = (lsE X 4 (S 40 e).toNat : Nat) ∧ X (lsE X 5 e) 1 = S 43 e ∧ X (lsE X 5 e) 2 = S 41 e ∧ X (lsE X 5 e) 4 = S 42 e
theorem evS.K {h : zH} {X S : zD} (p : evS h X S) {e : Nat} (he : (e : Int) < S 32 15) : 70 ≤ lsE X 5 e ∧ lsE X 5 e < zn h ∧ zk h (lsE X 5 e) = 1 := by
  obtain ⟨h1, h2, h3⟩ := p.1.2.2 e he
  unfold lsE
  exact ⟨by omega, by omega, h3⟩
theorem clO.K {h : zH} {X S : zD} (p : clO h X S) {e : Nat} (he : (e : Int) < S 32 7) : 70 ≤ lsE X 4 e ∧ lsE X 4 e < zn h ∧ zk h (lsE X 4 e) = 0 := by
  obtain ⟨h1, h2, h3⟩ := p.1.2.2 e he
  unfold lsE
  exact ⟨by omega, by omega, h3⟩
theorem evX.cl {h : zH} {X X' S : zD} (q : evX h X X') (p : clO h X S) : clO h X' S ∧ ∀ i : Nat, (i : Int) < S 32 7 → lsE X' 4 i = lsE X 4 i := by
  obtain ⟨l1, l2⟩ := lsO_v p.1 q
  refine ⟨⟨l1, fun i hi => ?_⟩, l2⟩
  have hk := (p.K hi).2.2
  have e1 : ∀ j, X' (lsE X 4 i) j = X (lsE X 4 i) j := fun j => q _ _ (by omega)
  rw [l2 i hi, e1, e1, e1, e1, e1, e1, e1, e1]
  exact p.2 i hi
theorem evY.es {h : zH} {X X' S : zD} (q : evY h X X') (c : clO h X S) (hv : ∀ e : Nat, (e : Int) < S 32 15 → 0 ≤ S 40 e ∧ S 40 e < S 32 7) (p : evS h X S) : evS h X' S ∧ ∀ i : Nat, (i : Int) < S 32 15 → lsE X' 5 i = lsE X 5 i := by
  obtain ⟨l1, l2⟩ := lsO_v p.1 q.ev
  obtain ⟨-, c2⟩ := q.ev.cl c
  refine ⟨⟨l1, fun i j hi hj => ?_, fun e he => ?_⟩, l2⟩
  · rw [l2 i hi, l2 j hj]
    exact p.2.1 i j hi hj
  · have e1 : ∀ j, j < 5 → X' (lsE X 5 e) j = X (lsE X 5 e) j := fun j hj => q _ _ (Or.inr (Or.inl hj))
    have := hv e he
    rw [l2 e he, e1 0 (by omega), e1 1 (by omega), e1 2 (by omega), e1 4 (by omega), c2 _ (by omega)]
    exact p.2.2 e he
/-! every event in turn -/
def itX (g : (Nat → Int) → Nat → Int) (X : zD) : Nat → zD
  | 0 => X
  | j + 1 => zrw (itX g X j) (lsE X 5 j) (g (itX g X j (lsE X 5 j)))
theorem itX_o {g : (Nat → Int) → Nat → Int} {X : zD} {b : Nat} : ∀ j, (∀ e, e < j → b ≠ lsE X 5 e) → itX g X j b = X b
  | 0, _ => rfl
  | j + 1, h => by
    funext i
    show zrw (itX g X j) (lsE X 5 j) (g (itX g X j (lsE X 5 j))) b i = _
    rw [zrw_a (h j (by omega)), itX_o j fun e he => h e (by omega)]
theorem itX_e {g : (Nat → Int) → Nat → Int} {X : zD} : ∀ j, (∀ a b, a < j → b < j → lsE X 5 a = lsE X 5 b → a = b) → ∀ e, e < j → itX g X j (lsE X 5 e) = g (X (lsE X 5 e))
  | 0, _, e, he => absurd he (Nat.not_lt_zero _)
  | j + 1, h, e, he => by
    funext i
    show zrw (itX g X j) (lsE X 5 j) (g (itX g X j (lsE X 5 j))) (lsE X 5 e) i = _
    by_cases q : e = j
    · subst q
      rw [zrw_s, itX_o e fun k hk w => by
        have := h e k (by omega) (by omega) w
        omega]
    · rw [zrw_a (fun w => q (h e j he (by omega) w)), itX_e j (fun a b ha hb => h a b (by omega) (by omega)) e (by omega)]
theorem itX_y {h : zH} {g : (Nat → Int) → Nat → Int} {X S : zD} (p : evS h X S) (hg : ∀ r i, i < 5 ∨ 10 ≤ i → g r i = r i) : ∀ j : Nat, (j : Int) ≤ S 32 15 → evY h X (itX g X j)
  | 0, _ => evY.rf
  | j + 1, hj => (itX_y p hg j (by omega)).tr fun b i q => by
    show zrw (itX g X j) (lsE X 5 j) (g (itX g X j (lsE X 5 j))) b i = _
    have hk := (p.K (e := j) (by omega)).2.2
    by_cases w : b = lsE X 5 j
    · subst w
      rw [zrw_s, hg _ _ (by omega)]
    · rw [zrw_a w]

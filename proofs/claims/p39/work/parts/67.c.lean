/-! the class's layout under way: what holds of its events and cells -/
def evR (X : zD) (a : Nat) (o : Option (Int × Int × Int × Int)) (cu : Int) : Prop := ((0 ≤ X a 7 ∧ X a 7 ≤ 100000) ∧ (0 ≤ X a 8 ∧ X a 8 ≤ 100000) ∧ (0 ≤ X a 9 ∧ X a 9 ≤ 100000)) ∧ (o = none → X a 8 ≤ X a 7) ∧ (∀ x, o = some x → X a 7 = x.2.2.1 ∧ X a 8 = x.2.2.2 ∧ X a 8 ≤ X a 9 ∧ (X a 8 < X a 9 ↔ cu = 1))
theorem evR_c {X X' : zD} {a : Nat} {o : Option (Int × Int × Int × Int)} {cu cu' : Int} (h : evR X a o cu) (h7 : X' a 7 = X a 7) (h8 : X' a 8 = X a 8) (h9 : X' a 9 = X a 9) (hc : o ≠ none → cu' = cu) : evR X' a o cu' := by
  unfold evR
  rw [h7, h8, h9]
  refine ⟨h.1, h.2.1, fun x hx => ?_⟩
  rw [hc (by rw [hx]; simp)]
  exact h.2.2 x hx
theorem evR_cut {X X' : zD} {a n : Nat} {t t0 b cu : Int} {sp : zSp} (h : evR X a (evF n sp) cu) (hC : spC t0 sp) (hE : spE b sp) (ht : 0 ≤ t) (h7 : X' a 7 = X a 7) (h8 : X' a 8 = min (X a 8) t) (h9 : X' a 9 = X a 9) : evR X' a (evF n (lyCut t sp)) (if lyCe t sp = n then 1 else cu) := by
  obtain ⟨⟨b7, b8, b9⟩, hn, hs⟩ := h
  have bm : 0 ≤ min (X a 8) t ∧ min (X a 8) t ≤ 100000 := by omega
  rw [evF_cut hC hE]
  unfold evR
  rw [h7, h8, h9]
  refine ⟨⟨b7, bm, b9⟩, fun q => ?_, fun y hy => ?_⟩
  · cases ho : evF n sp with
    | none =>
      have := hn ho
      omega
    | some x =>
      rw [ho, cutO_s] at q
      by_cases g : t ≤ x.2.2.1
      · have := hs x ho
        omega
      · rw [if_neg g] at q
        cases q
  · cases ho : evF n sp with
    | none =>
      rw [ho] at hy
      cases hy
    | some x =>
      have hce := lyCe_i (t := t) (n := n) hC hE
      rw [ho, cutO_s] at hy
      by_cases g : t ≤ x.2.2.1
      · rw [if_pos g] at hy
        cases hy
      · rw [if_neg g] at hy
        have e := Option.some.inj hy
        obtain ⟨s1, s2, s3, s4⟩ := hs x ho
        have e3 : y.2.2.1 = x.2.2.1 := by rw [← e]
        have e4 : y.2.2.2 = min x.2.2.2 t := by rw [← e]
        by_cases g2 : t < x.2.2.2
        · rw [if_pos (hce.mpr ⟨x, ho, by omega, g2⟩)]
          clear hce hs hn
          exact ⟨by omega, by omega, by omega, ⟨fun _ => rfl, fun _ => by omega⟩⟩
        · rw [if_neg (fun w => by
            obtain ⟨z, w1, w2, w3⟩ := hce.mp w
            rw [ho] at w1
            have := Option.some.inj w1
            subst this
            exact g2 w3), ← s4]
          clear hce hs hn s4
          exact ⟨by omega, by omega, by omega, ⟨fun _ => by omega, fun _ => by omega⟩⟩
theorem evOn_v {X : zD} {a : Nat} {s e : Int} : evOn X a s e a 7 = s ∧ evOn X a s e a 8 = e ∧ evOn X a s e a 9 = e ∧ evOn X a s e a 6 = zb (X a 1 = 106 ∧ X a 2 < s) ∧ evOn X a s e a 5 = X a 5 := by
  unfold evOn zwr
  simp
theorem evOn_o {X : zD} {a b : Nat} {s e : Int} {i : Nat} (h : b ≠ a) : evOn X a s e b i = X b i := by
  unfold evOn
  rw [zwr_a h, zwr_a h, zwr_a h, zwr_a h]
theorem evOn_y {h : zH} {X : zD} {a : Nat} {s e : Int} (ha : zk h a = 1) : evY h X (evOn X a s e) :=
  ((((evY.rf).wr (by omega) ha).wr (by omega) ha).wr (by omega) ha).wr (by omega) ha
theorem evR_on {X : zD} {a : Nat} {c ev s e : Int} (h : 0 ≤ s ∧ s < e ∧ e ≤ 100000) : evR (evOn X a s e) a (some (c, ev, s, e)) 0 := by
  obtain ⟨h7, h8, h9, -, -⟩ := evOn_v (X := X) (a := a) (s := s) (e := e)
  unfold evR
  rw [h7, h8, h9]
  refine ⟨⟨by omega, by omega, by omega⟩, (fun q => nomatch q), fun x hx => ?_⟩
  have := Option.some.inj hx
  subst this
  exact ⟨rfl, rfl, Int.le_refl _, ⟨fun q => by omega, fun q => by omega⟩⟩
def lyX (S X : zD) (e : Nat) (sp : zSp) (ba cu jo : Nat → Int) : Prop := ∀ n : Nat, (n : Int) < S 32 15 → evR X (lsE X 5 n) (evF n sp) (cu n) ∧ (n < e → X (lsE X 5 n) 5 = ba n ∧ X (lsE X 5 n) 6 = jo n) ∧ (e ≤ n → X (lsE X 5 n) 6 = 0)
theorem upN_s {f : Nat → Int} {n : Nat} {v : Int} : upN f n v n = v := if_pos rfl
theorem upN_o {f : Nat → Int} {n k : Nat} {v : Int} (h : k ≠ n) : upN f n v k = f k := if_neg h
theorem lyX_skip {S X : zD} {e : Nat} {sp : zSp} {ba cu jo : Nat → Int} (hX : lyX S X e sp ba cu jo) (hE : spE e sp) {b : Int} (hb : (e : Int) < S 32 15 → X (lsE X 5 e) 5 = b) : lyX S X (e + 1) sp (upN ba e b) (upN cu e 0) (upN jo e 0) := by
  intro n hn
  obtain ⟨h1, h2, h3⟩ := hX n hn
  by_cases g : n = e
  · subst g
    have ev := evF_no (n := n) hE (Int.le_refl _)
    rw [upN_s, upN_s, upN_s]
    exact ⟨evR_c h1 rfl rfl rfl (fun q => absurd ev q), fun _ => ⟨hb hn, h3 (Nat.le_refl _)⟩, fun q => by omega⟩
  · rw [upN_o g, upN_o g, upN_o g]
    exact ⟨h1, fun q => h2 (by omega), fun q => h3 (by omega)⟩
theorem lyX_push {h : zH} {S X : zD} {e : Nat} {sp : zSp} {ba cu jo : Nat → Int} {c s en b j : Int} (hS : evS h X S) (hX : lyX S X e sp ba cu jo) (he : (e : Int) < S 32 15) (hs : 0 ≤ s ∧ s < en ∧ en ≤ 100000) (hb : X (lsE X 5 e) 5 = b) (hj : zb (X (lsE X 5 e) 1 = 106 ∧ X (lsE X 5 e) 2 < s) = j) :
    lyX S (evOn X (lsE X 5 e) s en) (e + 1) ((c, (e : Int), s, en) :: sp) (upN ba e b) (upN cu e 0) (upN jo e j) := by
  intro n hn
  have hk := (hS.K he).2.2
  have l2 := (lsO_v hS.1 (evOn_y (X := X) (s := s) (e := en) hk).ev).2
  obtain ⟨h1, h2, h3⟩ := hX n hn
  have ev : evF n ((c, (e : Int), s, en) :: sp) = if (e : Int) = n then some (c, (e : Int), s, en) else evF n sp := rfl
  rw [l2 n hn, ev]
  by_cases g : n = e
  · subst g
    obtain ⟨-, -, -, v6, v5⟩ := evOn_v (X := X) (a := lsE X 5 n) (s := s) (e := en)
    rw [upN_s, upN_s, upN_s, if_pos rfl]
    exact ⟨evR_on hs, fun _ => ⟨v5.trans hb, v6.trans hj⟩, fun q => by omega⟩
  · have hne : lsE X 5 n ≠ lsE X 5 e := fun w => g (hS.2.1 n e hn he w)
    rw [upN_o g, upN_o g, upN_o g, if_neg (by omega), evOn_o hne, evOn_o hne]
    exact ⟨evR_c h1 (evOn_o hne) (evOn_o hne) (evOn_o hne) (fun _ => rfl), fun q => h2 (by omega), fun q => h3 (by omega)⟩
theorem lyX_gap {S X S' : zD} {e : Nat} {sp : zSp} {ba cu jo : Nat → Int} {f t : Int} (hX : lyX S X e sp ba cu jo) : lyX S X e (lyGap S' f t sp) ba cu jo := fun n hn => by
  rw [evF_gap]
  exact hX n hn
theorem lyX_cut {h : zH} {S X : zD} {e : Nat} {sp : zSp} {ba cu jo : Nat → Int} {t t0 b : Int} (hS : evS h X S) (hX : lyX S X e sp ba cu jo) (hC : spC t0 sp) (hE : spE b sp) (ht : 0 ≤ t) :
    lyX S (itX (cutR t) X (S 32 15).toNat) e (lyCut t sp) ba (fun n => if lyCe t sp = n then 1 else cu n) jo := by
  intro n hn
  have hy := itX_y hS (g := cutR t) (fun r i q => if_neg (by omega)) (S 32 15).toNat (by omega)
  have l2 := (lsO_v hS.1 hy.ev).2
  obtain ⟨h1, h2, h3⟩ := hX n hn
  have ev := itX_e (g := cutR t) (X := X) (S 32 15).toNat (fun a b ha hb => hS.2.1 a b (by omega) (by omega)) n (by omega)
  rw [l2 n hn, ev]
  refine ⟨evR_cut h1 hC hE ht ?_ ?_ ?_, fun q => h2 q, fun q => h3 q⟩
  · rw [ev]; rfl
  · rw [ev]; rfl
  · rw [ev]; rfl
theorem lyX_bar {h : zH} {S X : zD} {e : Nat} {sp : zSp} {ba cu jo : Nat → Int} {b : Int} (hS : evS h X S) (hX : lyX S X e sp ba cu jo) (he : (e : Int) < S 32 15) : lyX S (zwr X (lsE X 5 e) 5 b) e sp ba cu jo := by
  intro n hn
  have hk := (hS.K he).2.2
  have l2 := (lsO_v hS.1 ((evY.rf (X := X)).wr (x := b) (i := 5) (by omega) hk).ev).2
  obtain ⟨h1, h2, h3⟩ := hX n hn
  rw [l2 n hn]
  refine ⟨evR_c h1 (zwr_i (by omega)) (zwr_i (by omega)) (zwr_i (by omega)) (fun _ => rfl), fun q => ?_, fun q => ?_⟩
  · have hne : lsE X 5 n ≠ lsE X 5 e := fun w => by
      have := hS.2.1 n e hn he w
      omega
    rw [zwr_a hne, zwr_a hne]
    exact h2 q
  · rw [zwr_i (by omega)]
    exact h3 q
theorem leX_ly {h : zH} {S X : zD} {sp : zSp} {t0 : Int} {cu : Nat → Int} (hS : evS h X S) (hC : clO h X S) (hv : ∀ e : Nat, (e : Int) < S 32 15 → 0 ≤ S 40 e ∧ S 40 e < S 32 7) (hX : ∀ n : Nat, (n : Int) < S 32 15 → evR X (lsE X 5 n) (evF n sp) (cu n)) (h1 : spC t0 sp) (h3 : spV S sp) : ∀ p : Nat, (p : Int) ≤ S 32 15 → spE p sp → leX X p = lyLev S sp
  | 0, _, hE => (lyLev_0 hE).symm
  | p + 1, hp, hE => by
    obtain ⟨l1, l2⟩ := lyLev_e (e := p) (by simpa using hE) h3
    have r := hX p (by omega)
    rw [leX]
    cases ho : evF p sp with
    | none =>
      have := r.2.1 ho
      rw [if_neg (by omega)]
      exact leX_ly hS hC hv hX h1 h3 p (by omega) (l2 ho)
    | some x =>
      have r2 := r.2.2 x ho
      have b := spC_b h1 x (evF_mem ho).1
      rw [if_pos (by omega), l1 x ho, (hS.2.2 p (by omega)).1, Int.toNat_natCast]
      have := hv p (by omega)
      exact (hC.2 (S 40 p).toNat (by omega)).2.2.2.1
/-! .. the cells -/
abbrev lyQ (S D : zD) : Prop := ∀ a i, (a < 6 ∨ 9 < a) → (a < 19 ∨ 32 ≤ a) → (a ≠ 14 ∨ (i ≠ 10 ∧ i ≠ 5)) → D a i = S a i
def lyD (S D : zD) (sp : zSp) : Prop := D 6 3 = sp.length ∧ tRp 6 D sp ∧ lyQ S D ∧ fiO D
theorem fiO.c {D D' : zD} (h : ∀ a i, 9 < a → D' a i = D a i) (hF : fiO D) : fiO D' := by
  obtain ⟨⟨b1, b2⟩, f2, f3, f4⟩ := hF
  have e3 := h 14 3 (by omega)
  have e5 := h 14 5 (by omega)
  refine ⟨⟨by rw [e3]; exact b1, fun i hi => ?_⟩, ?_, by rw [e5]; exact f3, fun q => ?_⟩
  · rw [h 15 i (by omega), h 16 i (by omega), h 17 i (by omega)]
    exact b2 i (by omega)
  · rw [e3, psF_c (D := D) (D' := D') (fun i => ⟨h 16 i (by omega), h 17 i (by omega)⟩), f2, clsD_c (fun a i ha => h a i (by omega))]
  · intro r s hr hs
    rw [h _ _ (by omega), e3, f4 (by omega) r s hr hs, lnF_c2 _ _ (fun k _ _ => h 16 k (by omega))]
theorem lyQ.ce {S D : zD} (h : lyQ S D) : cEq S D := fun a i q => h a i (by omega) (by omega) (by omega)
theorem lyD.add {S D : zD} {sp : zSp} {c ev s e : Int} (h : lyD S D sp) : lyD S (tAdd 6 D c s e) ((c, ev, s, e) :: sp) := by
  obtain ⟨h1, h2, h3, h4⟩ := h
  obtain ⟨a1, a2⟩ := tAdd_rp (c := c) (s := s) (e := e) (ev := ev) h1 h2
  exact ⟨by rw [a2, List.length_cons]; omega, a1, fun a i q1 q2 q3 => by rw [tAdd_o (by omega)]; exact h3 a i q1 q2 q3, h4.c fun a i q => tAdd_o (by omega)⟩
theorem lyD.cut {S D : zD} {sp : zSp} {t : Int} (h : lyD S D sp) : lyD S (tCut 6 t sp D) (lyCut t sp) := by
  obtain ⟨h1, h2, h3, h4⟩ := h
  obtain ⟨a1, a2⟩ := tCut_rp (t := t) sp D h1 h2
  exact ⟨a2, a1, fun a i q1 q2 q3 => by rw [tCut_o (by omega)]; exact h3 a i q1 q2 q3, h4.c fun a i q => tCut_o (by omega) _ _⟩
theorem nuC_c {D D' : zD} {d : Int} (h : ∀ i, D' 38 i = D 38 i ∧ D' 36 i = D 36 i ∧ D' 37 i = D 37 i) : ∀ (n c : Nat), nuC D' d c n = nuC D d c n
  | 0, _ => rfl
  | n + 1, c => by
    obtain ⟨h1, h2, h3⟩ := h c
    rw [nuC, nuC, h1, h2, h3, nuC_c h n (c + 1)]
/-- what the filler's pieces are -/
def fiP3 (S : zD) : Prop := S 14 3 = ((nuC S (S 32 16) 0 (S 32 7).toNat).length : Nat) ∧ ∀ k, k < (nuC S (S 32 16) 0 (S 32 7).toNat).length → S 15 k = ((nuC S (S 32 16) 0 (S 32 7).toNat).getD k 0 : Nat)
theorem c95' {f t : Int} {h : zH} {S D : zD} {sp : zSp} (hC : mCl S) (h8 : (pcs (clsD S)).length ≤ 8) (hn : FP.Core.fIsNaN (mLst S) = false) (hN : fiNu S) (h3 : fiP3 S) (hD : lyD S D sp) (hv : spV S sp)
    (hg : 1 ≤ t - f ∧ t - f ≤ 3600) (hf : 0 ≤ f ∧ f ≤ 100000) (hsl : sp.length ≤ 108) :
    ∃ D', zc 95 8 [.ref 3, .int (Int32.ofInt f), .int (Int32.ofInt t), .int (Int32.ofInt (lyLev S sp))] (zV h D) = some (.inl none, zV h D') ∧ lyD S D' (lyGap S f t sp) := by
  obtain ⟨d1, d2, d3, d4⟩ := hD
  have ce := d3.ce
  have hl := lyLev_b hC (sp := sp) (fun x hx => by
    rcases hv x hx with h1 | h1
    · exact Or.inl h1.2
    · exact Or.inr h1.1)
  have enu : nuC D (D 32 16) 0 (D 32 7).toNat = nuC S (S 32 16) 0 (S 32 7).toNat := by
    rw [d3 32 16 (by omega) (by omega) (by omega), d3 32 7 (by omega) (by omega) (by omega)]
    exact nuC_c (fun i => ⟨d3 38 i (by omega) (by omega) (by omega), d3 36 i (by omega) (by omega) (by omega), d3 37 i (by omega) (by omega) (by omega)⟩) _ _
  obtain ⟨D', e, r1, r2, D1, q1, q2, q3⟩ := c95 (h := h) (D := D) (f := f) (t := t) (lev := lyLev S sp) (ce.cl hC) (by rw [ce.cls]; exact h8)
    (by unfold mLst; rw [d3 32 27 (by omega) (by omega) (by omega)]; exact hn) d4
    (fun k hk => by
      rw [d3 14 3 (by omega) (by omega) (by omega)] at hk
      have := hN k hk
      rw [d3 16 k (by omega) (by omega) (by omega), d3 17 k (by omega) (by omega) (by omega), d3 15 k (by omega) (by omega) (by omega), d3 33 _ (by omega) (by omega) (by omega), d3 34 _ (by omega) (by omega) (by omega)]
      exact this)
    (by rw [enu, d3 14 3 (by omega) (by omega) (by omega)]; exact h3.1)
    (fun k hk => by
      rw [enu] at hk ⊢
      rw [d3 15 k (by omega) (by omega) (by omega)]
      exact h3.2 k hk) hg hl hf d2 d1 hsl
  have eg : (if bestM D (t - f) (lyLev S sp) = 0 then (-1, -1, f, t) :: sp else lyPs D (bestM D (t - f) (lyLev S sp)) (D 32 7).toNat 0 f sp) = lyGap S f t sp := by
    unfold lyGap
    rw [ce.best, ce.ps, d3 32 7 (by omega) (by omega) (by omega)]
  rw [eg] at r1 r2
  refine ⟨D', e, r2, r1, fun a i a1 a2 a3 => ?_, q2.c fun a i q => q3 a i (by omega)⟩
  rw [q3 a i (by omega), q1 a i a2 a3]
  exact d3 a i a1 a2 a3

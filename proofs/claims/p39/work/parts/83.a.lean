/-! the heap as the constructors fill it -/
/-- where a constructor writes, in the order in which it does -/
def pW : List (Nat × Nat) := [(4, 0), (4, 1), (3, 0), (5, 0), (5, 1), (3, 1), (6, 0), (6, 1), (6, 2), (6, 3), (3, 2), (10, 0), (10, 1), (10, 2), (10, 3), (3, 3), (14, 0), (14, 1), (14, 2), (14, 3), (14, 4), (14, 5), (14, 6), (14, 7), (14, 8), (14, 9), (14, 10), (3, 4), (3, 5), (3, 6), (3, 7), (32, 0), (32, 1), (32, 2), (32, 3), (32, 4), (32, 5), (32, 6), (32, 9), (32, 10), (32, 11), (32, 12), (32, 13), (32, 14), (32, 17), (32, 18), (32, 19), (32, 20), (32, 22), (32, 23), (32, 24), (32, 25), (32, 28), (32, 29)]
def pD (a i : Nat) : Int := if (a = 18 ∧ 9 ≤ i) ∨ (a = 44 ∧ 12 ≤ i) then -1 else 0
def pK (a : Nat) : Nat := if a = 4 ∨ a = 5 then 7 else zsk a
def pL (a : Nat) : Nat := if a = 4 ∨ a = 5 then 3 else zsl a
def pT (a i : Nat) : Value := if a = 4 ∨ a = 5 then (if i = 1 then .ref 1 else .int (Int32.ofInt 0)) else zenc (zst a i) (pD a i)
def dfl (k i : Nat) : Value := if k < 20 then zdef (zty k i) else if k = 24 then .long 0 else if k = 25 then .double 0 else if k = 27 ∨ k = 28 then .null else .int 0
def pU : Nat → Nat
  | 0 => 0
  | n + 1 => pU n + (if 3 ≤ n then pL n else 0)
def pV (m a i : Nat) : Value := if (pW.take m).contains (a, i) = true ∨ a = 18 ∨ a = 44 then pT a i else dfl (pK a) i
def zP (L : Nat) (xs : Nat → Int32) (n m : Nat) : zH := ((n, n - 3, pU n), fun a => if a = 0 then 30 else if a = 1 then 31 else if a = 2 then 50 else if a < n then pK a else 60, fun a => if a = 0 then L else if 3 ≤ a ∧ a < n then pL a else 0, fun a i => if a = 0 then .int (xs i) else if 3 ≤ a ∧ a < n then pV m a i else .null)
theorem zP_0 {L : Nat} {xs : Nat → Int32} : zh0 L xs = zP L xs 3 0 := by
  refine Prod.ext rfl (Prod.ext ?_ (Prod.ext ?_ ?_))
  · funext a
    show (if a = 0 then 30 else if a = 1 then 31 else if a = 2 then 50 else 60) = if a = 0 then 30 else if a = 1 then 31 else if a = 2 then 50 else if a < 3 then pK a else 60
    by_cases h0 : a = 0
    · rw [if_pos h0, if_pos h0]
    · by_cases h1 : a = 1
      · rw [if_neg h0, if_neg h0, if_pos h1, if_pos h1]
      · by_cases h2 : a = 2
        · rw [if_neg h0, if_neg h0, if_neg h1, if_neg h1, if_pos h2, if_pos h2]
        · rw [if_neg h0, if_neg h0, if_neg h1, if_neg h1, if_neg h2, if_neg h2, if_neg (by omega)]
  · funext a
    show (if a = 0 then L else 0) = if a = 0 then L else if 3 ≤ a ∧ a < 3 then pL a else 0
    by_cases h0 : a = 0
    · rw [if_pos h0, if_pos h0]
    · rw [if_neg h0, if_neg h0, if_neg (by omega)]
  · funext a i
    show (if a = 0 then Value.int (xs i) else .null) = if a = 0 then .int (xs i) else if 3 ≤ a ∧ a < 3 then pV 0 a i else .null
    by_cases h0 : a = 0
    · rw [if_pos h0, if_pos h0]
    · rw [if_neg h0, if_neg h0, if_neg (by omega)]
theorem zP_n {L : Nat} {xs : Nat → Int32} {n m : Nat} : zn (zP L xs n m) = n := rfl
theorem zP_k {L : Nat} {xs : Nat → Int32} {n m a : Nat} (h3 : 3 ≤ a) (h : a < n) : zk (zP L xs n m) a = pK a := by
  show (if a = 0 then 30 else if a = 1 then 31 else if a = 2 then 50 else if a < n then pK a else 60) = _
  rw [if_neg (by omega), if_neg (by omega), if_neg (by omega), if_pos h]
theorem zP_k4 {L : Nat} {xs : Nat → Int32} {n m : Nat} (h : 4 < n) : zk (zP L xs n m) 4 = 7 := by rw [zP_k (by decide) h]; decide +kernel
theorem zP_k5 {L : Nat} {xs : Nat → Int32} {n m : Nat} (h : 5 < n) : zk (zP L xs n m) 5 = 7 := by rw [zP_k (by decide) h]; decide +kernel
theorem zP_k3 {L : Nat} {xs : Nat → Int32} {n m : Nat} (h : 3 < n) : zk (zP L xs n m) 3 = 5 := by rw [zP_k (by decide) h]; decide +kernel
theorem zP_k6 {L : Nat} {xs : Nat → Int32} {n m : Nat} (h : 6 < n) : zk (zP L xs n m) 6 = 4 := by rw [zP_k (by decide) h]; decide +kernel
theorem zP_k10 {L : Nat} {xs : Nat → Int32} {n m : Nat} (h : 10 < n) : zk (zP L xs n m) 10 = 4 := by rw [zP_k (by decide) h]; decide +kernel
theorem zP_k14 {L : Nat} {xs : Nat → Int32} {n m : Nat} (h : 14 < n) : zk (zP L xs n m) 14 = 2 := by rw [zP_k (by decide) h]; decide +kernel
theorem zP_k32 {L : Nat} {xs : Nat → Int32} {n m : Nat} (h : 32 < n) : zk (zP L xs n m) 32 = 6 := by rw [zP_k (by decide) h]; decide +kernel
/-- rows n to n + c get new kinds, lengths, values -/
theorem zP_up {L : Nat} {xs : Nat → Int32} {n m c : Nat} {H : zH} (h3 : 3 ≤ n) (h1 : H.1 = (n + c, n + c - 3, pU (n + c))) (hk : ∀ a, H.2.1 a = if n ≤ a ∧ a < n + c then pK a else (zP L xs n m).2.1 a) (hl : ∀ a, H.2.2.1 a = if n ≤ a ∧ a < n + c then pL a else (zP L xs n m).2.2.1 a) (hv : ∀ a i, H.2.2.2 a i = if n ≤ a ∧ a < n + c then pV m a i else (zP L xs n m).2.2.2 a i) : H = zP L xs (n + c) m := by
  refine Prod.ext h1 (Prod.ext ?_ (Prod.ext ?_ ?_))
  · funext a
    rw [hk]
    show (if n ≤ a ∧ a < n + c then pK a else if a = 0 then 30 else if a = 1 then 31 else if a = 2 then 50 else if a < n then pK a else 60) = if a = 0 then 30 else if a = 1 then 31 else if a = 2 then 50 else if a < n + c then pK a else 60
    by_cases g : n ≤ a ∧ a < n + c
    · rw [if_pos g, if_neg (by omega), if_neg (by omega), if_neg (by omega), if_pos g.2]
    · rw [if_neg g]
      by_cases g2 : a < n
      · rw [if_pos g2, if_pos (show a < n + c by omega)]
      · rw [if_neg g2, if_neg (show ¬ a < n + c by omega)]
  · funext a
    rw [hl]
    show (if n ≤ a ∧ a < n + c then pL a else if a = 0 then L else if 3 ≤ a ∧ a < n then pL a else 0) = if a = 0 then L else if 3 ≤ a ∧ a < n + c then pL a else 0
    by_cases g : n ≤ a ∧ a < n + c
    · rw [if_pos g, if_neg (by omega), if_pos (by omega)]
    · rw [if_neg g]
      by_cases g2 : 3 ≤ a ∧ a < n
      · rw [if_pos g2, if_pos (show 3 ≤ a ∧ a < n + c by omega)]
      · rw [if_neg g2, if_neg (show ¬ (3 ≤ a ∧ a < n + c) by omega)]
  · funext a i
    rw [hv]
    show (if n ≤ a ∧ a < n + c then pV m a i else if a = 0 then .int (xs i) else if 3 ≤ a ∧ a < n then pV m a i else .null) = if a = 0 then .int (xs i) else if 3 ≤ a ∧ a < n + c then pV m a i else .null
    by_cases g : n ≤ a ∧ a < n + c
    · rw [if_pos g, if_neg (by omega), if_pos (by omega)]
    · rw [if_neg g]
      by_cases g2 : 3 ≤ a ∧ a < n
      · rw [if_pos g2, if_pos (show 3 ≤ a ∧ a < n + c by omega)]
      · rw [if_neg g2, if_neg (show ¬ (3 ≤ a ∧ a < n + c) by omega)]
theorem pV_d {m a : Nat} (hw : (pW.take m).all (fun q => q.1 != a) = true) (h : a ≠ 18 ∧ a ≠ 44) : ∀ i, pV m a i = dfl (pK a) i := fun i => by
  unfold pV
  rw [if_neg]
  rintro (q | q | q)
  · have := List.all_eq_true.mp hw _ (List.contains_iff_mem.mp q)
    simp at this
  · exact h.1 q
  · exact h.2 q
theorem zP_new {L : Nat} {xs : Nat → Int32} {n m k l : Nat} {f : Nat → Value} (h3 : 3 ≤ n ∧ n ≠ 18 ∧ n ≠ 44) (hk : pK n = k) (hl : pL n = l) (hf : ∀ i, f i = dfl k i) (_hx : True) (hw : (pW.take m).all (fun q => q.1 != n) = true) : znew (zP L xs n m) k l f = zP L xs (n + 1) m := by
  refine zP_up (c := 1) h3.1 ?_ (fun a => ?_) (fun a => ?_) (fun a i => ?_)
  · show (n + 1, n - 3 + 1, pU n + l) = (n + 1, n + 1 - 3, pU n + (if 3 ≤ n then pL n else 0))
    rw [if_pos h3.1, hl, show n - 3 + 1 = n + 1 - 3 by omega]
  · show (if a = n then k else _) = if n ≤ a ∧ a < n + 1 then pK a else _
    by_cases g : a = n
    · rw [if_pos g, if_pos (by omega), g, hk]
    · rw [if_neg g, if_neg (show ¬ (n ≤ a ∧ a < n + 1) by omega)]
  · show (if a = n then l else _) = if n ≤ a ∧ a < n + 1 then pL a else _
    by_cases g : a = n
    · rw [if_pos g, if_pos (by omega), g, hl]
    · rw [if_neg g, if_neg (show ¬ (n ≤ a ∧ a < n + 1) by omega)]
  · show (if a = n then f i else _) = if n ≤ a ∧ a < n + 1 then pV m a i else _
    by_cases g : a = n
    · rw [if_pos g, if_pos (by omega), g, pV_d hw h3.2, hf, hk]
    · rw [if_neg g, if_neg (show ¬ (n ≤ a ∧ a < n + 1) by omega)]
theorem zP_put {L : Nat} {xs : Nat → Int32} {n m a i : Nat} {v : Value} (h3 : 3 ≤ a) (h : a < n) (hm : pW[m]? = some (a, i)) (hv : v = pT a i) : zput (zP L xs n m) a i v = zP L xs n (m + 1) := by
  refine Prod.ext rfl (Prod.ext rfl (Prod.ext rfl ?_))
  funext b j
  show (if b = a ∧ j = i then v else if b = 0 then .int (xs j) else if 3 ≤ b ∧ b < n then pV m b j else .null) = if b = 0 then .int (xs j) else if 3 ≤ b ∧ b < n then pV (m + 1) b j else .null
  have ht : pW.take (m + 1) = pW.take m ++ [(a, i)] := by
    rw [List.take_succ, hm]
    rfl
  by_cases g : b = a ∧ j = i
  · obtain ⟨rfl, rfl⟩ := g
    rw [if_pos ⟨rfl, rfl⟩, if_neg (by omega), if_pos ⟨h3, h⟩, hv]
    unfold pV
    rw [if_pos]
    left
    rw [ht]
    exact List.contains_iff_mem.mpr (List.mem_append_right _ (List.mem_singleton.mpr rfl))
  · rw [if_neg g]
    have : pV (m + 1) b j = pV m b j := by
      unfold pV
      have e : (pW.take (m + 1)).contains (b, j) = (pW.take m).contains (b, j) := by
        rw [Bool.eq_iff_iff]
        rw [List.contains_iff_mem, List.contains_iff_mem, ht, List.mem_append, List.mem_singleton]
        constructor
        · rintro (q | q)
          · exact q
          · exact absurd ⟨congrArg Prod.fst q, congrArg Prod.snd q⟩ g
        · exact Or.inl
      rw [e]
    rw [this]
theorem zP_ns {L : Nat} {xs : Nat → Int32} {n m c kd ke k : Nat} (hd : ∀ i, dfl ke i = .int 0) (hn : n = 18 ∨ n = 44) (h18 : pK n = kd ∧ pL n = c) (hf : ∀ i : Nat, (if i < c then Value.ref ((n + 1 + i : Nat)) else .null) = pT n i) (hr : (List.range c).all (fun j => (n + 1 + j != 18) && (n + 1 + j != 44) && (pK (n + 1 + j) == ke) && (pL (n + 1 + j) == k) && (pW.take m).all (fun q => q.1 != n + 1 + j)) = true) (hu : pU n + c + c * k = pU (n + 1 + c)) :
    znews (znew (zP L xs n m) kd c (fun i => if i < c then .ref (zn (zP L xs n m) + 1 + i) else .null)) ke k (.int 0) c = zP L xs (n + 1 + c) m := by
  have hr2 : ∀ a, n + 1 ≤ a → a < n + 1 + c → (a ≠ 18 ∧ a ≠ 44) ∧ pK a = ke ∧ pL a = k ∧ (pW.take m).all (fun q => q.1 != a) = true := fun a h1 h2 => by
    have := List.all_eq_true.mp hr (a - (n + 1)) (List.mem_range.mpr (by omega))
    simp only [Bool.and_eq_true, bne_iff_ne, beq_iff_eq] at this
    rw [show n + 1 + (a - (n + 1)) = a by omega] at this
    exact ⟨⟨this.1.1.1.1, this.1.1.1.2⟩, this.1.1.2, this.1.2, this.2⟩
  have e0 : n + 1 + c = n + (1 + c) := by omega
  rw [e0]
  refine zP_up (c := 1 + c) (by omega) ?_ (fun a => ?_) (fun a => ?_) (fun a i => ?_)
  · show (n + 1 + c, n - 3 + 1 + c, pU n + c + c * k) = _
    rw [hu, e0, show n - 3 + 1 + c = n + (1 + c) - 3 by omega]
  · show (if n + 1 ≤ a ∧ a < n + 1 + c then ke else if a = n then kd else (zP L xs n m).2.1 a) = if n ≤ a ∧ a < n + (1 + c) then pK a else (zP L xs n m).2.1 a
    by_cases g : n + 1 ≤ a ∧ a < n + 1 + c
    · rw [if_pos g, if_pos (by omega), (hr2 a g.1 g.2).2.1]
    · rw [if_neg g]
      by_cases g2 : a = n
      · rw [if_pos g2, if_pos (by omega), g2, h18.1]
      · rw [if_neg g2, if_neg (show ¬ (n ≤ a ∧ a < n + (1 + c)) by omega)]
  · show (if n + 1 ≤ a ∧ a < n + 1 + c then k else if a = n then c else (zP L xs n m).2.2.1 a) = if n ≤ a ∧ a < n + (1 + c) then pL a else (zP L xs n m).2.2.1 a
    by_cases g : n + 1 ≤ a ∧ a < n + 1 + c
    · rw [if_pos g, if_pos (by omega), (hr2 a g.1 g.2).2.2.1]
    · rw [if_neg g]
      by_cases g2 : a = n
      · rw [if_pos g2, if_pos (by omega), g2, h18.2]
      · rw [if_neg g2, if_neg (show ¬ (n ≤ a ∧ a < n + (1 + c)) by omega)]
  · show (if n + 1 ≤ a ∧ a < n + 1 + c then Value.int 0 else if a = n then (if i < c then .ref (n + 1 + i) else .null) else (zP L xs n m).2.2.2 a i) = if n ≤ a ∧ a < n + (1 + c) then pV m a i else (zP L xs n m).2.2.2 a i
    by_cases g : n + 1 ≤ a ∧ a < n + 1 + c
    · obtain ⟨w1, w2, w3, w4⟩ := hr2 a g.1 g.2
      rw [if_pos g, if_pos (by omega), pV_d w4 w1, w2]
      exact (hd i).symm
    · rw [if_neg g]
      by_cases g2 : a = n
      · subst g2
        rw [if_pos (show a = a from rfl), hf, if_pos (show a ≤ a ∧ a < a + (1 + c) by omega)]
        unfold pV
        rw [if_pos (Or.inr (by omega))]
      · rw [if_neg g2, if_neg (show ¬ (n ≤ a ∧ a < n + (1 + c)) by omega)]
theorem pT18 : ∀ i : Nat, (if i < 9 then Value.ref (18 + 1 + i) else .null) = pT 18 i := fun i => by
  have e1 : pT 18 i = zenc (zst 18 i) (pD 18 i) := rfl
  have hz : zst 18 i = if i < 9 then 119 + i else 7 := rfl
  rw [e1]
  by_cases g : i < 9
  · have hz2 : zst 18 i = 119 + i := hz.trans (if_pos g)
    have hg : (if i < 9 then Value.ref (18 + 1 + i) else .null) = Value.ref (18 + 1 + i) := if_pos g
    rw [hz2, hg]
    unfold zenc
    rw [if_pos (show 100 ≤ 119 + i by omega), show 119 + i - 100 = 18 + 1 + i by omega]
  · have hz2 : zst 18 i = 7 := hz.trans (if_neg g)
    have hg : (if i < 9 then Value.ref (18 + 1 + i) else .null) = Value.null := if_neg g
    have hp : pD 18 i = -1 := if_pos (Or.inl ⟨rfl, by omega⟩)
    rw [hz2, hg, hp]
    rfl
theorem pT44 : ∀ i : Nat, (if i < 12 then Value.ref (44 + 1 + i) else .null) = pT 44 i := fun i => by
  have e1 : pT 44 i = zenc (zst 44 i) (pD 44 i) := rfl
  have hz : zst 44 i = if i < 12 then 145 + i else 7 := rfl
  rw [e1]
  by_cases g : i < 12
  · have hz2 : zst 44 i = 145 + i := hz.trans (if_pos g)
    have hg : (if i < 12 then Value.ref (44 + 1 + i) else .null) = Value.ref (44 + 1 + i) := if_pos g
    rw [hz2, hg]
    unfold zenc
    rw [if_pos (show 100 ≤ 145 + i by omega), show 145 + i - 100 = 44 + 1 + i by omega]
  · have hz2 : zst 44 i = 7 := hz.trans (if_neg g)
    have hg : (if i < 12 then Value.ref (44 + 1 + i) else .null) = Value.null := if_neg g
    have hp : pD 44 i = -1 := if_pos (Or.inr ⟨rfl, by omega⟩)
    rw [hz2, hg, hp]
    rfl
theorem zP_ns18 {L : Nat} {xs : Nat → Int32} {m : Nat} (hr : (List.range 9).all (fun j => (18 + 1 + j != 18) && (18 + 1 + j != 44) && (pK (18 + 1 + j) == 21) && (pL (18 + 1 + j) == 3601) && (pW.take m).all (fun q => q.1 != 18 + 1 + j)) = true) :
    znews (znew (zP L xs 18 m) 27 9 (fun i => if i < 9 then .ref (zn (zP L xs 18 m) + 1 + i) else .null)) 21 3601 (.int 0) 9 = zP L xs 28 m :=
  zP_ns (ke := 21) (n := 18) (c := 9) (k := 3601) (kd := 27) (fun _ => rfl) (Or.inl rfl) ⟨by decide +kernel, by decide +kernel⟩ pT18 hr (by decide +kernel)
theorem zP_ns44 {L : Nat} {xs : Nat → Int32} {m : Nat} (hr : (List.range 12).all (fun j => (44 + 1 + j != 18) && (44 + 1 + j != 44) && (pK (44 + 1 + j) == 20) && (pL (44 + 1 + j) == 9) && (pW.take m).all (fun q => q.1 != 44 + 1 + j)) = true) :
    znews (znew (zP L xs 44 m) 28 12 (fun i => if i < 12 then .ref (zn (zP L xs 44 m) + 1 + i) else .null)) 20 9 (.int 0) 12 = zP L xs 57 m :=
  zP_ns (ke := 20) (n := 44) (c := 12) (k := 9) (kd := 28) (fun _ => rfl) (Or.inr rfl) ⟨by decide +kernel, by decide +kernel⟩ pT44 hr (by decide +kernel)
theorem zg_mn {k nx tg kd ke n0 d : Nat} {ls : zL} {st : zS} {h : zH} {x y : Int32} : zgo k (zpure (.multianewarray n0 d) nx tg [kd, ke] ls (.int y :: .int x :: st) h) = if 0 ≤ x.toInt ∧ x.toInt ≤ 67108864 ∧ 0 ≤ y.toInt ∧ y.toInt ≤ 67108864 then zx k nx ls (.ref (zn h) :: st) (znews (znew h kd x.toInt.toNat (fun i => if i < x.toInt.toNat then .ref (zn h + 1 + i) else .null)) ke y.toInt.toNat (.int 0) x.toInt.toNat) else none := by
  simp only [zpure, zgo_if, zgo_some, zgo_none]
theorem zP_i0 : (Value.int 0) = .int (Int32.ofInt 0) := rfl

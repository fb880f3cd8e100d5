/-! the objects that the class makes: their fields as numbers -/
def dyk (k : Nat) : Bool := k == 0 || k == 1 || k == 3 || k == 7 || k == 26
/-- the type of a place of a kind -/
def dty (k i : Nat) : Nat := if k = 0 ∧ i = 7 then 4 else if (k = 1 ∧ (i = 0 ∨ i = 3)) ∨ (k = 7 ∧ i = 1) ∨ k = 26 then 7 else 0
/-- the class's objects hold the numbers of X; places from 100 on are for notes -/
def zU (h : zH) (X : zD) : zH := (h.1, h.2.1, h.2.2.1, fun a i => if (a = 4 ∨ a = 5 ∨ 70 ≤ a) ∧ i < 100 ∧ dyk (h.2.1 a) = true then zenc (dty (h.2.1 a) i) (X a i) else h.2.2.2 a i)
theorem zU_k {h : zH} {X : zD} {a : Nat} : zk (zU h X) a = zk h a := rfl
theorem zU_l {h : zH} {X : zD} {a : Nat} : zl (zU h X) a = zl h a := rfl
theorem zU_n {h : zH} {X : zD} : zn (zU h X) = zn h := rfl
theorem zU_chg {h : zH} {X : zD} {c n : Nat} : zchg (zU h X) c n = zU (zchg h c n) X := rfl
theorem zU_m {h : zH} {X : zD} {a i : Nat} (ha : a = 4 ∨ a = 5 ∨ 70 ≤ a) (hi : i < 100) (hk : dyk (zk h a) = true) : zm (zU h X) a i = zenc (dty (zk h a) i) (X a i) := by
  show (if (a = 4 ∨ a = 5 ∨ 70 ≤ a) ∧ i < 100 ∧ dyk (h.2.1 a) = true then _ else _) = _
  exact if_pos ⟨ha, hi, hk⟩
theorem zU_g {h : zH} {X : zD} {a i : Nat} {x : Int} (hi : 100 ≤ i) : zU h (zwr X a i x) = zU h X := by
  refine Prod.ext rfl (Prod.ext rfl (Prod.ext rfl ?_))
  funext b j
  show (if (b = 4 ∨ b = 5 ∨ 70 ≤ b) ∧ j < 100 ∧ dyk (h.2.1 b) = true then zenc (dty (h.2.1 b) j) (zwr X a i x b j) else h.2.2.2 b j) = (if (b = 4 ∨ b = 5 ∨ 70 ≤ b) ∧ j < 100 ∧ dyk (h.2.1 b) = true then zenc (dty (h.2.1 b) j) (X b j) else h.2.2.2 b j)
  by_cases hc : (b = 4 ∨ b = 5 ∨ 70 ≤ b) ∧ j < 100 ∧ dyk (h.2.1 b) = true
  · rw [if_pos hc, if_pos hc, zwr_i (by omega)]
  · rw [if_neg hc, if_neg hc]
/-- a row anew -/
def zrw (X : zD) (a : Nat) (g : Nat → Int) : zD := fun b j => if b = a then g j else X b j
theorem zrw_s {X : zD} {a i : Nat} {g : Nat → Int} : zrw X a g a i = g i := by simp [zrw]
theorem zrw_a {X : zD} {a b i : Nat} {g : Nat → Int} (h : b ≠ a) : zrw X a g b i = X b i := by simp [zrw, h]
theorem zU_put {h : zH} {X : zD} {a i : Nat} {v : Value} {x : Int} (ha : a = 4 ∨ a = 5 ∨ 70 ≤ a) (hi : i < 100) (hk : dyk (zk h a) = true) (hv : v = zenc (dty (zk h a) i) x) : zput (zU h X) a i v = zU h (zwr X a i x) := by
  refine Prod.ext rfl (Prod.ext rfl (Prod.ext rfl ?_))
  funext b j
  show (if b = a ∧ j = i then v else if (b = 4 ∨ b = 5 ∨ 70 ≤ b) ∧ j < 100 ∧ dyk (h.2.1 b) = true then zenc (dty (h.2.1 b) j) (X b j) else h.2.2.2 b j) = (if (b = 4 ∨ b = 5 ∨ 70 ≤ b) ∧ j < 100 ∧ dyk (h.2.1 b) = true then zenc (dty (h.2.1 b) j) (zwr X a i x b j) else h.2.2.2 b j)
  by_cases hb : b = a ∧ j = i
  · obtain ⟨rfl, rfl⟩ := hb
    rw [if_pos ⟨rfl, rfl⟩, if_pos ⟨ha, hi, hk⟩, zwr_s, hv]
    rfl
  · rw [if_neg hb, zwr_e, if_neg hb]
theorem zU_new {h : zH} {X : zD} {k n : Nat} {f : Nat → Value} {g : Nat → Int} (hf : dyk k = true → ∀ i, i < 100 → f i = zenc (dty k i) (g i)) (hn : 70 ≤ zn h) : znew (zU h X) k n f = zU (znew h k n f) (zrw X (zn h) g) := by
  refine Prod.ext rfl (Prod.ext rfl (Prod.ext rfl ?_))
  funext b j
  show (if b = zn h then f j else if (b = 4 ∨ b = 5 ∨ 70 ≤ b) ∧ j < 100 ∧ dyk (h.2.1 b) = true then zenc (dty (h.2.1 b) j) (X b j) else h.2.2.2 b j) = (if (b = 4 ∨ b = 5 ∨ 70 ≤ b) ∧ j < 100 ∧ dyk (if b = zn h then k else h.2.1 b) = true then zenc (dty (if b = zn h then k else h.2.1 b) j) (zrw X (zn h) g b j) else if b = zn h then f j else h.2.2.2 b j)
  by_cases hb : b = zn h
  · subst hb
    rw [if_pos rfl, if_pos rfl, if_pos rfl, zrw_s]
    by_cases hc : j < 100 ∧ dyk k = true
    · rw [if_pos ⟨by omega, hc⟩]
      exact hf hc.2 j hc.1
    · rw [if_neg (fun q => hc q.2)]
  · rw [if_neg hb, if_neg hb, if_neg hb, zrw_a hb]
theorem zU_fil {h : zH} {X : zD} {a : Nat} {f : Nat → Value} {g : Nat → Int} (hf : ∀ i, i < 100 → f i = zenc (dty (zk h a) i) (g i)) (hr : ∀ i, 100 ≤ i → f i = zm h a i) (ha : a = 4 ∨ a = 5 ∨ 70 ≤ a) (hk : dyk (zk h a) = true) : zfil (zU h X) a f = zU h (zrw X a g) := by
  refine Prod.ext rfl (Prod.ext rfl (Prod.ext rfl ?_))
  funext b j
  show (if b = a then f j else if (b = 4 ∨ b = 5 ∨ 70 ≤ b) ∧ j < 100 ∧ dyk (h.2.1 b) = true then zenc (dty (h.2.1 b) j) (X b j) else h.2.2.2 b j) = (if (b = 4 ∨ b = 5 ∨ 70 ≤ b) ∧ j < 100 ∧ dyk (h.2.1 b) = true then zenc (dty (h.2.1 b) j) (zrw X a g b j) else h.2.2.2 b j)
  by_cases hb : b = a
  · subst hb
    rw [if_pos rfl, zrw_s]
    by_cases hc : j < 100
    · rw [if_pos ⟨ha, hc, hk⟩]
      exact hf j hc
    · rw [if_neg (fun q => hc q.2.1)]
      exact hr j (by omega)
  · rw [if_neg hb, zrw_a hb]
/-- the numbers of a new object's places -/
def dz (k i : Nat) : Int := if dty k i = 7 then -1 else 0
theorem dz_ok {k : Nat} (hk : k = 0 ∨ k = 1 ∨ k = 3 ∨ k = 7) : ∀ i, zdef (zty k i) = zenc (dty k i) (dz k i) := by
  intro i
  by_cases hi : i < 10
  · have : (List.range 10).all (fun i => decide (zdef (zty 0 i) = zenc (dty 0 i) (dz 0 i) ∧ zdef (zty 1 i) = zenc (dty 1 i) (dz 1 i) ∧ zdef (zty 3 i) = zenc (dty 3 i) (dz 3 i) ∧ zdef (zty 7 i) = zenc (dty 7 i) (dz 7 i))) = true := by decide +kernel
    have := of_decide_eq_true (List.all_eq_true.mp this i (List.mem_range.mpr hi))
    rcases hk with rfl | rfl | rfl | rfl
    · exact this.1
    · exact this.2.1
    · exact this.2.2.1
    · exact this.2.2.2
  · obtain ⟨j, rfl⟩ : ∃ j, i = j + 10 := ⟨i - 10, by omega⟩
    have hd : dty k (j + 10) = 0 := by
      unfold dty
      rw [if_neg (by omega), if_neg (by omega)]
    unfold dz
    rw [hd]
    rcases hk with rfl | rfl | rfl | rfl <;> rfl
/-! .. with the cells of fixed addresses over them -/
theorem zW_k {h : zH} {X D : zD} {a : Nat} (ha : a = 4 ∨ a = 5 ∨ 70 ≤ a) : zk (zV (zU h X) D) a = zk h a := by
  rw [zV_k (by omega), zU_k]
theorem zW_l {h : zH} {X D : zD} {a : Nat} (ha : a = 4 ∨ a = 5 ∨ 70 ≤ a) : zl (zV (zU h X) D) a = zl h a := by
  rw [zV_l (by omega), zU_l]
theorem zW_n {h : zH} {X D : zD} : zn (zV (zU h X) D) = zn h := rfl
theorem zW_m {h : zH} {X D : zD} {a i : Nat} (ha : a = 4 ∨ a = 5 ∨ 70 ≤ a) (hi : i < 100) (hk : dyk (zk h a) = true) : zm (zV (zU h X) D) a i = zenc (dty (zk h a) i) (X a i) := by
  rw [zV_m (by omega), zU_m ha hi hk]
theorem zW_put {h : zH} {X D : zD} {a i : Nat} {v : Value} {x : Int} (ha : a = 4 ∨ a = 5 ∨ 70 ≤ a) (hi : i < 100) (hk : dyk (zk h a) = true) (hv : v = zenc (dty (zk h a) i) x) : zput (zV (zU h X) D) a i v = zV (zU h (zwr X a i x)) D := by
  rw [zV_putd (by omega), zU_put ha hi hk hv]
theorem zW_new {h : zH} {X D : zD} {k n : Nat} (hk : k = 0 ∨ k = 1 ∨ k = 3 ∨ k = 7) (hn : 70 ≤ zn h) : znew (zV (zU h X) D) k n (fun i => zdef (zty k i)) = zV (zU (znew h k n (fun i => zdef (zty k i))) (zrw X (zn h) (dz k))) D := by
  rw [zV_new (by rw [zU_n]; exact hn), zU_new (fun _ i _ => dz_ok hk i) hn]
theorem zW_newA {h : zH} {X D : zD} {n : Nat} (hn : 70 ≤ zn h) : znew (zV (zU h X) D) 26 n (fun _ => .null) = zV (zU (znew h 26 n (fun _ => .null)) (zrw X (zn h) (fun _ => -1))) D := by
  rw [zV_new (by rw [zU_n]; exact hn), zU_new (g := fun _ => -1) (fun _ i _ => ?_) hn]
  rfl
theorem zW_fil {h : zH} {X D : zD} {a : Nat} {f : Nat → Value} {g : Nat → Int} (hf : ∀ i, i < 100 → f i = zenc (dty (zk h a) i) (g i)) (hr : ∀ i, 100 ≤ i → f i = zm h a i) (ha : 70 ≤ a) (hk : dyk (zk h a) = true) : zfil (zV (zU h X) D) a f = zV (zU h (zrw X a g)) D := by
  rw [← zU_fil (X := X) hf hr (by omega) hk]
  refine Prod.ext rfl (Prod.ext rfl (Prod.ext rfl ?_))
  funext b j
  show (if b = a then f j else if (b = 3 ∨ 6 ≤ b) ∧ b < 70 then zenc (zst b j) (D b j) else (zU h X).2.2.2 b j) = (if (b = 3 ∨ 6 ≤ b) ∧ b < 70 then zenc (zst b j) (D b j) else if b = a then f j else (zU h X).2.2.2 b j)
  by_cases hb : b = a
  · rw [if_pos hb, if_pos hb, if_neg (by omega)]
  · rw [if_neg hb, if_neg hb]
theorem zenc7 {x : Int} (h : 0 ≤ x) : zenc 7 x = .ref x.toNat := by
  show (if x < 0 then Value.null else .ref x.toNat) = _
  exact if_neg (by omega)
theorem zenc7n {x : Nat} : (.ref x : Value) = zenc 7 (x : Int) := by
  rw [zenc7 (by omega), Int.toNat_natCast]
/-- a clip's places -/
theorem zuC {h : zH} {a : Nat} (ha : 70 ≤ a) (hk : zk h a = 0) : (∀ (X D : zD), zk (zV (zU h X) D) a = 0) ∧ (∀ (X D : zD) (i : Nat), i < 7 → zm (zV (zU h X) D) a i = .int (Int32.ofInt (X a i))) ∧ (∀ (X D : zD), zm (zV (zU h X) D) a 7 = .long (Int64.ofInt (X a 7))) ∧ (∀ (X D : zD) (i : Nat) (x : Int), i < 7 → zput (zV (zU h X) D) a i (.int (Int32.ofInt x)) = zV (zU h (zwr X a i x)) D) ∧ (∀ (X D : zD) (x : Int), zput (zV (zU h X) D) a 7 (.long (Int64.ofInt x)) = zV (zU h (zwr X a 7 x)) D) := by
  have hd : dyk (zk h a) = true := by rw [hk]; rfl
  have h0 : ∀ i, i < 7 → dty (zk h a) i = 0 := fun i hi => by
    rw [hk]
    unfold dty
    rw [if_neg (by omega), if_neg (by omega)]
  have h7 : dty (zk h a) 7 = 4 := by rw [hk]; rfl
  refine ⟨fun X D => by rw [zW_k (by omega), hk], fun X D i hi => ?_, fun X D => ?_, fun X D i x hi => ?_, fun X D x => ?_⟩
  · rw [zW_m (by omega) (by omega) hd, h0 i hi]
    rfl
  · rw [zW_m (by omega) (by omega) hd, h7]
    rfl
  · exact zW_put (by omega) (by omega) hd (by rw [h0 i hi]; rfl)
  · exact zW_put (by omega) (by omega) hd (by rw [h7]; rfl)
/-- an event's places -/
theorem zuE {h : zH} {a : Nat} (ha : 70 ≤ a) (hk : zk h a = 1) : (∀ (X D : zD), zk (zV (zU h X) D) a = 1) ∧ (∀ (X D : zD) (i : Nat), i < 10 ∧ i ≠ 0 ∧ i ≠ 3 → zm (zV (zU h X) D) a i = .int (Int32.ofInt (X a i))) ∧ (∀ (X D : zD) (i : Nat), i = 0 ∨ i = 3 → 0 ≤ X a i → zm (zV (zU h X) D) a i = .ref (X a i).toNat) ∧ (∀ (X D : zD) (i : Nat) (x : Int), i < 10 ∧ i ≠ 0 ∧ i ≠ 3 → zput (zV (zU h X) D) a i (.int (Int32.ofInt x)) = zV (zU h (zwr X a i x)) D) ∧ (∀ (X D : zD) (i x : Nat), i = 0 ∨ i = 3 → zput (zV (zU h X) D) a i (.ref x) = zV (zU h (zwr X a i (x : Int))) D) := by
  have hd : dyk (zk h a) = true := by rw [hk]; rfl
  have h0 : ∀ i, i < 10 ∧ i ≠ 0 ∧ i ≠ 3 → dty (zk h a) i = 0 := fun i hi => by
    rw [hk]
    unfold dty
    rw [if_neg (by omega), if_neg (by omega)]
  have h7 : ∀ i, i = 0 ∨ i = 3 → dty (zk h a) i = 7 := fun i hi => by
    rw [hk]
    unfold dty
    rw [if_neg (by omega), if_pos (by omega)]
  refine ⟨fun X D => by rw [zW_k (by omega), hk], fun X D i hi => ?_, fun X D i hi h => ?_, fun X D i x hi => ?_, fun X D i x hi => ?_⟩
  · rw [zW_m (by omega) (by omega) hd, h0 i hi]
    rfl
  · rw [zW_m (by omega) (by omega) hd, h7 i hi, zenc7 h]
  · exact zW_put (by omega) (by omega) hd (by rw [h0 i hi]; rfl)
  · exact zW_put (by omega) (by omega) hd (by rw [h7 i hi]; exact zenc7n)
/-- a secondary event's places -/
theorem zuS {h : zH} {a : Nat} (ha : 70 ≤ a) (hk : zk h a = 3) : (∀ (X D : zD), zk (zV (zU h X) D) a = 3) ∧ (∀ (X D : zD) (i : Nat), i < 3 → zm (zV (zU h X) D) a i = .int (Int32.ofInt (X a i))) ∧ (∀ (X D : zD) (i : Nat) (x : Int), i < 3 → zput (zV (zU h X) D) a i (.int (Int32.ofInt x)) = zV (zU h (zwr X a i x)) D) := by
  have hd : dyk (zk h a) = true := by rw [hk]; rfl
  have h0 : ∀ i, i < 3 → dty (zk h a) i = 0 := fun i hi => by
    rw [hk]
    unfold dty
    rw [if_neg (by omega), if_neg (by omega)]
  refine ⟨fun X D => by rw [zW_k (by omega), hk], fun X D i hi => ?_, fun X D i x hi => ?_⟩
  · rw [zW_m (by omega) (by omega) hd, h0 i hi]
    rfl
  · exact zW_put (by omega) (by omega) hd (by rw [h0 i hi]; rfl)
/-- a list's places -/
theorem zuL {h : zH} {a : Nat} (ha : a = 4 ∨ a = 5 ∨ 70 ≤ a) (hk : zk h a = 7) : (∀ (X D : zD), zk (zV (zU h X) D) a = 7) ∧ (∀ (X D : zD) (i : Nat), i = 0 ∨ i = 2 → zm (zV (zU h X) D) a i = .int (Int32.ofInt (X a i))) ∧ (∀ (X D : zD), 0 ≤ X a 1 → zm (zV (zU h X) D) a 1 = .ref (X a 1).toNat) ∧ (∀ (X D : zD) (i : Nat) (x : Int), i = 0 ∨ i = 2 → zput (zV (zU h X) D) a i (.int (Int32.ofInt x)) = zV (zU h (zwr X a i x)) D) ∧ (∀ (X D : zD) (x : Nat), zput (zV (zU h X) D) a 1 (.ref x) = zV (zU h (zwr X a 1 (x : Int))) D) := by
  have hd : dyk (zk h a) = true := by rw [hk]; rfl
  have h0 : ∀ i, i = 0 ∨ i = 2 → dty (zk h a) i = 0 := fun i hi => by
    rw [hk]
    unfold dty
    rw [if_neg (by omega), if_neg (by omega)]
  have h7 : dty (zk h a) 1 = 7 := by rw [hk]; rfl
  refine ⟨fun X D => by rw [zW_k ha, hk], fun X D i hi => ?_, fun X D h => ?_, fun X D i x hi => ?_, fun X D x => ?_⟩
  · rw [zW_m ha (by omega) hd, h0 i hi]
    rfl
  · rw [zW_m ha (by omega) hd, h7, zenc7 h]
  · exact zW_put ha (by omega) hd (by rw [h0 i hi]; rfl)
  · exact zW_put ha (by omega) hd (by rw [h7]; exact zenc7n)
/-- an array of references -/
theorem zuA {h : zH} {a : Nat} (ha : 70 ≤ a) (hk : zk h a = 26) : (∀ (X D : zD), zk (zV (zU h X) D) a = 26) ∧ (∀ (X D : zD), zl (zV (zU h X) D) a = zl h a) ∧ (∀ (X D : zD) (i : Nat), i < 100 → 0 ≤ X a i → zm (zV (zU h X) D) a i = .ref (X a i).toNat) ∧ (∀ (X D : zD) (i x : Nat), i < 100 → zput (zV (zU h X) D) a i (.ref x) = zV (zU h (zwr X a i (x : Int))) D) ∧ (∀ (X D : zD) (i : Nat), i < 100 → zput (zV (zU h X) D) a i .null = zV (zU h (zwr X a i (-1))) D) := by
  have hd : dyk (zk h a) = true := by rw [hk]; rfl
  have h7 : ∀ i, dty (zk h a) i = 7 := fun i => by
    rw [hk]
    unfold dty
    rw [if_neg (by omega), if_pos (by omega)]
  refine ⟨fun X D => by rw [zW_k (by omega), hk], fun X D => zW_l (by omega), fun X D i hi h => ?_, fun X D i x hi => ?_, fun X D i hi => ?_⟩
  · rw [zW_m (by omega) hi hd, h7, zenc7 h]
  · exact zW_put (by omega) hi hd (by rw [h7]; exact zenc7n)
  · exact zW_put (by omega) hi hd (by rw [h7]; rfl)
/-- places of one array go into another -/
def zcp (X : zD) (a sp b dp n : Nat) : zD := fun c i => if c = b ∧ dp ≤ i ∧ i < dp + n then X a (sp + (i - dp)) else X c i
theorem zg_cp {k nx : Nat} {ls : zL} {st : zS} {h : zH} {X D : zD} {a b : Nat} {sp dp n : Int} (ha : 70 ≤ a) (hb : 70 ≤ b) (ka : zk h a = 26) (kb : zk h b = 26) (h1 : 0 ≤ sp ∧ 0 ≤ dp ∧ 0 ≤ n) (h2 : sp + n ≤ zl h a ∧ dp + n ≤ zl h b) (h3 : zl h a ≤ 100 ∧ zl h b ≤ 100) (h4 : ∀ i : Nat, sp ≤ i → (i : Int) < sp + n → 70 ≤ X a i ∧ zk h (X a i).toNat < 20) :
    zgo k (zint [4] nx ls (.int (Int32.ofInt n) :: .int (Int32.ofInt dp) :: .ref b :: .int (Int32.ofInt sp) :: .ref a :: st) (zV (zU h X) D)) = if st.length ≤ 4 then zx k nx ls st (zV (zU h (zcp X a sp.toNat b dp.toNat n.toNat)) D) else none := by
  have e1 : (Int32.ofInt n).toInt = n := iI_t (by omega)
  have e2 : (Int32.ofInt dp).toInt = dp := iI_t (by omega)
  have e3 : (Int32.ofInt sp).toInt = sp := iI_t (by omega)
  have da : dyk (zk h a) = true := by rw [ka]; rfl
  have db : dyk (zk h b) = true := by rw [kb]; rfl
  have t7 : ∀ i, dty 26 i = 7 := fun i => by
    unfold dty
    rw [if_neg (by omega), if_pos (by omega)]
  have ma : ∀ i, i < 100 → zm (zV (zU h X) D) a i = zenc 7 (X a i) := fun i hi => by rw [zW_m (by omega) hi da, ka, t7]
  have mb : ∀ i, i < 100 → zm (zV (zU h X) D) b i = zenc 7 (X b i) := fun i hi => by rw [zW_m (by omega) hi db, kb, t7]
  have call : (List.range n.toNat).all (fun i => zobj (zV (zU h X) D) (zm (zV (zU h X) D) a (sp.toNat + i))) = true := by
    refine List.all_eq_true.mpr fun i hi => ?_
    have hi := List.mem_range.mp hi
    have q := h4 (sp.toNat + i) (by omega) (by omega)
    rw [ma _ (by omega), zenc7 (by omega)]
    show decide (zk (zV (zU h X) D) _ < 20) = true
    rw [zW_k (by omega)]
    exact decide_eq_true q.2
  have fil : zfil (zV (zU h X) D) b (fun j => if dp.toNat ≤ j ∧ j < dp.toNat + n.toNat then zm (zV (zU h X) D) a (sp.toNat + (j - dp.toNat)) else zm (zV (zU h X) D) b j) = zV (zU h (zcp X a sp.toNat b dp.toNat n.toNat)) D := by
    rw [zW_fil (g := fun j => if dp.toNat ≤ j ∧ j < dp.toNat + n.toNat then X a (sp.toNat + (j - dp.toNat)) else X b j) (fun i hi => ?_) (fun i hi => ?_) hb db]
    · congr 2
      funext c i
      unfold zrw zcp
      by_cases g : c = b
      · subst g
        rw [if_pos rfl]
        show (if dp.toNat ≤ i ∧ i < dp.toNat + n.toNat then X a (sp.toNat + (i - dp.toNat)) else X c i) = _
        by_cases g2 : dp.toNat ≤ i ∧ i < dp.toNat + n.toNat
        · rw [if_pos g2, if_pos ⟨rfl, g2⟩]
        · rw [if_neg g2, if_neg (fun q => g2 q.2)]
      · rw [if_neg g, if_neg (fun q => g q.1)]
    · show (if _ then _ else _) = zenc _ (if _ then _ else _)
      rw [kb, t7]
      by_cases g2 : dp.toNat ≤ i ∧ i < dp.toNat + n.toNat
      · rw [if_pos g2, if_pos g2, ma _ (by omega)]
      · rw [if_neg g2, if_neg g2, mb _ hi]
    · show (if _ then _ else _) = _
      rw [if_neg (by omega), zV_m (by omega)]
      show (if _ then _ else _) = _
      rw [if_neg (by omega)]
      rfl
  show zgo k (if _ then _ else _) = _
  rw [e1, e2, e3, fil]
  by_cases g : st.length ≤ 4
  · rw [if_pos g, if_pos ⟨g, by rw [zW_k (by omega)]; exact ka, by rw [zW_k (by omega)]; exact kb, h1.1, h1.2.1, h1.2.2, by rw [zW_l (by omega)]; exact h2.1, by rw [zW_l (by omega)]; exact h2.2, call⟩]
    rfl
  · rw [if_neg g, if_neg (fun q => g q.1)]
    rfl

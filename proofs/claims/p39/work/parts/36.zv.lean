/-! the cells of fixed addresses: 3 to 69 -/
def zskL : List Nat := [5, 60, 60, 4, 20, 20, 20, 4, 20, 20, 20, 2, 20, 20, 20, 27, 21, 21, 21, 21, 21, 21, 21, 21, 21, 20, 20, 20, 20, 6, 20, 20, 20, 20, 20, 23, 24, 20, 20, 20, 22, 28, 20, 20, 20, 20, 20, 20, 20, 20, 20, 20, 20, 20, 20, 20, 20, 20, 20, 23, 23, 23, 20, 20, 20, 24, 25]
def zslL : List Nat := [8, 0, 0, 4, 116, 116, 116, 4, 116, 116, 116, 11, 8, 8, 8, 9, 3601, 3601, 3601, 3601, 3601, 3601, 3601, 3601, 3601, 70, 70, 70, 70, 33, 12, 12, 12, 12, 12, 12, 12, 12, 12, 12, 12, 12, 9, 9, 9, 9, 9, 9, 9, 9, 9, 9, 9, 9, 12, 128, 128, 128, 128, 12, 12, 12, 12, 128, 128, 1, 1]
/-- the kind, the length of a fixed cell -/
def zsk (a : Nat) : Nat := if 45 ≤ a ∧ a < 57 then 20 else if 19 ≤ a ∧ a < 28 then 21 else zskL.getD (a - 3) 60
def zsl (a : Nat) : Nat := if 45 ≤ a ∧ a < 57 then 9 else if 19 ≤ a ∧ a < 28 then 3601 else zslL.getD (a - 3) 0
def zstL : List (List Nat) := [[104, 105, 106, 110, 114, 0, 1, 1], [], [], [107, 108, 109, 0], [], [], [], [111, 112, 113, 0], [], [], [], [115, 116, 117, 0, 118, 1, 128, 129, 130, 131, 0], [], [], [], [], [], [], [], [], [], [], [], [], [], [], [], [], [], [133, 134, 135, 136, 137, 138, 139, 0, 0, 140, 141, 142, 143, 144, 157, 0, 0, 158, 159, 160, 161, 0, 162, 163, 164, 165, 0, 5, 166, 167, 0, 1, 0], [], [], [], [], [], [], [], [], [], [], [], [], [], [], [], [], [], [], [], [], [], [], [], [], [], [], [], [], [], [], [], [], [], [], [], [], []]
/-- of an array: the type of its places -/
def zstA : List Nat := [0, 0, 0, 0, 0, 0, 0, 0, 0, 0, 0, 0, 0, 0, 0, 0, 2, 2, 2, 2, 2, 2, 2, 2, 2, 0, 0, 0, 0, 0, 0, 0, 0, 0, 0, 1, 4, 0, 0, 0, 3, 0, 0, 0, 0, 0, 0, 0, 0, 0, 0, 0, 0, 0, 0, 0, 0, 0, 0, 1, 1, 1, 0, 0, 0, 4, 6]
/-- the type of a place: 0 to 6 as ever, 7 a reference, 100 + a the cell a -/
def zst (a i : Nat) : Nat := if 45 ≤ a ∧ a < 57 then 0 else if 19 ≤ a ∧ a < 28 then 2 else if a = 18 then (if i < 9 then 119 + i else 7) else if a = 44 then (if i < 12 then 145 + i else 7) else (zstL.getD (a - 3) []).getD i (zstA.getD (a - 3) 0)
def zenc (t : Nat) (x : Int) : Value := if 100 ≤ t then .ref (t - 100) else if t = 4 then .long (Int64.ofInt x) else if t = 5 then .float (UInt32.ofNat x.toNat) else if t = 6 then .double (UInt64.ofNat x.toNat) else if t = 7 then (if x < 0 then .null else .ref x.toNat) else .int (Int32.ofInt x)
abbrev zD : Type := Nat → Nat → Int
def zV (h : zH) (D : zD) : zH := (h.1, fun a => if (a = 3 ∨ 6 ≤ a) ∧ a < 70 then zsk a else h.2.1 a, fun a => if (a = 3 ∨ 6 ≤ a) ∧ a < 70 then zsl a else h.2.2.1 a, fun a i => if (a = 3 ∨ 6 ≤ a) ∧ a < 70 then zenc (zst a i) (D a i) else h.2.2.2 a i)
def zwr (D : zD) (a i : Nat) (x : Int) : zD := fun b j => if b = a ∧ j = i then x else D b j
theorem zwr_s {D : zD} {a i : Nat} {x : Int} : zwr D a i x a i = x := by simp [zwr]
theorem zwr_a {D : zD} {a i : Nat} {x : Int} {b j : Nat} (h : b ≠ a) : zwr D a i x b j = D b j := by simp [zwr, h]
theorem zwr_i {D : zD} {a i : Nat} {x : Int} {b j : Nat} (h : j ≠ i) : zwr D a i x b j = D b j := by simp [zwr, h]
theorem zwr_e {D : zD} {a i : Nat} {x : Int} {b j : Nat} : zwr D a i x b j = if b = a ∧ j = i then x else D b j := rfl
theorem zV_in {h : zH} {D : zD} {a : Nat} (ha : (a = 3 ∨ 6 ≤ a) ∧ a < 70) (i : Nat) : zk (zV h D) a = zsk a ∧ zl (zV h D) a = zsl a ∧ zm (zV h D) a i = zenc (zst a i) (D a i) := by
  refine ⟨?_, ?_, ?_⟩
  · show (if (a = 3 ∨ 6 ≤ a) ∧ a < 70 then _ else _) = _
    rw [if_pos ha]
  · show (if (a = 3 ∨ 6 ≤ a) ∧ a < 70 then _ else _) = _
    rw [if_pos ha]
  · show (if (a = 3 ∨ 6 ≤ a) ∧ a < 70 then _ else _) = _
    rw [if_pos ha]
theorem zV_k {h : zH} {D : zD} {a : Nat} (ha : (a ≠ 3 ∧ a < 6) ∨ 70 ≤ a) : zk (zV h D) a = zk h a := by
  show (if (a = 3 ∨ 6 ≤ a) ∧ a < 70 then _ else _) = _
  rw [if_neg (by omega)]
  rfl
theorem zV_l {h : zH} {D : zD} {a : Nat} (ha : (a ≠ 3 ∧ a < 6) ∨ 70 ≤ a) : zl (zV h D) a = zl h a := by
  show (if (a = 3 ∨ 6 ≤ a) ∧ a < 70 then _ else _) = _
  rw [if_neg (by omega)]
  rfl
theorem zV_m {h : zH} {D : zD} {a i : Nat} (ha : (a ≠ 3 ∧ a < 6) ∨ 70 ≤ a) : zm (zV h D) a i = zm h a i := by
  show (if (a = 3 ∨ 6 ≤ a) ∧ a < 70 then _ else _) = _
  rw [if_neg (by omega)]
  rfl
theorem zV_n {h : zH} {D : zD} : zn (zV h D) = zn h := rfl
theorem zV_uc {h : zH} {D : zD} : zuc (zV h D) = zuc h := rfl
theorem zV_us {h : zH} {D : zD} : zus (zV h D) = zus h := rfl
theorem zV_chg {h : zH} {D : zD} {c n : Nat} : zchg (zV h D) c n = zV (zchg h c n) D := rfl
theorem zV_put {h : zH} {D : zD} {a i : Nat} {v : Value} {x : Int} (ha : (a = 3 ∨ 6 ≤ a) ∧ a < 70) (hv : v = zenc (zst a i) x) : zput (zV h D) a i v = zV h (zwr D a i x) := by
  unfold zput zV
  refine Prod.ext rfl (Prod.ext rfl (Prod.ext rfl ?_))
  funext b j
  dsimp only
  by_cases hb : b = a ∧ j = i
  · obtain ⟨rfl, rfl⟩ := hb
    rw [if_pos ⟨rfl, rfl⟩, if_pos ha, zwr_s, hv]
  · rw [if_neg hb]
    simp only [zwr_e, hb, if_false]
theorem zV_putd {h : zH} {D : zD} {a i : Nat} {v : Value} (ha : (a ≠ 3 ∧ a < 6) ∨ 70 ≤ a) : zput (zV h D) a i v = zV (zput h a i v) D := by
  unfold zput zV
  refine Prod.ext rfl (Prod.ext rfl (Prod.ext rfl ?_))
  funext b j
  dsimp only
  by_cases hb : b = a ∧ j = i
  · obtain ⟨rfl, rfl⟩ := hb
    have : ¬ ((b = 3 ∨ 6 ≤ b) ∧ b < 70) := by omega
    simp only [and_self, if_true, this, if_false]
  · simp only [hb, if_false]
theorem zV_new {h : zH} {D : zD} {k n : Nat} {f : Nat → Value} (hn : 70 ≤ zn h) : znew (zV h D) k n f = zV (znew h k n f) D := by
  have e : ∀ b, b = zn h → ¬ ((b = 3 ∨ 6 ≤ b) ∧ b < 70) := fun b e => by omega
  refine Prod.ext rfl (Prod.ext ?_ (Prod.ext ?_ ?_))
  · funext b
    show (if b = zn h then k else (if (b = 3 ∨ 6 ≤ b) ∧ b < 70 then zsk b else h.2.1 b)) = (if (b = 3 ∨ 6 ≤ b) ∧ b < 70 then zsk b else if b = zn h then k else h.2.1 b)
    by_cases hb : b = zn h
    · rw [if_pos hb, if_neg (e b hb), if_pos hb]
    · rw [if_neg hb, if_neg hb]
  · funext b
    show (if b = zn h then n else (if (b = 3 ∨ 6 ≤ b) ∧ b < 70 then zsl b else h.2.2.1 b)) = (if (b = 3 ∨ 6 ≤ b) ∧ b < 70 then zsl b else if b = zn h then n else h.2.2.1 b)
    by_cases hb : b = zn h
    · rw [if_pos hb, if_neg (e b hb), if_pos hb]
    · rw [if_neg hb, if_neg hb]
  · funext b j
    show (if b = zn h then f j else (if (b = 3 ∨ 6 ≤ b) ∧ b < 70 then zenc (zst b j) (D b j) else h.2.2.2 b j)) = (if (b = 3 ∨ 6 ≤ b) ∧ b < 70 then zenc (zst b j) (D b j) else if b = zn h then f j else h.2.2.2 b j)
    by_cases hb : b = zn h
    · rw [if_pos hb, if_neg (e b hb), if_pos hb]
    · rw [if_neg hb, if_neg hb]
theorem zV_of {h : zH} {D : zD} (hd : ∀ a, (a = 3 ∨ 6 ≤ a) ∧ a < 70 → zk h a = zsk a ∧ zl h a = zsl a ∧ ∀ i, zm h a i = zenc (zst a i) (D a i)) : h = zV h D := by
  refine Prod.ext rfl (Prod.ext ?_ (Prod.ext ?_ ?_))
  · funext b
    by_cases hb : (b = 3 ∨ 6 ≤ b) ∧ b < 70
    · exact (hd b hb).1.trans (if_pos hb).symm
    · exact (if_neg hb).symm
  · funext b
    by_cases hb : (b = 3 ∨ 6 ≤ b) ∧ b < 70
    · exact (hd b hb).2.1.trans (if_pos hb).symm
    · exact (if_neg hb).symm
  · funext b j
    by_cases hb : (b = 3 ∨ 6 ≤ b) ∧ b < 70
    · exact ((hd b hb).2.2 j).trans (if_pos hb).symm
    · exact (if_neg hb).symm
theorem zc3 : (∀ (h : zH) (D : zD), zk (zV h D) 3 = 5) ∧ (∀ (h : zH) (D : zD), zm (zV h D) 3 0 = .ref 4) ∧ (∀ (h : zH) (D : zD), zm (zV h D) 3 1 = .ref 5) ∧ (∀ (h : zH) (D : zD), zm (zV h D) 3 2 = .ref 6) ∧ (∀ (h : zH) (D : zD), zm (zV h D) 3 3 = .ref 10) ∧ (∀ (h : zH) (D : zD), zm (zV h D) 3 4 = .ref 14) ∧ (∀ (h : zH) (D : zD), zm (zV h D) 3 5 = .int (Int32.ofInt (D 3 5))) ∧ (∀ (h : zH) (D : zD), zm (zV h D) 3 6 = .int (Int32.ofInt (D 3 6))) ∧ (∀ (h : zH) (D : zD), zm (zV h D) 3 7 = .int (Int32.ofInt (D 3 7))) ∧ (∀ (h : zH) (D : zD) (x : Int), zput (zV h D) 3 5 (.int (Int32.ofInt x)) = zV h (zwr D 3 5 x)) ∧ (∀ (h : zH) (D : zD) (x : Int), zput (zV h D) 3 6 (.int (Int32.ofInt x)) = zV h (zwr D 3 6 x)) ∧ (∀ (h : zH) (D : zD) (x : Int), zput (zV h D) 3 7 (.int (Int32.ofInt x)) = zV h (zwr D 3 7 x)) :=
  ⟨fun _ _ => rfl, fun _ _ => rfl, fun _ _ => rfl, fun _ _ => rfl, fun _ _ => rfl, fun _ _ => rfl, fun _ _ => rfl, fun _ _ => rfl, fun _ _ => rfl, fun _ _ _ => zV_put ⟨by decide, by decide⟩ rfl, fun _ _ _ => zV_put ⟨by decide, by decide⟩ rfl, fun _ _ _ => zV_put ⟨by decide, by decide⟩ rfl⟩
theorem zc6 : (∀ (h : zH) (D : zD), zk (zV h D) 6 = 4) ∧ (∀ (h : zH) (D : zD), zm (zV h D) 6 0 = .ref 7) ∧ (∀ (h : zH) (D : zD), zm (zV h D) 6 1 = .ref 8) ∧ (∀ (h : zH) (D : zD), zm (zV h D) 6 2 = .ref 9) ∧ (∀ (h : zH) (D : zD), zm (zV h D) 6 3 = .int (Int32.ofInt (D 6 3))) ∧ (∀ (h : zH) (D : zD) (x : Int), zput (zV h D) 6 3 (.int (Int32.ofInt x)) = zV h (zwr D 6 3 x)) :=
  ⟨fun _ _ => rfl, fun _ _ => rfl, fun _ _ => rfl, fun _ _ => rfl, fun _ _ => rfl, fun _ _ _ => zV_put ⟨by decide, by decide⟩ rfl⟩
theorem zc7 : (∀ (h : zH) (D : zD), zk (zV h D) 7 = 20) ∧ (∀ (h : zH) (D : zD), zl (zV h D) 7 = 116) ∧ (∀ (h : zH) (D : zD) (i : Nat), zm (zV h D) 7 i = .int (Int32.ofInt (D 7 i))) ∧ (∀ (h : zH) (D : zD) (i : Nat) (x : Int), zput (zV h D) 7 i (.int (Int32.ofInt x)) = zV h (zwr D 7 i x)) :=
  ⟨fun _ _ => rfl, fun _ _ => rfl, fun _ _ _ => rfl, fun _ _ _ _ => zV_put ⟨by decide, by decide⟩ rfl⟩
theorem zc8 : (∀ (h : zH) (D : zD), zk (zV h D) 8 = 20) ∧ (∀ (h : zH) (D : zD), zl (zV h D) 8 = 116) ∧ (∀ (h : zH) (D : zD) (i : Nat), zm (zV h D) 8 i = .int (Int32.ofInt (D 8 i))) ∧ (∀ (h : zH) (D : zD) (i : Nat) (x : Int), zput (zV h D) 8 i (.int (Int32.ofInt x)) = zV h (zwr D 8 i x)) :=
  ⟨fun _ _ => rfl, fun _ _ => rfl, fun _ _ _ => rfl, fun _ _ _ _ => zV_put ⟨by decide, by decide⟩ rfl⟩
theorem zc9 : (∀ (h : zH) (D : zD), zk (zV h D) 9 = 20) ∧ (∀ (h : zH) (D : zD), zl (zV h D) 9 = 116) ∧ (∀ (h : zH) (D : zD) (i : Nat), zm (zV h D) 9 i = .int (Int32.ofInt (D 9 i))) ∧ (∀ (h : zH) (D : zD) (i : Nat) (x : Int), zput (zV h D) 9 i (.int (Int32.ofInt x)) = zV h (zwr D 9 i x)) :=
  ⟨fun _ _ => rfl, fun _ _ => rfl, fun _ _ _ => rfl, fun _ _ _ _ => zV_put ⟨by decide, by decide⟩ rfl⟩
theorem zc10 : (∀ (h : zH) (D : zD), zk (zV h D) 10 = 4) ∧ (∀ (h : zH) (D : zD), zm (zV h D) 10 0 = .ref 11) ∧ (∀ (h : zH) (D : zD), zm (zV h D) 10 1 = .ref 12) ∧ (∀ (h : zH) (D : zD), zm (zV h D) 10 2 = .ref 13) ∧ (∀ (h : zH) (D : zD), zm (zV h D) 10 3 = .int (Int32.ofInt (D 10 3))) ∧ (∀ (h : zH) (D : zD) (x : Int), zput (zV h D) 10 3 (.int (Int32.ofInt x)) = zV h (zwr D 10 3 x)) :=
  ⟨fun _ _ => rfl, fun _ _ => rfl, fun _ _ => rfl, fun _ _ => rfl, fun _ _ => rfl, fun _ _ _ => zV_put ⟨by decide, by decide⟩ rfl⟩
theorem zc11 : (∀ (h : zH) (D : zD), zk (zV h D) 11 = 20) ∧ (∀ (h : zH) (D : zD), zl (zV h D) 11 = 116) ∧ (∀ (h : zH) (D : zD) (i : Nat), zm (zV h D) 11 i = .int (Int32.ofInt (D 11 i))) ∧ (∀ (h : zH) (D : zD) (i : Nat) (x : Int), zput (zV h D) 11 i (.int (Int32.ofInt x)) = zV h (zwr D 11 i x)) :=
  ⟨fun _ _ => rfl, fun _ _ => rfl, fun _ _ _ => rfl, fun _ _ _ _ => zV_put ⟨by decide, by decide⟩ rfl⟩
theorem zc12 : (∀ (h : zH) (D : zD), zk (zV h D) 12 = 20) ∧ (∀ (h : zH) (D : zD), zl (zV h D) 12 = 116) ∧ (∀ (h : zH) (D : zD) (i : Nat), zm (zV h D) 12 i = .int (Int32.ofInt (D 12 i))) ∧ (∀ (h : zH) (D : zD) (i : Nat) (x : Int), zput (zV h D) 12 i (.int (Int32.ofInt x)) = zV h (zwr D 12 i x)) :=
  ⟨fun _ _ => rfl, fun _ _ => rfl, fun _ _ _ => rfl, fun _ _ _ _ => zV_put ⟨by decide, by decide⟩ rfl⟩
theorem zc13 : (∀ (h : zH) (D : zD), zk (zV h D) 13 = 20) ∧ (∀ (h : zH) (D : zD), zl (zV h D) 13 = 116) ∧ (∀ (h : zH) (D : zD) (i : Nat), zm (zV h D) 13 i = .int (Int32.ofInt (D 13 i))) ∧ (∀ (h : zH) (D : zD) (i : Nat) (x : Int), zput (zV h D) 13 i (.int (Int32.ofInt x)) = zV h (zwr D 13 i x)) :=
  ⟨fun _ _ => rfl, fun _ _ => rfl, fun _ _ _ => rfl, fun _ _ _ _ => zV_put ⟨by decide, by decide⟩ rfl⟩
theorem zc14 : (∀ (h : zH) (D : zD), zk (zV h D) 14 = 2) ∧ (∀ (h : zH) (D : zD), zm (zV h D) 14 0 = .ref 15) ∧ (∀ (h : zH) (D : zD), zm (zV h D) 14 1 = .ref 16) ∧ (∀ (h : zH) (D : zD), zm (zV h D) 14 2 = .ref 17) ∧ (∀ (h : zH) (D : zD), zm (zV h D) 14 3 = .int (Int32.ofInt (D 14 3))) ∧ (∀ (h : zH) (D : zD), zm (zV h D) 14 4 = .ref 18) ∧ (∀ (h : zH) (D : zD), zm (zV h D) 14 5 = .int (Int32.ofInt (D 14 5))) ∧ (∀ (h : zH) (D : zD), zm (zV h D) 14 6 = .ref 28) ∧ (∀ (h : zH) (D : zD), zm (zV h D) 14 7 = .ref 29) ∧ (∀ (h : zH) (D : zD), zm (zV h D) 14 8 = .ref 30) ∧ (∀ (h : zH) (D : zD), zm (zV h D) 14 9 = .ref 31) ∧ (∀ (h : zH) (D : zD), zm (zV h D) 14 10 = .int (Int32.ofInt (D 14 10))) ∧ (∀ (h : zH) (D : zD) (x : Int), zput (zV h D) 14 3 (.int (Int32.ofInt x)) = zV h (zwr D 14 3 x)) ∧ (∀ (h : zH) (D : zD) (x : Int), zput (zV h D) 14 5 (.int (Int32.ofInt x)) = zV h (zwr D 14 5 x)) ∧ (∀ (h : zH) (D : zD) (x : Int), zput (zV h D) 14 10 (.int (Int32.ofInt x)) = zV h (zwr D 14 10 x)) :=
  ⟨fun _ _ => rfl, fun _ _ => rfl, fun _ _ => rfl, fun _ _ => rfl, fun _ _ => rfl, fun _ _ => rfl, fun _ _ => rfl, fun _ _ => rfl, fun _ _ => rfl, fun _ _ => rfl, fun _ _ => rfl, fun _ _ => rfl, fun _ _ _ => zV_put ⟨by decide, by decide⟩ rfl, fun _ _ _ => zV_put ⟨by decide, by decide⟩ rfl, fun _ _ _ => zV_put ⟨by decide, by decide⟩ rfl⟩
theorem zc15 : (∀ (h : zH) (D : zD), zk (zV h D) 15 = 20) ∧ (∀ (h : zH) (D : zD), zl (zV h D) 15 = 8) ∧ (∀ (h : zH) (D : zD) (i : Nat), zm (zV h D) 15 i = .int (Int32.ofInt (D 15 i))) ∧ (∀ (h : zH) (D : zD) (i : Nat) (x : Int), zput (zV h D) 15 i (.int (Int32.ofInt x)) = zV h (zwr D 15 i x)) :=
  ⟨fun _ _ => rfl, fun _ _ => rfl, fun _ _ _ => rfl, fun _ _ _ _ => zV_put ⟨by decide, by decide⟩ rfl⟩
theorem zc16 : (∀ (h : zH) (D : zD), zk (zV h D) 16 = 20) ∧ (∀ (h : zH) (D : zD), zl (zV h D) 16 = 8) ∧ (∀ (h : zH) (D : zD) (i : Nat), zm (zV h D) 16 i = .int (Int32.ofInt (D 16 i))) ∧ (∀ (h : zH) (D : zD) (i : Nat) (x : Int), zput (zV h D) 16 i (.int (Int32.ofInt x)) = zV h (zwr D 16 i x)) :=
  ⟨fun _ _ => rfl, fun _ _ => rfl, fun _ _ _ => rfl, fun _ _ _ _ => zV_put ⟨by decide, by decide⟩ rfl⟩
theorem zc17 : (∀ (h : zH) (D : zD), zk (zV h D) 17 = 20) ∧ (∀ (h : zH) (D : zD), zl (zV h D) 17 = 8) ∧ (∀ (h : zH) (D : zD) (i : Nat), zm (zV h D) 17 i = .int (Int32.ofInt (D 17 i))) ∧ (∀ (h : zH) (D : zD) (i : Nat) (x : Int), zput (zV h D) 17 i (.int (Int32.ofInt x)) = zV h (zwr D 17 i x)) :=
  ⟨fun _ _ => rfl, fun _ _ => rfl, fun _ _ _ => rfl, fun _ _ _ _ => zV_put ⟨by decide, by decide⟩ rfl⟩
theorem zc18 : (∀ (h : zH) (D : zD), zk (zV h D) 18 = 27) ∧ (∀ (h : zH) (D : zD), zl (zV h D) 18 = 9) :=
  ⟨fun _ _ => rfl, fun _ _ => rfl⟩
theorem zc19 : (∀ (h : zH) (D : zD), zk (zV h D) 19 = 21) ∧ (∀ (h : zH) (D : zD), zl (zV h D) 19 = 3601) ∧ (∀ (h : zH) (D : zD) (i : Nat), zm (zV h D) 19 i = .int (Int32.ofInt (D 19 i))) ∧ (∀ (h : zH) (D : zD) (i : Nat) (x : Int), zput (zV h D) 19 i (.int (Int32.ofInt x)) = zV h (zwr D 19 i x)) :=
  ⟨fun _ _ => rfl, fun _ _ => rfl, fun _ _ _ => rfl, fun _ _ _ _ => zV_put ⟨by decide, by decide⟩ rfl⟩
theorem zc20 : (∀ (h : zH) (D : zD), zk (zV h D) 20 = 21) ∧ (∀ (h : zH) (D : zD), zl (zV h D) 20 = 3601) ∧ (∀ (h : zH) (D : zD) (i : Nat), zm (zV h D) 20 i = .int (Int32.ofInt (D 20 i))) ∧ (∀ (h : zH) (D : zD) (i : Nat) (x : Int), zput (zV h D) 20 i (.int (Int32.ofInt x)) = zV h (zwr D 20 i x)) :=
  ⟨fun _ _ => rfl, fun _ _ => rfl, fun _ _ _ => rfl, fun _ _ _ _ => zV_put ⟨by decide, by decide⟩ rfl⟩
theorem zc21 : (∀ (h : zH) (D : zD), zk (zV h D) 21 = 21) ∧ (∀ (h : zH) (D : zD), zl (zV h D) 21 = 3601) ∧ (∀ (h : zH) (D : zD) (i : Nat), zm (zV h D) 21 i = .int (Int32.ofInt (D 21 i))) ∧ (∀ (h : zH) (D : zD) (i : Nat) (x : Int), zput (zV h D) 21 i (.int (Int32.ofInt x)) = zV h (zwr D 21 i x)) :=
  ⟨fun _ _ => rfl, fun _ _ => rfl, fun _ _ _ => rfl, fun _ _ _ _ => zV_put ⟨by decide, by decide⟩ rfl⟩
theorem zc22 : (∀ (h : zH) (D : zD), zk (zV h D) 22 = 21) ∧ (∀ (h : zH) (D : zD), zl (zV h D) 22 = 3601) ∧ (∀ (h : zH) (D : zD) (i : Nat), zm (zV h D) 22 i = .int (Int32.ofInt (D 22 i))) ∧ (∀ (h : zH) (D : zD) (i : Nat) (x : Int), zput (zV h D) 22 i (.int (Int32.ofInt x)) = zV h (zwr D 22 i x)) :=
  ⟨fun _ _ => rfl, fun _ _ => rfl, fun _ _ _ => rfl, fun _ _ _ _ => zV_put ⟨by decide, by decide⟩ rfl⟩
theorem zc23 : (∀ (h : zH) (D : zD), zk (zV h D) 23 = 21) ∧ (∀ (h : zH) (D : zD), zl (zV h D) 23 = 3601) ∧ (∀ (h : zH) (D : zD) (i : Nat), zm (zV h D) 23 i = .int (Int32.ofInt (D 23 i))) ∧ (∀ (h : zH) (D : zD) (i : Nat) (x : Int), zput (zV h D) 23 i (.int (Int32.ofInt x)) = zV h (zwr D 23 i x)) :=
  ⟨fun _ _ => rfl, fun _ _ => rfl, fun _ _ _ => rfl, fun _ _ _ _ => zV_put ⟨by decide, by decide⟩ rfl⟩
theorem zc24 : (∀ (h : zH) (D : zD), zk (zV h D) 24 = 21) ∧ (∀ (h : zH) (D : zD), zl (zV h D) 24 = 3601) ∧ (∀ (h : zH) (D : zD) (i : Nat), zm (zV h D) 24 i = .int (Int32.ofInt (D 24 i))) ∧ (∀ (h : zH) (D : zD) (i : Nat) (x : Int), zput (zV h D) 24 i (.int (Int32.ofInt x)) = zV h (zwr D 24 i x)) :=
  ⟨fun _ _ => rfl, fun _ _ => rfl, fun _ _ _ => rfl, fun _ _ _ _ => zV_put ⟨by decide, by decide⟩ rfl⟩
theorem zc25 : (∀ (h : zH) (D : zD), zk (zV h D) 25 = 21) ∧ (∀ (h : zH) (D : zD), zl (zV h D) 25 = 3601) ∧ (∀ (h : zH) (D : zD) (i : Nat), zm (zV h D) 25 i = .int (Int32.ofInt (D 25 i))) ∧ (∀ (h : zH) (D : zD) (i : Nat) (x : Int), zput (zV h D) 25 i (.int (Int32.ofInt x)) = zV h (zwr D 25 i x)) :=
  ⟨fun _ _ => rfl, fun _ _ => rfl, fun _ _ _ => rfl, fun _ _ _ _ => zV_put ⟨by decide, by decide⟩ rfl⟩
theorem zc26 : (∀ (h : zH) (D : zD), zk (zV h D) 26 = 21) ∧ (∀ (h : zH) (D : zD), zl (zV h D) 26 = 3601) ∧ (∀ (h : zH) (D : zD) (i : Nat), zm (zV h D) 26 i = .int (Int32.ofInt (D 26 i))) ∧ (∀ (h : zH) (D : zD) (i : Nat) (x : Int), zput (zV h D) 26 i (.int (Int32.ofInt x)) = zV h (zwr D 26 i x)) :=
  ⟨fun _ _ => rfl, fun _ _ => rfl, fun _ _ _ => rfl, fun _ _ _ _ => zV_put ⟨by decide, by decide⟩ rfl⟩
theorem zc27 : (∀ (h : zH) (D : zD), zk (zV h D) 27 = 21) ∧ (∀ (h : zH) (D : zD), zl (zV h D) 27 = 3601) ∧ (∀ (h : zH) (D : zD) (i : Nat), zm (zV h D) 27 i = .int (Int32.ofInt (D 27 i))) ∧ (∀ (h : zH) (D : zD) (i : Nat) (x : Int), zput (zV h D) 27 i (.int (Int32.ofInt x)) = zV h (zwr D 27 i x)) :=
  ⟨fun _ _ => rfl, fun _ _ => rfl, fun _ _ _ => rfl, fun _ _ _ _ => zV_put ⟨by decide, by decide⟩ rfl⟩
theorem zc28 : (∀ (h : zH) (D : zD), zk (zV h D) 28 = 20) ∧ (∀ (h : zH) (D : zD), zl (zV h D) 28 = 70) ∧ (∀ (h : zH) (D : zD) (i : Nat), zm (zV h D) 28 i = .int (Int32.ofInt (D 28 i))) ∧ (∀ (h : zH) (D : zD) (i : Nat) (x : Int), zput (zV h D) 28 i (.int (Int32.ofInt x)) = zV h (zwr D 28 i x)) :=
  ⟨fun _ _ => rfl, fun _ _ => rfl, fun _ _ _ => rfl, fun _ _ _ _ => zV_put ⟨by decide, by decide⟩ rfl⟩
theorem zc29 : (∀ (h : zH) (D : zD), zk (zV h D) 29 = 20) ∧ (∀ (h : zH) (D : zD), zl (zV h D) 29 = 70) ∧ (∀ (h : zH) (D : zD) (i : Nat), zm (zV h D) 29 i = .int (Int32.ofInt (D 29 i))) ∧ (∀ (h : zH) (D : zD) (i : Nat) (x : Int), zput (zV h D) 29 i (.int (Int32.ofInt x)) = zV h (zwr D 29 i x)) :=
  ⟨fun _ _ => rfl, fun _ _ => rfl, fun _ _ _ => rfl, fun _ _ _ _ => zV_put ⟨by decide, by decide⟩ rfl⟩
theorem zc30 : (∀ (h : zH) (D : zD), zk (zV h D) 30 = 20) ∧ (∀ (h : zH) (D : zD), zl (zV h D) 30 = 70) ∧ (∀ (h : zH) (D : zD) (i : Nat), zm (zV h D) 30 i = .int (Int32.ofInt (D 30 i))) ∧ (∀ (h : zH) (D : zD) (i : Nat) (x : Int), zput (zV h D) 30 i (.int (Int32.ofInt x)) = zV h (zwr D 30 i x)) :=
  ⟨fun _ _ => rfl, fun _ _ => rfl, fun _ _ _ => rfl, fun _ _ _ _ => zV_put ⟨by decide, by decide⟩ rfl⟩
theorem zc31 : (∀ (h : zH) (D : zD), zk (zV h D) 31 = 20) ∧ (∀ (h : zH) (D : zD), zl (zV h D) 31 = 70) ∧ (∀ (h : zH) (D : zD) (i : Nat), zm (zV h D) 31 i = .int (Int32.ofInt (D 31 i))) ∧ (∀ (h : zH) (D : zD) (i : Nat) (x : Int), zput (zV h D) 31 i (.int (Int32.ofInt x)) = zV h (zwr D 31 i x)) :=
  ⟨fun _ _ => rfl, fun _ _ => rfl, fun _ _ _ => rfl, fun _ _ _ _ => zV_put ⟨by decide, by decide⟩ rfl⟩
theorem zc32 : (∀ (h : zH) (D : zD), zk (zV h D) 32 = 6) ∧ (∀ (h : zH) (D : zD), zm (zV h D) 32 0 = .ref 33) ∧ (∀ (h : zH) (D : zD), zm (zV h D) 32 1 = .ref 34) ∧ (∀ (h : zH) (D : zD), zm (zV h D) 32 2 = .ref 35) ∧ (∀ (h : zH) (D : zD), zm (zV h D) 32 3 = .ref 36) ∧ (∀ (h : zH) (D : zD), zm (zV h D) 32 4 = .ref 37) ∧ (∀ (h : zH) (D : zD), zm (zV h D) 32 5 = .ref 38) ∧ (∀ (h : zH) (D : zD), zm (zV h D) 32 6 = .ref 39) ∧ (∀ (h : zH) (D : zD), zm (zV h D) 32 7 = .int (Int32.ofInt (D 32 7))) ∧ (∀ (h : zH) (D : zD), zm (zV h D) 32 8 = .int (Int32.ofInt (D 32 8))) ∧ (∀ (h : zH) (D : zD), zm (zV h D) 32 9 = .ref 40) ∧ (∀ (h : zH) (D : zD), zm (zV h D) 32 10 = .ref 41) ∧ (∀ (h : zH) (D : zD), zm (zV h D) 32 11 = .ref 42) ∧ (∀ (h : zH) (D : zD), zm (zV h D) 32 12 = .ref 43) ∧ (∀ (h : zH) (D : zD), zm (zV h D) 32 13 = .ref 44) ∧ (∀ (h : zH) (D : zD), zm (zV h D) 32 14 = .ref 57) ∧ (∀ (h : zH) (D : zD), zm (zV h D) 32 15 = .int (Int32.ofInt (D 32 15))) ∧ (∀ (h : zH) (D : zD), zm (zV h D) 32 16 = .int (Int32.ofInt (D 32 16))) ∧ (∀ (h : zH) (D : zD), zm (zV h D) 32 17 = .ref 58) ∧ (∀ (h : zH) (D : zD), zm (zV h D) 32 18 = .ref 59) ∧ (∀ (h : zH) (D : zD), zm (zV h D) 32 19 = .ref 60) ∧ (∀ (h : zH) (D : zD), zm (zV h D) 32 20 = .ref 61) ∧ (∀ (h : zH) (D : zD), zm (zV h D) 32 21 = .int (Int32.ofInt (D 32 21))) ∧ (∀ (h : zH) (D : zD), zm (zV h D) 32 22 = .ref 62) ∧ (∀ (h : zH) (D : zD), zm (zV h D) 32 23 = .ref 63) ∧ (∀ (h : zH) (D : zD), zm (zV h D) 32 24 = .ref 64) ∧ (∀ (h : zH) (D : zD), zm (zV h D) 32 25 = .ref 65) ∧ (∀ (h : zH) (D : zD), zm (zV h D) 32 26 = .int (Int32.ofInt (D 32 26))) ∧ (∀ (h : zH) (D : zD), zm (zV h D) 32 27 = .float (UInt32.ofNat ((D 32 27)).toNat)) ∧ (∀ (h : zH) (D : zD), zm (zV h D) 32 28 = .ref 66) ∧ (∀ (h : zH) (D : zD), zm (zV h D) 32 29 = .ref 67) ∧ (∀ (h : zH) (D : zD), zm (zV h D) 32 30 = .int (Int32.ofInt (D 32 30))) ∧ (∀ (h : zH) (D : zD), zm (zV h D) 32 31 = .int (Int32.ofInt (D 32 31))) ∧ (∀ (h : zH) (D : zD), zm (zV h D) 32 32 = .int (Int32.ofInt (D 32 32))) ∧ (∀ (h : zH) (D : zD) (x : Int), zput (zV h D) 32 7 (.int (Int32.ofInt x)) = zV h (zwr D 32 7 x)) ∧ (∀ (h : zH) (D : zD) (x : Int), zput (zV h D) 32 8 (.int (Int32.ofInt x)) = zV h (zwr D 32 8 x)) ∧ (∀ (h : zH) (D : zD) (x : Int), zput (zV h D) 32 15 (.int (Int32.ofInt x)) = zV h (zwr D 32 15 x)) ∧ (∀ (h : zH) (D : zD) (x : Int), zput (zV h D) 32 16 (.int (Int32.ofInt x)) = zV h (zwr D 32 16 x)) ∧ (∀ (h : zH) (D : zD) (x : Int), zput (zV h D) 32 21 (.int (Int32.ofInt x)) = zV h (zwr D 32 21 x)) ∧ (∀ (h : zH) (D : zD) (x : Int), zput (zV h D) 32 26 (.int (Int32.ofInt x)) = zV h (zwr D 32 26 x)) ∧ (∀ (h : zH) (D : zD) (x : UInt32), zput (zV h D) 32 27 (.float x) = zV h (zwr D 32 27 x.toNat)) ∧ (∀ (h : zH) (D : zD) (x : Int), zput (zV h D) 32 30 (.int (Int32.ofInt x)) = zV h (zwr D 32 30 x)) ∧ (∀ (h : zH) (D : zD) (x : Int), zput (zV h D) 32 31 (.int (Int32.ofInt x)) = zV h (zwr D 32 31 x)) ∧ (∀ (h : zH) (D : zD) (x : Int), zput (zV h D) 32 32 (.int (Int32.ofInt x)) = zV h (zwr D 32 32 x)) :=
  ⟨fun _ _ => rfl, fun _ _ => rfl, fun _ _ => rfl, fun _ _ => rfl, fun _ _ => rfl, fun _ _ => rfl, fun _ _ => rfl, fun _ _ => rfl, fun _ _ => rfl, fun _ _ => rfl, fun _ _ => rfl, fun _ _ => rfl, fun _ _ => rfl, fun _ _ => rfl, fun _ _ => rfl, fun _ _ => rfl, fun _ _ => rfl, fun _ _ => rfl, fun _ _ => rfl, fun _ _ => rfl, fun _ _ => rfl, fun _ _ => rfl, fun _ _ => rfl, fun _ _ => rfl, fun _ _ => rfl, fun _ _ => rfl, fun _ _ => rfl, fun _ _ => rfl, fun _ _ => rfl, fun _ _ => rfl, fun _ _ => rfl, fun _ _ => rfl, fun _ _ => rfl, fun _ _ => rfl, fun _ _ _ => zV_put ⟨by decide, by decide⟩ rfl, fun _ _ _ => zV_put ⟨by decide, by decide⟩ rfl, fun _ _ _ => zV_put ⟨by decide, by decide⟩ rfl, fun _ _ _ => zV_put ⟨by decide, by decide⟩ rfl, fun _ _ _ => zV_put ⟨by decide, by decide⟩ rfl, fun _ _ _ => zV_put ⟨by decide, by decide⟩ rfl, fun _ _ x => zV_put ⟨by decide, by decide⟩ (by show Value.float x = .float (UInt32.ofNat ((x.toNat : Int).toNat)); simp), fun _ _ _ => zV_put ⟨by decide, by decide⟩ rfl, fun _ _ _ => zV_put ⟨by decide, by decide⟩ rfl, fun _ _ _ => zV_put ⟨by decide, by decide⟩ rfl⟩
theorem zc33 : (∀ (h : zH) (D : zD), zk (zV h D) 33 = 20) ∧ (∀ (h : zH) (D : zD), zl (zV h D) 33 = 12) ∧ (∀ (h : zH) (D : zD) (i : Nat), zm (zV h D) 33 i = .int (Int32.ofInt (D 33 i))) ∧ (∀ (h : zH) (D : zD) (i : Nat) (x : Int), zput (zV h D) 33 i (.int (Int32.ofInt x)) = zV h (zwr D 33 i x)) :=
  ⟨fun _ _ => rfl, fun _ _ => rfl, fun _ _ _ => rfl, fun _ _ _ _ => zV_put ⟨by decide, by decide⟩ rfl⟩
theorem zc34 : (∀ (h : zH) (D : zD), zk (zV h D) 34 = 20) ∧ (∀ (h : zH) (D : zD), zl (zV h D) 34 = 12) ∧ (∀ (h : zH) (D : zD) (i : Nat), zm (zV h D) 34 i = .int (Int32.ofInt (D 34 i))) ∧ (∀ (h : zH) (D : zD) (i : Nat) (x : Int), zput (zV h D) 34 i (.int (Int32.ofInt x)) = zV h (zwr D 34 i x)) :=
  ⟨fun _ _ => rfl, fun _ _ => rfl, fun _ _ _ => rfl, fun _ _ _ _ => zV_put ⟨by decide, by decide⟩ rfl⟩
theorem zc35 : (∀ (h : zH) (D : zD), zk (zV h D) 35 = 20) ∧ (∀ (h : zH) (D : zD), zl (zV h D) 35 = 12) ∧ (∀ (h : zH) (D : zD) (i : Nat), zm (zV h D) 35 i = .int (Int32.ofInt (D 35 i))) ∧ (∀ (h : zH) (D : zD) (i : Nat) (x : Int), zput (zV h D) 35 i (.int (Int32.ofInt x)) = zV h (zwr D 35 i x)) :=
  ⟨fun _ _ => rfl, fun _ _ => rfl, fun _ _ _ => rfl, fun _ _ _ _ => zV_put ⟨by decide, by decide⟩ rfl⟩
theorem zc36 : (∀ (h : zH) (D : zD), zk (zV h D) 36 = 20) ∧ (∀ (h : zH) (D : zD), zl (zV h D) 36 = 12) ∧ (∀ (h : zH) (D : zD) (i : Nat), zm (zV h D) 36 i = .int (Int32.ofInt (D 36 i))) ∧ (∀ (h : zH) (D : zD) (i : Nat) (x : Int), zput (zV h D) 36 i (.int (Int32.ofInt x)) = zV h (zwr D 36 i x)) :=
  ⟨fun _ _ => rfl, fun _ _ => rfl, fun _ _ _ => rfl, fun _ _ _ _ => zV_put ⟨by decide, by decide⟩ rfl⟩
theorem zc37 : (∀ (h : zH) (D : zD), zk (zV h D) 37 = 20) ∧ (∀ (h : zH) (D : zD), zl (zV h D) 37 = 12) ∧ (∀ (h : zH) (D : zD) (i : Nat), zm (zV h D) 37 i = .int (Int32.ofInt (D 37 i))) ∧ (∀ (h : zH) (D : zD) (i : Nat) (x : Int), zput (zV h D) 37 i (.int (Int32.ofInt x)) = zV h (zwr D 37 i x)) :=
  ⟨fun _ _ => rfl, fun _ _ => rfl, fun _ _ _ => rfl, fun _ _ _ _ => zV_put ⟨by decide, by decide⟩ rfl⟩
theorem zc38 : (∀ (h : zH) (D : zD), zk (zV h D) 38 = 23) ∧ (∀ (h : zH) (D : zD), zl (zV h D) 38 = 12) ∧ (∀ (h : zH) (D : zD) (i : Nat), zm (zV h D) 38 i = .int (Int32.ofInt (D 38 i))) ∧ (∀ (h : zH) (D : zD) (i : Nat) (x : Int), zput (zV h D) 38 i (.int (Int32.ofInt x)) = zV h (zwr D 38 i x)) :=
  ⟨fun _ _ => rfl, fun _ _ => rfl, fun _ _ _ => rfl, fun _ _ _ _ => zV_put ⟨by decide, by decide⟩ rfl⟩
theorem zc39 : (∀ (h : zH) (D : zD), zk (zV h D) 39 = 24) ∧ (∀ (h : zH) (D : zD), zl (zV h D) 39 = 12) ∧ (∀ (h : zH) (D : zD) (i : Nat), zm (zV h D) 39 i = .long (Int64.ofInt (D 39 i))) ∧ (∀ (h : zH) (D : zD) (i : Nat) (x : Int), zput (zV h D) 39 i (.long (Int64.ofInt x)) = zV h (zwr D 39 i x)) :=
  ⟨fun _ _ => rfl, fun _ _ => rfl, fun _ _ _ => rfl, fun _ _ _ _ => zV_put ⟨by decide, by decide⟩ rfl⟩
theorem zc40 : (∀ (h : zH) (D : zD), zk (zV h D) 40 = 20) ∧ (∀ (h : zH) (D : zD), zl (zV h D) 40 = 12) ∧ (∀ (h : zH) (D : zD) (i : Nat), zm (zV h D) 40 i = .int (Int32.ofInt (D 40 i))) ∧ (∀ (h : zH) (D : zD) (i : Nat) (x : Int), zput (zV h D) 40 i (.int (Int32.ofInt x)) = zV h (zwr D 40 i x)) :=
  ⟨fun _ _ => rfl, fun _ _ => rfl, fun _ _ _ => rfl, fun _ _ _ _ => zV_put ⟨by decide, by decide⟩ rfl⟩
theorem zc41 : (∀ (h : zH) (D : zD), zk (zV h D) 41 = 20) ∧ (∀ (h : zH) (D : zD), zl (zV h D) 41 = 12) ∧ (∀ (h : zH) (D : zD) (i : Nat), zm (zV h D) 41 i = .int (Int32.ofInt (D 41 i))) ∧ (∀ (h : zH) (D : zD) (i : Nat) (x : Int), zput (zV h D) 41 i (.int (Int32.ofInt x)) = zV h (zwr D 41 i x)) :=
  ⟨fun _ _ => rfl, fun _ _ => rfl, fun _ _ _ => rfl, fun _ _ _ _ => zV_put ⟨by decide, by decide⟩ rfl⟩
theorem zc42 : (∀ (h : zH) (D : zD), zk (zV h D) 42 = 20) ∧ (∀ (h : zH) (D : zD), zl (zV h D) 42 = 12) ∧ (∀ (h : zH) (D : zD) (i : Nat), zm (zV h D) 42 i = .int (Int32.ofInt (D 42 i))) ∧ (∀ (h : zH) (D : zD) (i : Nat) (x : Int), zput (zV h D) 42 i (.int (Int32.ofInt x)) = zV h (zwr D 42 i x)) :=
  ⟨fun _ _ => rfl, fun _ _ => rfl, fun _ _ _ => rfl, fun _ _ _ _ => zV_put ⟨by decide, by decide⟩ rfl⟩
theorem zc43 : (∀ (h : zH) (D : zD), zk (zV h D) 43 = 22) ∧ (∀ (h : zH) (D : zD), zl (zV h D) 43 = 12) ∧ (∀ (h : zH) (D : zD) (i : Nat), zm (zV h D) 43 i = .int (Int32.ofInt (D 43 i))) ∧ (∀ (h : zH) (D : zD) (i : Nat) (x : Int), zput (zV h D) 43 i (.int (Int32.ofInt x)) = zV h (zwr D 43 i x)) :=
  ⟨fun _ _ => rfl, fun _ _ => rfl, fun _ _ _ => rfl, fun _ _ _ _ => zV_put ⟨by decide, by decide⟩ rfl⟩
theorem zc44 : (∀ (h : zH) (D : zD), zk (zV h D) 44 = 28) ∧ (∀ (h : zH) (D : zD), zl (zV h D) 44 = 12) :=
  ⟨fun _ _ => rfl, fun _ _ => rfl⟩
theorem zc45 : (∀ (h : zH) (D : zD), zk (zV h D) 45 = 20) ∧ (∀ (h : zH) (D : zD), zl (zV h D) 45 = 9) ∧ (∀ (h : zH) (D : zD) (i : Nat), zm (zV h D) 45 i = .int (Int32.ofInt (D 45 i))) ∧ (∀ (h : zH) (D : zD) (i : Nat) (x : Int), zput (zV h D) 45 i (.int (Int32.ofInt x)) = zV h (zwr D 45 i x)) :=
  ⟨fun _ _ => rfl, fun _ _ => rfl, fun _ _ _ => rfl, fun _ _ _ _ => zV_put ⟨by decide, by decide⟩ rfl⟩
theorem zc46 : (∀ (h : zH) (D : zD), zk (zV h D) 46 = 20) ∧ (∀ (h : zH) (D : zD), zl (zV h D) 46 = 9) ∧ (∀ (h : zH) (D : zD) (i : Nat), zm (zV h D) 46 i = .int (Int32.ofInt (D 46 i))) ∧ (∀ (h : zH) (D : zD) (i : Nat) (x : Int), zput (zV h D) 46 i (.int (Int32.ofInt x)) = zV h (zwr D 46 i x)) :=
  ⟨fun _ _ => rfl, fun _ _ => rfl, fun _ _ _ => rfl, fun _ _ _ _ => zV_put ⟨by decide, by decide⟩ rfl⟩
theorem zc47 : (∀ (h : zH) (D : zD), zk (zV h D) 47 = 20) ∧ (∀ (h : zH) (D : zD), zl (zV h D) 47 = 9) ∧ (∀ (h : zH) (D : zD) (i : Nat), zm (zV h D) 47 i = .int (Int32.ofInt (D 47 i))) ∧ (∀ (h : zH) (D : zD) (i : Nat) (x : Int), zput (zV h D) 47 i (.int (Int32.ofInt x)) = zV h (zwr D 47 i x)) :=
  ⟨fun _ _ => rfl, fun _ _ => rfl, fun _ _ _ => rfl, fun _ _ _ _ => zV_put ⟨by decide, by decide⟩ rfl⟩
theorem zc48 : (∀ (h : zH) (D : zD), zk (zV h D) 48 = 20) ∧ (∀ (h : zH) (D : zD), zl (zV h D) 48 = 9) ∧ (∀ (h : zH) (D : zD) (i : Nat), zm (zV h D) 48 i = .int (Int32.ofInt (D 48 i))) ∧ (∀ (h : zH) (D : zD) (i : Nat) (x : Int), zput (zV h D) 48 i (.int (Int32.ofInt x)) = zV h (zwr D 48 i x)) :=
  ⟨fun _ _ => rfl, fun _ _ => rfl, fun _ _ _ => rfl, fun _ _ _ _ => zV_put ⟨by decide, by decide⟩ rfl⟩
theorem zc49 : (∀ (h : zH) (D : zD), zk (zV h D) 49 = 20) ∧ (∀ (h : zH) (D : zD), zl (zV h D) 49 = 9) ∧ (∀ (h : zH) (D : zD) (i : Nat), zm (zV h D) 49 i = .int (Int32.ofInt (D 49 i))) ∧ (∀ (h : zH) (D : zD) (i : Nat) (x : Int), zput (zV h D) 49 i (.int (Int32.ofInt x)) = zV h (zwr D 49 i x)) :=
  ⟨fun _ _ => rfl, fun _ _ => rfl, fun _ _ _ => rfl, fun _ _ _ _ => zV_put ⟨by decide, by decide⟩ rfl⟩
theorem zc50 : (∀ (h : zH) (D : zD), zk (zV h D) 50 = 20) ∧ (∀ (h : zH) (D : zD), zl (zV h D) 50 = 9) ∧ (∀ (h : zH) (D : zD) (i : Nat), zm (zV h D) 50 i = .int (Int32.ofInt (D 50 i))) ∧ (∀ (h : zH) (D : zD) (i : Nat) (x : Int), zput (zV h D) 50 i (.int (Int32.ofInt x)) = zV h (zwr D 50 i x)) :=
  ⟨fun _ _ => rfl, fun _ _ => rfl, fun _ _ _ => rfl, fun _ _ _ _ => zV_put ⟨by decide, by decide⟩ rfl⟩
theorem zc51 : (∀ (h : zH) (D : zD), zk (zV h D) 51 = 20) ∧ (∀ (h : zH) (D : zD), zl (zV h D) 51 = 9) ∧ (∀ (h : zH) (D : zD) (i : Nat), zm (zV h D) 51 i = .int (Int32.ofInt (D 51 i))) ∧ (∀ (h : zH) (D : zD) (i : Nat) (x : Int), zput (zV h D) 51 i (.int (Int32.ofInt x)) = zV h (zwr D 51 i x)) :=
  ⟨fun _ _ => rfl, fun _ _ => rfl, fun _ _ _ => rfl, fun _ _ _ _ => zV_put ⟨by decide, by decide⟩ rfl⟩
theorem zc52 : (∀ (h : zH) (D : zD), zk (zV h D) 52 = 20) ∧ (∀ (h : zH) (D : zD), zl (zV h D) 52 = 9) ∧ (∀ (h : zH) (D : zD) (i : Nat), zm (zV h D) 52 i = .int (Int32.ofInt (D 52 i))) ∧ (∀ (h : zH) (D : zD) (i : Nat) (x : Int), zput (zV h D) 52 i (.int (Int32.ofInt x)) = zV h (zwr D 52 i x)) :=
  ⟨fun _ _ => rfl, fun _ _ => rfl, fun _ _ _ => rfl, fun _ _ _ _ => zV_put ⟨by decide, by decide⟩ rfl⟩
theorem zc53 : (∀ (h : zH) (D : zD), zk (zV h D) 53 = 20) ∧ (∀ (h : zH) (D : zD), zl (zV h D) 53 = 9) ∧ (∀ (h : zH) (D : zD) (i : Nat), zm (zV h D) 53 i = .int (Int32.ofInt (D 53 i))) ∧ (∀ (h : zH) (D : zD) (i : Nat) (x : Int), zput (zV h D) 53 i (.int (Int32.ofInt x)) = zV h (zwr D 53 i x)) :=
  ⟨fun _ _ => rfl, fun _ _ => rfl, fun _ _ _ => rfl, fun _ _ _ _ => zV_put ⟨by decide, by decide⟩ rfl⟩
theorem zc54 : (∀ (h : zH) (D : zD), zk (zV h D) 54 = 20) ∧ (∀ (h : zH) (D : zD), zl (zV h D) 54 = 9) ∧ (∀ (h : zH) (D : zD) (i : Nat), zm (zV h D) 54 i = .int (Int32.ofInt (D 54 i))) ∧ (∀ (h : zH) (D : zD) (i : Nat) (x : Int), zput (zV h D) 54 i (.int (Int32.ofInt x)) = zV h (zwr D 54 i x)) :=
  ⟨fun _ _ => rfl, fun _ _ => rfl, fun _ _ _ => rfl, fun _ _ _ _ => zV_put ⟨by decide, by decide⟩ rfl⟩
theorem zc55 : (∀ (h : zH) (D : zD), zk (zV h D) 55 = 20) ∧ (∀ (h : zH) (D : zD), zl (zV h D) 55 = 9) ∧ (∀ (h : zH) (D : zD) (i : Nat), zm (zV h D) 55 i = .int (Int32.ofInt (D 55 i))) ∧ (∀ (h : zH) (D : zD) (i : Nat) (x : Int), zput (zV h D) 55 i (.int (Int32.ofInt x)) = zV h (zwr D 55 i x)) :=
  ⟨fun _ _ => rfl, fun _ _ => rfl, fun _ _ _ => rfl, fun _ _ _ _ => zV_put ⟨by decide, by decide⟩ rfl⟩
theorem zc56 : (∀ (h : zH) (D : zD), zk (zV h D) 56 = 20) ∧ (∀ (h : zH) (D : zD), zl (zV h D) 56 = 9) ∧ (∀ (h : zH) (D : zD) (i : Nat), zm (zV h D) 56 i = .int (Int32.ofInt (D 56 i))) ∧ (∀ (h : zH) (D : zD) (i : Nat) (x : Int), zput (zV h D) 56 i (.int (Int32.ofInt x)) = zV h (zwr D 56 i x)) :=
  ⟨fun _ _ => rfl, fun _ _ => rfl, fun _ _ _ => rfl, fun _ _ _ _ => zV_put ⟨by decide, by decide⟩ rfl⟩
theorem zc57 : (∀ (h : zH) (D : zD), zk (zV h D) 57 = 20) ∧ (∀ (h : zH) (D : zD), zl (zV h D) 57 = 12) ∧ (∀ (h : zH) (D : zD) (i : Nat), zm (zV h D) 57 i = .int (Int32.ofInt (D 57 i))) ∧ (∀ (h : zH) (D : zD) (i : Nat) (x : Int), zput (zV h D) 57 i (.int (Int32.ofInt x)) = zV h (zwr D 57 i x)) :=
  ⟨fun _ _ => rfl, fun _ _ => rfl, fun _ _ _ => rfl, fun _ _ _ _ => zV_put ⟨by decide, by decide⟩ rfl⟩
theorem zc58 : (∀ (h : zH) (D : zD), zk (zV h D) 58 = 20) ∧ (∀ (h : zH) (D : zD), zl (zV h D) 58 = 128) ∧ (∀ (h : zH) (D : zD) (i : Nat), zm (zV h D) 58 i = .int (Int32.ofInt (D 58 i))) ∧ (∀ (h : zH) (D : zD) (i : Nat) (x : Int), zput (zV h D) 58 i (.int (Int32.ofInt x)) = zV h (zwr D 58 i x)) :=
  ⟨fun _ _ => rfl, fun _ _ => rfl, fun _ _ _ => rfl, fun _ _ _ _ => zV_put ⟨by decide, by decide⟩ rfl⟩
theorem zc59 : (∀ (h : zH) (D : zD), zk (zV h D) 59 = 20) ∧ (∀ (h : zH) (D : zD), zl (zV h D) 59 = 128) ∧ (∀ (h : zH) (D : zD) (i : Nat), zm (zV h D) 59 i = .int (Int32.ofInt (D 59 i))) ∧ (∀ (h : zH) (D : zD) (i : Nat) (x : Int), zput (zV h D) 59 i (.int (Int32.ofInt x)) = zV h (zwr D 59 i x)) :=
  ⟨fun _ _ => rfl, fun _ _ => rfl, fun _ _ _ => rfl, fun _ _ _ _ => zV_put ⟨by decide, by decide⟩ rfl⟩
theorem zc60 : (∀ (h : zH) (D : zD), zk (zV h D) 60 = 20) ∧ (∀ (h : zH) (D : zD), zl (zV h D) 60 = 128) ∧ (∀ (h : zH) (D : zD) (i : Nat), zm (zV h D) 60 i = .int (Int32.ofInt (D 60 i))) ∧ (∀ (h : zH) (D : zD) (i : Nat) (x : Int), zput (zV h D) 60 i (.int (Int32.ofInt x)) = zV h (zwr D 60 i x)) :=
  ⟨fun _ _ => rfl, fun _ _ => rfl, fun _ _ _ => rfl, fun _ _ _ _ => zV_put ⟨by decide, by decide⟩ rfl⟩
theorem zc61 : (∀ (h : zH) (D : zD), zk (zV h D) 61 = 20) ∧ (∀ (h : zH) (D : zD), zl (zV h D) 61 = 128) ∧ (∀ (h : zH) (D : zD) (i : Nat), zm (zV h D) 61 i = .int (Int32.ofInt (D 61 i))) ∧ (∀ (h : zH) (D : zD) (i : Nat) (x : Int), zput (zV h D) 61 i (.int (Int32.ofInt x)) = zV h (zwr D 61 i x)) :=
  ⟨fun _ _ => rfl, fun _ _ => rfl, fun _ _ _ => rfl, fun _ _ _ _ => zV_put ⟨by decide, by decide⟩ rfl⟩
theorem zc62 : (∀ (h : zH) (D : zD), zk (zV h D) 62 = 23) ∧ (∀ (h : zH) (D : zD), zl (zV h D) 62 = 12) ∧ (∀ (h : zH) (D : zD) (i : Nat), zm (zV h D) 62 i = .int (Int32.ofInt (D 62 i))) ∧ (∀ (h : zH) (D : zD) (i : Nat) (x : Int), zput (zV h D) 62 i (.int (Int32.ofInt x)) = zV h (zwr D 62 i x)) :=
  ⟨fun _ _ => rfl, fun _ _ => rfl, fun _ _ _ => rfl, fun _ _ _ _ => zV_put ⟨by decide, by decide⟩ rfl⟩
theorem zc63 : (∀ (h : zH) (D : zD), zk (zV h D) 63 = 23) ∧ (∀ (h : zH) (D : zD), zl (zV h D) 63 = 12) ∧ (∀ (h : zH) (D : zD) (i : Nat), zm (zV h D) 63 i = .int (Int32.ofInt (D 63 i))) ∧ (∀ (h : zH) (D : zD) (i : Nat) (x : Int), zput (zV h D) 63 i (.int (Int32.ofInt x)) = zV h (zwr D 63 i x)) :=
  ⟨fun _ _ => rfl, fun _ _ => rfl, fun _ _ _ => rfl, fun _ _ _ _ => zV_put ⟨by decide, by decide⟩ rfl⟩
theorem zc64 : (∀ (h : zH) (D : zD), zk (zV h D) 64 = 23) ∧ (∀ (h : zH) (D : zD), zl (zV h D) 64 = 12) ∧ (∀ (h : zH) (D : zD) (i : Nat), zm (zV h D) 64 i = .int (Int32.ofInt (D 64 i))) ∧ (∀ (h : zH) (D : zD) (i : Nat) (x : Int), zput (zV h D) 64 i (.int (Int32.ofInt x)) = zV h (zwr D 64 i x)) :=
  ⟨fun _ _ => rfl, fun _ _ => rfl, fun _ _ _ => rfl, fun _ _ _ _ => zV_put ⟨by decide, by decide⟩ rfl⟩
theorem zc65 : (∀ (h : zH) (D : zD), zk (zV h D) 65 = 20) ∧ (∀ (h : zH) (D : zD), zl (zV h D) 65 = 12) ∧ (∀ (h : zH) (D : zD) (i : Nat), zm (zV h D) 65 i = .int (Int32.ofInt (D 65 i))) ∧ (∀ (h : zH) (D : zD) (i : Nat) (x : Int), zput (zV h D) 65 i (.int (Int32.ofInt x)) = zV h (zwr D 65 i x)) :=
  ⟨fun _ _ => rfl, fun _ _ => rfl, fun _ _ _ => rfl, fun _ _ _ _ => zV_put ⟨by decide, by decide⟩ rfl⟩
theorem zc66 : (∀ (h : zH) (D : zD), zk (zV h D) 66 = 20) ∧ (∀ (h : zH) (D : zD), zl (zV h D) 66 = 128) ∧ (∀ (h : zH) (D : zD) (i : Nat), zm (zV h D) 66 i = .int (Int32.ofInt (D 66 i))) ∧ (∀ (h : zH) (D : zD) (i : Nat) (x : Int), zput (zV h D) 66 i (.int (Int32.ofInt x)) = zV h (zwr D 66 i x)) :=
  ⟨fun _ _ => rfl, fun _ _ => rfl, fun _ _ _ => rfl, fun _ _ _ _ => zV_put ⟨by decide, by decide⟩ rfl⟩
theorem zc67 : (∀ (h : zH) (D : zD), zk (zV h D) 67 = 20) ∧ (∀ (h : zH) (D : zD), zl (zV h D) 67 = 128) ∧ (∀ (h : zH) (D : zD) (i : Nat), zm (zV h D) 67 i = .int (Int32.ofInt (D 67 i))) ∧ (∀ (h : zH) (D : zD) (i : Nat) (x : Int), zput (zV h D) 67 i (.int (Int32.ofInt x)) = zV h (zwr D 67 i x)) :=
  ⟨fun _ _ => rfl, fun _ _ => rfl, fun _ _ _ => rfl, fun _ _ _ _ => zV_put ⟨by decide, by decide⟩ rfl⟩
theorem zc68 : (∀ (h : zH) (D : zD), zk (zV h D) 68 = 24) ∧ (∀ (h : zH) (D : zD), zl (zV h D) 68 = 1) ∧ (∀ (h : zH) (D : zD) (i : Nat), zm (zV h D) 68 i = .long (Int64.ofInt (D 68 i))) ∧ (∀ (h : zH) (D : zD) (i : Nat) (x : Int), zput (zV h D) 68 i (.long (Int64.ofInt x)) = zV h (zwr D 68 i x)) :=
  ⟨fun _ _ => rfl, fun _ _ => rfl, fun _ _ _ => rfl, fun _ _ _ _ => zV_put ⟨by decide, by decide⟩ rfl⟩
theorem zc69 : (∀ (h : zH) (D : zD), zk (zV h D) 69 = 25) ∧ (∀ (h : zH) (D : zD), zl (zV h D) 69 = 1) ∧ (∀ (h : zH) (D : zD) (i : Nat), zm (zV h D) 69 i = .double (UInt64.ofNat ((D 69 i)).toNat)) ∧ (∀ (h : zH) (D : zD) (i : Nat) (x : UInt64), zput (zV h D) 69 i (.double x) = zV h (zwr D 69 i x.toNat)) :=
  ⟨fun _ _ => rfl, fun _ _ => rfl, fun _ _ _ => rfl, fun _ _ _ x => zV_put ⟨by decide, by decide⟩ (by show Value.double x = .double (UInt64.ofNat ((x.toNat : Int).toNat)); simp)⟩
theorem zc18r {h : zH} {D : zD} {i : Nat} (hi : i < 9) : zm (zV h D) 18 i = .ref (19 + i) := by
  rw [(zV_in (h := h) (D := D) (a := 18) (by omega) i).2.2]
  have : zst 18 i = 119 + i := by
    show (if i < 9 then 119 + i else 7) = _
    rw [if_pos hi]
  rw [this]
  unfold zenc
  rw [if_pos (by omega), show 119 + i - 100 = 19 + i by omega]
theorem zc44r {h : zH} {D : zD} {i : Nat} (hi : i < 12) : zm (zV h D) 44 i = .ref (45 + i) := by
  rw [(zV_in (h := h) (D := D) (a := 44) (by omega) i).2.2]
  have : zst 44 i = 145 + i := by
    show (if i < 12 then 145 + i else 7) = _
    rw [if_pos hi]
  rw [this]
  unfold zenc
  rw [if_pos (by omega), show 145 + i - 100 = 45 + i by omega]
theorem zcR_k {h : zH} {D : zD} {e : Nat} (he : e < 12) : zk (zV h D) (45 + e) = 20 := by
  rw [(zV_in (h := h) (D := D) (a := 45 + e) (by omega) 0).1]
  exact if_pos (by omega)
theorem zcR_l {h : zH} {D : zD} {e : Nat} (he : e < 12) : zl (zV h D) (45 + e) = 9 := by
  rw [(zV_in (h := h) (D := D) (a := 45 + e) (by omega) 0).2.1]
  exact if_pos (by omega)
theorem zcR_m {h : zH} {D : zD} {e i : Nat} (he : e < 12) : zm (zV h D) (45 + e) i = .int (Int32.ofInt (D (45 + e) i)) := by
  rw [(zV_in (h := h) (D := D) (a := 45 + e) (by omega) i).2.2]
  have : zst (45 + e) i = 0 := if_pos (by omega)
  rw [this]
  rfl
theorem zcR_p {h : zH} {D : zD} {e i : Nat} {x : Int} (he : e < 12) : zput (zV h D) (45 + e) i (.int (Int32.ofInt x)) = zV h (zwr D (45 + e) i x) := by
  refine zV_put (by omega) ?_
  have : zst (45 + e) i = 0 := if_pos (by omega)
  rw [this]
  rfl
theorem zcF_k {h : zH} {D : zD} {e : Nat} (he : e < 9) : zk (zV h D) (19 + e) = 21 := by
  rw [(zV_in (h := h) (D := D) (a := 19 + e) (by omega) 0).1]
  unfold zsk
  rw [if_neg (by omega), if_pos (by omega)]
theorem zcF_l {h : zH} {D : zD} {e : Nat} (he : e < 9) : zl (zV h D) (19 + e) = 3601 := by
  rw [(zV_in (h := h) (D := D) (a := 19 + e) (by omega) 0).2.1]
  unfold zsl
  rw [if_neg (by omega), if_pos (by omega)]
theorem zcF_m {h : zH} {D : zD} {e i : Nat} (he : e < 9) : zm (zV h D) (19 + e) i = .int (Int32.ofInt (D (19 + e) i)) := by
  rw [(zV_in (h := h) (D := D) (a := 19 + e) (by omega) i).2.2]
  have : zst (19 + e) i = 2 := by
    unfold zst
    rw [if_neg (by omega), if_pos (by omega)]
  rw [this]
  rfl
theorem zcF_p {h : zH} {D : zD} {e i : Nat} {x : Int} (he : e < 9) : zput (zV h D) (19 + e) i (.int (Int32.ofInt x)) = zV h (zwr D (19 + e) i x) := by
  refine zV_put (by omega) ?_
  have : zst (19 + e) i = 2 := by
    unfold zst
    rw [if_neg (by omega), if_pos (by omega)]
  rw [this]
  rfl

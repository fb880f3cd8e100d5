/-! rows for running methods by rewriting -/
def zb (p : Prop) [Decidable p] : Int := if p then 1 else 0
theorem zb_t {p : Prop} [Decidable p] (h : p) : zb p = 1 := if_pos h
theorem zb_f {p : Prop} [Decidable p] (h : ¬ p) : zb p = 0 := if_neg h
theorem zb_r (p : Prop) [Decidable p] : -2147483648 ≤ zb p ∧ zb p < 2147483648 := by
  unfold zb
  split <;> omega
theorem zb_0 (p : Prop) [Decidable p] : (zb p = 0) = ¬ p := by
  unfold zb
  split <;> simp_all
theorem zb_1 (p : Prop) [Decidable p] : (zb p = 1) = p := by
  unfold zb
  split <;> simp_all
theorem zb_v (p : Prop) [Decidable p] : zb p = 0 ∨ zb p = 1 := by
  unfold zb
  split <;> simp
theorem zb_i (p : Prop) [Decidable p] : (Int32.ofInt (zb p)).toInt = zb p := iI_t (zb_r p)
theorem zrt_i {x : Int32} {h : zH} : zret 0 [.int x] h = some (.inl (some (.int x)), h) := by simp [zret, zfit]
theorem zrt_b {x : Int} {h : zH} (hx : x = 0 ∨ x = 1) : zret 1 [.int (Int32.ofInt x)] h = some (.inl (some (.int (Int32.ofInt x))), h) := by
  rcases hx with rfl | rfl <;> simp [zret, zfit]
theorem zrt_zb {p : Prop} [Decidable p] {h : zH} : zret 1 [.int (Int32.ofInt (zb p))] h = some (.inl (some (.int (Int32.ofInt (zb p)))), h) := zrt_b (zb_v p)
theorem zrt_c {x : Int} {h : zH} (hx : 0 ≤ x ∧ x ≤ 65535) : zret 3 [.int (Int32.ofInt x)] h = some (.inl (some (.int (Int32.ofInt x))), h) := by
  have : (Int32.ofInt x).toInt = x := iI_t (by omega)
  simp [zret, zfit, this, hx.1, hx.2]
theorem zrt_l {x : Int64} {h : zH} : zret 4 [.long x] h = some (.inl (some (.long x)), h) := by simp [zret, zfit]
theorem zrt_f {x : UInt32} {h : zH} : zret 5 [.float x] h = some (.inl (some (.float x)), h) := by simp [zret, zfit]
theorem zrt_r {x : Nat} {h : zH} : zret 7 [.ref x] h = some (.inl (some (.ref x)), h) := by simp [zret, zfit]
theorem zrt_n {h : zH} : zret 7 [.null] h = some (.inl (some .null), h) := by simp [zret, zfit]
theorem zrt_v {h : zH} : zret 8 [] h = some (.inl none, h) := by simp [zret]
theorem zft_0 {x : Int32} : zfit 0 (.int x) = true := by simp [zfit]
theorem zft_1 {x : Int} (h : x = 0 ∨ x = 1) : zfit 1 (.int (Int32.ofInt x)) = true := by
  rcases h with rfl | rfl <;> simp [zfit]
theorem zft_zb {p : Prop} [Decidable p] : zfit 1 (.int (Int32.ofInt (zb p))) = true := zft_1 (zb_v p)
theorem zft_3 {x : Int} (h : 0 ≤ x ∧ x ≤ 65535) : zfit 3 (.int (Int32.ofInt x)) = true := by
  have : (Int32.ofInt x).toInt = x := iI_t (by omega)
  simp [zfit, this, h.1, h.2]
theorem zft_4 {x : Int64} : zfit 4 (.long x) = true := by simp [zfit]
theorem zft_5 {x : UInt32} : zfit 5 (.float x) = true := by simp [zfit]
theorem zft_7r {x : Nat} : zfit 7 (.ref x) = true := by simp [zfit]
theorem zft_7n : zfit 7 .null = true := by simp [zfit]
theorem zso_i {x : Int32} : zso (.int x) = 0 := rfl
theorem zso_l {x : Int64} : zso (.long x) = 1 := rfl
theorem zso_f {x : UInt32} : zso (.float x) = 2 := rfl
theorem zso_d {x : UInt64} : zso (.double x) = 3 := rfl
theorem zso_r {x : Nat} : zso (.ref x) = 4 := rfl
theorem zso_n : zso .null = 4 := rfl
theorem zc1_i {x : Int32} : zc1 (.int x) = true := rfl
theorem zc1_f {x : UInt32} : zc1 (.float x) = true := rfl
theorem zc1_r {x : Nat} : zc1 (.ref x) = true := rfl
theorem zc1_n : zc1 .null = true := rfl
theorem lst_0 {a : Option Value} {l : zL} {v : Value} : lst (a :: l) 0 v = some (some v :: l) := rfl
theorem lst_s {a : Option Value} {l : zL} {n : Nat} {v : Value} : lst (a :: l) (n + 1) v = if n = 0 ∧ lc2 a = true then none else (lst l n v).map (fun l' => a :: l') := rfl
theorem lst2_0 {a b : Option Value} {l : zL} {v : Value} : lst2 (a :: b :: l) 0 v = some (some v :: none :: l) := rfl
theorem lst2_s {a : Option Value} {l : zL} {n : Nat} {v : Value} : lst2 (a :: l) (n + 1) v = if n = 0 ∧ lc2 a = true then none else (lst2 l n v).map (fun l' => a :: l') := by
  cases l <;> rfl
theorem lc2_n : lc2 none = false := rfl
theorem lc2_i {x : Int32} : lc2 (some (.int x)) = false := rfl
theorem lc2_f {x : UInt32} : lc2 (some (.float x)) = false := rfl
theorem lc2_r {x : Nat} : lc2 (some (.ref x)) = false := rfl
theorem lc2_u : lc2 (some .null) = false := rfl
theorem lc2_l {x : Int64} : lc2 (some (.long x)) = true := rfl
/-- a place of an array, by a whole number -/
theorem zin_ok {h : zH} {kd a : Nat} {x : Int} {n : Nat} (hk : zk h a = kd) (hl : zl h a = n) (hx : 0 ≤ x ∧ x < n) (hn : n ≤ 2147483647) : zin h kd a (Int32.ofInt x) := by
  have : (Int32.ofInt x).toInt = x := iI_t (by omega)
  unfold zin
  rw [this, hl]
  exact ⟨hk, hx.1, hx.2⟩
/-- a loop, by its rounds -/
theorem zloop {k pc : Nat} (ls : Nat → zL) (h : Nat → zH) (n : Nat) (hs : ∀ i, i < n → zx k pc (ls i) [] (h i) = zx k pc (ls (i + 1)) [] (h (i + 1))) : ∀ m, m ≤ n → zx k pc (ls 0) [] (h 0) = zx k pc (ls m) [] (h m)
  | 0, _ => rfl
  | m + 1, hm => (zloop ls h n hs m (by omega)).trans (hs m (by omega))
/-- .. with a measure that falls -/
theorem zwhile {α : Type} (P : α → Prop) (F : α → Option (zR × zH)) (R : Option (zR × zH)) (μ : α → Nat) (hs : ∀ a, P a → F a = R ∨ ∃ b, P b ∧ μ b < μ a ∧ F a = F b) : ∀ n a, μ a ≤ n → P a → F a = R
  | 0, a, hn, hp => by
    rcases hs a hp with h | ⟨b, -, h2, -⟩
    · exact h
    · omega
  | n + 1, a, hn, hp => by
    rcases hs a hp with h | ⟨b, h1, h2, h3⟩
    · exact h
    · rw [h3]
      exact zwhile P F R μ hs n b (by omega) h1
theorem zk_new {h : zH} {k n b : Nat} {f : Nat → Value} : zk (znew h k n f) b = if b = zn h then k else zk h b := rfl
theorem zl_new {h : zH} {k n b : Nat} {f : Nat → Value} : zl (znew h k n f) b = if b = zn h then n else zl h b := rfl
theorem zm_new {h : zH} {k n b j : Nat} {f : Nat → Value} : zm (znew h k n f) b j = if b = zn h then f j else zm h b j := rfl
theorem zn_new {h : zH} {k n : Nat} {f : Nat → Value} : zn (znew h k n f) = zn h + 1 := rfl
theorem zuc_nw {h : zH} {k n : Nat} {f : Nat → Value} : zuc (znew h k n f) = zuc h + 1 := rfl
theorem zus_nw {h : zH} {k n : Nat} {f : Nat → Value} : zus (znew h k n f) = zus h + n := rfl
theorem zk_fil {h : zH} {a b : Nat} {f : Nat → Value} : zk (zfil h a f) b = zk h b := rfl
theorem zl_fil {h : zH} {a b : Nat} {f : Nat → Value} : zl (zfil h a f) b = zl h b := rfl
theorem zm_fil {h : zH} {a b j : Nat} {f : Nat → Value} : zm (zfil h a f) b j = if b = a then f j else zm h b j := rfl
theorem zn_fil {h : zH} {a : Nat} {f : Nat → Value} : zn (zfil h a f) = zn h := rfl
theorem zuc_fil {h : zH} {a : Nat} {f : Nat → Value} : zuc (zfil h a f) = zuc h := rfl
theorem zus_fil {h : zH} {a : Nat} {f : Nat → Value} : zus (zfil h a f) = zus h := rfl
theorem zput_fil {h : zH} {a i : Nat} {f : Nat → Value} {v : Value} : zput (zfil h a f) a i v = zfil h a (fun j => if j = i then v else f j) := by
  unfold zput zfil
  refine Prod.ext rfl (Prod.ext rfl (Prod.ext rfl ?_))
  funext b j
  dsimp only
  by_cases hb : b = a <;> by_cases hj : j = i <;> simp [hb, hj]
theorem zfil_id {h : zH} {a : Nat} : zfil h a (zm h a) = h := by
  unfold zfil
  refine Prod.ext rfl (Prod.ext rfl (Prod.ext rfl ?_))
  funext b j
  by_cases hb : b = a
  · subst hb
    simp
    rfl
  · simp [hb]
theorem zk_chg {h : zH} {c n b : Nat} : zk (zchg h c n) b = zk h b := rfl
theorem zl_chg {h : zH} {c n b : Nat} : zl (zchg h c n) b = zl h b := rfl
theorem zm_chg {h : zH} {c n b j : Nat} : zm (zchg h c n) b j = zm h b j := rfl
theorem zn_chg {h : zH} {c n : Nat} : zn (zchg h c n) = zn h := rfl
theorem zuc_chg {h : zH} {c n : Nat} : zuc (zchg h c n) = zuc h + c := rfl
theorem zus_chg {h : zH} {c n : Nat} : zus (zchg h c n) = zus h + n := rfl
/-- what was there is as it was; at most so many cells and slots more -/
def zExt (h h' : zH) (c s : Nat) : Prop := zn h ≤ zn h' ∧ (zuc h ≤ zuc h' ∧ zuc h' ≤ zuc h + c) ∧ (zus h ≤ zus h' ∧ zus h' ≤ zus h + s) ∧ ∀ a, a < zn h → zk h' a = zk h a ∧ zl h' a = zl h a ∧ ∀ i, zm h' a i = zm h a i
theorem zExt.rf {h : zH} : zExt h h 0 0 := ⟨Nat.le_refl _, ⟨Nat.le_refl _, Nat.le_refl _⟩, ⟨Nat.le_refl _, Nat.le_refl _⟩, fun _ _ => ⟨rfl, rfl, fun _ => rfl⟩⟩
theorem zExt.tr {h h1 h2 : zH} {c1 s1 c2 s2 : Nat} (a : zExt h h1 c1 s1) (b : zExt h1 h2 c2 s2) : zExt h h2 (c1 + c2) (s1 + s2) := by
  obtain ⟨a1, a2, a3, a4⟩ := a
  obtain ⟨b1, b2, b3, b4⟩ := b
  refine ⟨by omega, by omega, by omega, fun x hx => ?_⟩
  obtain ⟨p1, p2, p3⟩ := a4 x hx
  obtain ⟨q1, q2, q3⟩ := b4 x (by omega)
  exact ⟨q1.trans p1, q2.trans p2, fun i => (q3 i).trans (p3 i)⟩
theorem zExt.chg {h : zH} {c n : Nat} : zExt h (zchg h c n) c n := ⟨Nat.le_refl _, ⟨Nat.le_add_right _ _, Nat.le_refl _⟩, ⟨Nat.le_add_right _ _, Nat.le_refl _⟩, fun _ _ => ⟨rfl, rfl, fun _ => rfl⟩⟩
theorem zExt.new {h : zH} {k n : Nat} {f : Nat → Value} : zExt h (znew h k n f) 1 n := ⟨Nat.le_succ _, ⟨Nat.le_add_right _ _, Nat.le_refl _⟩, ⟨Nat.le_add_right _ _, Nat.le_refl _⟩, fun a ha => by
  refine ⟨?_, ?_, fun i => ?_⟩
  · rw [zk_new, if_neg (by omega)]
  · rw [zl_new, if_neg (by omega)]
  · rw [zm_new, if_neg (by omega)]⟩
theorem zExt.put {h h' : zH} {c s a i : Nat} {v : Value} (e : zExt h h' c s) (ha : zn h ≤ a) : zExt h (zput h' a i v) c s := by
  obtain ⟨a1, a2, a3, a4⟩ := e
  refine ⟨a1, a2, a3, fun x hx => ?_⟩
  obtain ⟨p1, p2, p3⟩ := a4 x hx
  refine ⟨p1, p2, fun i => ?_⟩
  rw [zm_put_a (by omega)]
  exact p3 i
theorem zExt.fil {h h' : zH} {c s a : Nat} {f : Nat → Value} (e : zExt h h' c s) (ha : zn h ≤ a) : zExt h (zfil h' a f) c s := by
  obtain ⟨a1, a2, a3, a4⟩ := e
  refine ⟨a1, a2, a3, fun x hx => ?_⟩
  obtain ⟨p1, p2, p3⟩ := a4 x hx
  refine ⟨p1, p2, fun i => ?_⟩
  rw [zm_fil, if_neg (by omega)]
  exact p3 i
theorem zrc {h : zH} {a r : Nat} {as : List Value} : (zrcv (r + 1) (.ref a :: as) h = true) = (r = 99 ∨ zk h a = r) := by
  simp [zrcv]
theorem zs_ia {k nx tg : Nat} {aux : List Nat} {ls : zL} {st : zS} {h : zH} {i : Int32} {a : Nat} (ha : a ≠ 0) : zgo k (zpure .iaload nx tg aux ls (.int i :: .ref a :: st) h) = zgo k (zald 20 0 nx ls (.int i :: .ref a :: st) h) := by
  cases a with
  | zero => exact absurd rfl ha
  | succ a => rfl
theorem zs_i0 {k nx tg : Nat} {aux : List Nat} {ls : zL} {st : zS} {h : zH} {i : Int32} : zgo k (zpure .iaload nx tg aux ls (.int i :: .ref 0 :: st) h) = if 0 ≤ i.toInt ∧ i.toInt < zl h 0 then (if zso (zm h 0 i.toInt.toNat) = 0 then zx k nx ls (zm h 0 i.toInt.toNat :: st) h else none) else none := by
  simp only [zpure, zgo_if, zgo_some, zgo_none]
theorem zcs (i : Nat) : ((i + 1 : Nat) : Int) = (i : Int) + 1 := rfl
theorem zg_ii {k nx tg n : Nat} {c : Int} {aux : List Nat} {ls : zL} {st : zS} {h : zH} : zgo k (zpure (.iinc n c) nx tg aux ls st h) = (match lget ls n with
    | some (.int x) => (match lst ls n (.int (x + Int32.ofInt c)) with
      | some l => zx k nx l st h
      | none => none)
    | _ => none) := by
  simp only [zpure]
  cases hg : lget ls n with
  | none => rfl
  | some v =>
    cases v with
    | int x =>
      simp only []
      cases lst ls n (.int (x + Int32.ofInt c)) <;> rfl
    | _ => rfl
theorem zi_max {k nx : Nat} {ls : zL} {st : zS} {h : zH} {a b : Int} (ha : -2147483648 ≤ a ∧ a < 2147483648) (hb : -2147483648 ≤ b ∧ b < 2147483648) : zgo k (zint [1] nx ls (.int (Int32.ofInt b) :: .int (Int32.ofInt a) :: st) h) = if st.length ≤ 4 then zx k nx ls (.int (Int32.ofInt (max a b)) :: st) h else none := by
  have e : (if (Int32.ofInt a).toInt < (Int32.ofInt b).toInt then Int32.ofInt b else Int32.ofInt a) = Int32.ofInt (max a b) := by
    rw [iI_t ha, iI_t hb]
    by_cases g : a < b
    · rw [if_pos g, Int.max_eq_right (by omega)]
    · rw [if_neg g, Int.max_eq_left (by omega)]
  simp only [zint, e, zgo_if, zgo_some, zgo_none]
theorem zi_min {k nx : Nat} {ls : zL} {st : zS} {h : zH} {a b : Int} (ha : -2147483648 ≤ a ∧ a < 2147483648) (hb : -2147483648 ≤ b ∧ b < 2147483648) : zgo k (zint [2] nx ls (.int (Int32.ofInt b) :: .int (Int32.ofInt a) :: st) h) = if st.length ≤ 4 then zx k nx ls (.int (Int32.ofInt (min a b)) :: st) h else none := by
  have e : (if (Int32.ofInt a).toInt < (Int32.ofInt b).toInt then Int32.ofInt a else Int32.ofInt b) = Int32.ofInt (min a b) := by
    rw [iI_t ha, iI_t hb]
    by_cases g : a < b
    · rw [if_pos g, Int.min_eq_left (by omega)]
    · rw [if_neg g, Int.min_eq_right (by omega)]
  simp only [zint, e, zgo_if, zgo_some, zgo_none]
theorem zi_abi {k nx : Nat} {ls : zL} {st : zS} {h : zH} {a : Int} (ha : -2147483648 < a ∧ a < 2147483648) : zgo k (zint [3] nx ls (.int (Int32.ofInt a) :: st) h) = if st.length ≤ 4 then zx k nx ls (.int (Int32.ofInt (a.natAbs : Int)) :: st) h else none := by
  have e : (if (Int32.ofInt a).toInt < 0 then 0 - Int32.ofInt a else Int32.ofInt a) = Int32.ofInt (a.natAbs : Int) := by
    rw [iI_t (by omega)]
    by_cases g : a < 0
    · rw [if_pos g, show (a.natAbs : Int) = 0 - a by omega, Int32.ofInt_sub]
      rfl
    · rw [if_neg g, show (a.natAbs : Int) = a by omega]
  simp only [zint, e, zgo_if, zgo_some, zgo_none]
theorem zi_abf {k nx : Nat} {ls : zL} {st : zS} {h : zH} {x : UInt32} : zgo k (zint [11] nx ls (.float x :: st) h) = if st.length ≤ 4 ∧ zn32 x then zx k nx ls (.float (x &&& 0x7fffffff) :: st) h else none := by
  simp only [zint, zgo_if, zgo_some, zgo_none]
theorem zi_fb {k nx : Nat} {ls : zL} {st : zS} {h : zH} {x : UInt32} : zgo k (zint [5] nx ls (.float x :: st) h) = if st.length ≤ 4 ∧ zn32 x then zx k nx ls (.int x.toInt32 :: st) h else none := by
  simp only [zint, zgo_if, zgo_some, zgo_none]
theorem zi_bf {k nx : Nat} {ls : zL} {st : zS} {h : zH} {x : Int32} : zgo k (zint [6] nx ls (.int x :: st) h) = if st.length ≤ 4 ∧ zn32 x.toUInt32 then zx k nx ls (.float x.toUInt32 :: st) h else none := by
  simp only [zint, zgo_if, zgo_some, zgo_none]

/-! rows for running methods by rewriting -/
def zb (p : Prop) [Decidable p] : Int := if p then 1 else 0
theorem zb_t {p : Prop} [Decidable p] (h : p) : zb p = 1 := if_pos h
theorem zb_f {p : Prop} [Decidable p] (h : ¬ p) : zb p = 0 := if_neg h
theorem zb_r (p : Prop) [Decidable p] : -2147483648 ≤ zb p ∧ zb p < 2147483648 := by
  unfold zb
  split <;> omega
theorem zb_0 (p : Prop) [Decidable p] : (zb p = 0) = ¬ p := by
  unfold zb
  split <;> simp_all
theorem zb_1 (p : Prop) [Decidable p] : (zb p = 1) = p := by
  unfold zb
  split <;> simp_all
theorem zb_v (p : Prop) [Decidable p] : zb p = 0 ∨ zb p = 1 := by
  unfold zb
  split <;> simp
theorem zb_i (p : Prop) [Decidable p] : (Int32.ofInt (zb p)).toInt = zb p := iI_t (zb_r p)
theorem zrt_i {x : Int32} {h : zH} : zret 0 [.int x] h = some (.inl (some (.int x)), h) := by simp [zret, zfit]
theorem zrt_b {x : Int} {h : zH} (hx : x = 0 ∨ x = 1) : zret 1 [.int (Int32.ofInt x)] h = some (.inl (some (.int (Int32.ofInt x))), h) := by
  rcases hx with rfl | rfl <;> simp [zret, zfit]
theorem zrt_zb {p : Prop} [Decidable p] {h : zH} : zret 1 [.int (Int32.ofInt (zb p))] h = some (.inl (some (.int (Int32.ofInt (zb p)))), h) := zrt_b (zb_v p)
theorem zrt_c {x : Int} {h : zH} (hx : 0 ≤ x ∧ x ≤ 65535) : zret 3 [.int (Int32.ofInt x)] h = some (.inl (some (.int (Int32.ofInt x))), h) := by
  have : (Int32.ofInt x).toInt = x := iI_t (by omega)
  simp [zret, zfit, this, hx.1, hx.2]
theorem zrt_l {x : Int64} {h : zH} : zret 4 [.long x] h = some (.inl (some (.long x)), h) := by simp [zret, zfit]
theorem zrt_f {x : UInt32} {h : zH} : zret 5 [.float x] h = some (.inl (some (.float x)), h) := by simp [zret, zfit]
theorem zrt_r {x : Nat} {h : zH} : zret 7 [.ref x] h = some (.inl (some (.ref x)), h) := by simp [zret, zfit]
theorem zrt_n {h : zH} : zret 7 [.null] h = some (.inl (some .null), h) := by simp [zret, zfit]
theorem zrt_v {h : zH} : zret 8 [] h = some (.inl none, h) := by simp [zret]
theorem zft_0 {x : Int32} : zfit 0 (.int x) = true := by simp [zfit]
theorem zft_1 {x : Int} (h : x = 0 ∨ x = 1) : zfit 1 (.int (Int32.ofInt x)) = true := by
  rcases h with rfl | rfl <;> simp [zfit]
theorem zft_zb {p : Prop} [Decidable p] : zfit 1 (.int (Int32.ofInt (zb p))) = true := zft_1 (zb_v p)
theorem zft_3 {x : Int} (h : 0 ≤ x ∧ x ≤ 65535) : zfit 3 (.int (Int32.ofInt x)) = true := by
  have : (Int32.ofInt x).toInt = x := iI_t (by omega)
  simp [zfit, this, h.1, h.2]
theorem zft_4 {x : Int64} : zfit 4 (.long x) = true := by simp [zfit]
theorem zft_5 {x : UInt32} : zfit 5 (.float x) = true := by simp [zfit]
theorem zft_7r {x : Nat} : zfit 7 (.ref x) = true := by simp [zfit]
theorem zft_7n : zfit 7 .null = true := by simp [zfit]
theorem zso_i {x : Int32} : zso (.int x) = 0 := rfl
theorem zso_l {x : Int64} : zso (.long x) = 1 := rfl
theorem zso_f {x : UInt32} : zso (.float x) = 2 := rfl
theorem zso_d {x : UInt64} : zso (.double x) = 3 := rfl
theorem zso_r {x : Nat} : zso (.ref x) = 4 := rfl
theorem zso_n : zso .null = 4 := rfl
theorem zc1_i {x : Int32} : zc1 (.int x) = true := rfl
theorem zc1_f {x : UInt32} : zc1 (.float x) = true := rfl
theorem zc1_r {x : Nat} : zc1 (.ref x) = true := rfl
theorem zc1_n : zc1 .null = true := rfl
theorem lst_0 {a : Option Value} {l : zL} {v : Value} : lst (a :: l) 0 v = some (some v :: l) := rfl
theorem lst_s {a : Option Value} {l : zL} {n : Nat} {v : Value} : lst (a :: l) (n + 1) v = if n = 0 ∧ lc2 a = true then none else (lst l n v).map (fun l' => a :: l') := rfl
theorem lst2_0 {a b : Option Value} {l : zL} {v : Value} : lst2 (a :: b :: l) 0 v = some (some v :: none :: l) := rfl
theorem lst2_s {a : Option Value} {l : zL} {n : Nat} {v : Value} : lst2 (a :: l) (n + 1) v = if n = 0 ∧ lc2 a = true then none else (lst2 l n v).map (fun l' => a :: l') := by
  cases l <;> rfl
theorem lc2_n : lc2 none = false := rfl
theorem lc2_i {x : Int32} : lc2 (some (.int x)) = false := rfl
theorem lc2_f {x : UInt32} : lc2 (some (.float x)) = false := rfl
theorem lc2_r {x : Nat} : lc2 (some (.ref x)) = false := rfl
theorem lc2_u : lc2 (some .null) = false := rfl
theorem lc2_l {x : Int64} : lc2 (some (.long x)) = true := rfl
/-- a place of an array, by a whole number -/
theorem zin_ok {h : zH} {kd a : Nat} {x : Int} {n : Nat} (hk : zk h a = kd) (hl : zl h a = n) (hx : 0 ≤ x ∧ x < n) (hn : n ≤ 2147483647) : zin h kd a (Int32.ofInt x) := by
  have : (Int32.ofInt x).toInt = x := iI_t (by omega)
  unfold zin
  rw [this, hl]
  exact ⟨hk, hx.1, hx.2⟩

/-! whole numbers in the machine, and the rows that run a method by rewriting -/
abbrev iI (z : Int) : Int32 := Int32.ofInt z
theorem iI_t {z : Int} (h : -2147483648 ≤ z ∧ z < 2147483648) : (Int32.ofInt z).toInt = z := by
  exact Int32.toInt_ofInt_of_le (by omega) (by omega)
theorem iI_add (a b : Int) : Int32.ofInt a + Int32.ofInt b = Int32.ofInt (a + b) := (Int32.ofInt_add a b).symm
theorem iI_sub (a b : Int) : Int32.ofInt a - Int32.ofInt b = Int32.ofInt (a - b) := (Int32.ofInt_sub a b).symm
theorem iI_mul (a b : Int) : Int32.ofInt a * Int32.ofInt b = Int32.ofInt (a * b) := (Int32.ofInt_mul a b).symm
theorem iI_neg (a : Int) : -Int32.ofInt a = Int32.ofInt (-a) := (Int32.ofInt_neg a).symm
theorem iI_n (n : Nat) : Int32.ofNat n = Int32.ofInt (n : Int) := (Int32.ofInt_eq_ofNat).symm
theorem iI_as (x : Int32) : ∃ z : Int, x = Int32.ofInt z ∧ -2147483648 ≤ z ∧ z < 2147483648 := ⟨x.toInt, by simp, x.le_toInt, x.toInt_lt⟩
theorem iI_inj {a b : Int} (ha : -2147483648 ≤ a ∧ a < 2147483648) (hb : -2147483648 ≤ b ∧ b < 2147483648) : (Int32.ofInt a = Int32.ofInt b) = (a = b) := by
  refine propext ⟨fun h => ?_, fun h => by rw [h]⟩
  have := congrArg Int32.toInt h
  rwa [iI_t ha, iI_t hb] at this
/-- a place's value, a value's sort -/
theorem zg_lo {k so n nx : Nat} {ls : zL} {st : zS} {h : zH} : zgo k (zlo so n nx ls st h) = (match lget ls n with
    | some v => if zso v = so then zx k nx ls (v :: st) h else none
    | none => none) := by
  unfold zlo
  cases lget ls n with
  | none => rfl
  | some v => by_cases hs : zso v = so <;> simp [hs, zgo]
theorem zg_st {k so n nx : Nat} {ls : zL} {v : Value} {st : zS} {h : zH} : zgo k (zsto so n nx ls (v :: st) h) = if zso v = so then (match lst ls n v with
    | some l => zx k nx l st h
    | none => none) else none := by
  unfold zsto
  by_cases hs : zso v = so
  · simp only [hs, if_true]
    cases lst ls n v <;> rfl
  · simp [hs, zgo]
theorem zg_st2 {k so n nx : Nat} {ls : zL} {v : Value} {st : zS} {h : zH} : zgo k (zsto2 so n nx ls (v :: st) h) = if zso v = so then (match lst2 ls n v with
    | some l => zx k nx l st h
    | none => none) else none := by
  unfold zsto2
  by_cases hs : zso v = so
  · simp only [hs, if_true]
    cases lst2 ls n v <;> rfl
  · simp [hs, zgo]
theorem zg_inc {k nx tg n : Nat} {c : Int} {aux : List Nat} {ls : zL} {st : zS} {h : zH} {x : Int32} (e : lget ls n = some (.int x)) : zgo k (zpure (.iinc n c) nx tg aux ls st h) = (match lst ls n (.int (x + Int32.ofInt c)) with
    | some l => zx k nx l st h
    | none => none) := by
  simp only [zpure, e]
  cases lst ls n (.int (x + Int32.ofInt c)) <;> rfl
theorem zg_ald {k kd so nx : Nat} {ls : zL} {st : zS} {h : zH} {i : Int32} {a : Nat} : zgo k (zald kd so nx ls (.int i :: .ref a :: st) h) = if zin h kd a i then (if zso (zm h a i.toInt.toNat) = so then zx k nx ls (zm h a i.toInt.toNat :: st) h else none) else none := by
  simp only [zald, zgo_if, zgo_some, zgo_none]
theorem zg_ast {k kd nx : Nat} {ls : zL} {st : zS} {h : zH} {v : Value} {i : Int32} {a : Nat} : zgo k (zast kd nx v i a ls st h) = if zin h kd a i then zx k nx ls st (zput h a i.toInt.toNat v) else none := by
  simp only [zast, zgo_if, zgo_some, zgo_none]
theorem zt_ (n : Nat) (st : zS) : ztake n st = if n ≤ st.length ∧ (st.take n).all zc1 = true ∧ (st.drop n).length ≤ 4 then some ((st.take n).reverse, st.drop n) else none := rfl
theorem zca_some {k pc nx j ml rk : Nat} {ls : zL} {as : List Value} {st : zS} {h : zH} : zca k pc nx ls j ml rk (some (as, st)) h = if zrcv rk as h = true then (zc j ml as h).bind (zback k pc nx ls st) else none := rfl
theorem zb_none {k pc nx : Nat} {ls : zL} {st : zS} {h : zH} : zback k pc nx ls st (.inl none, h) = zx k nx ls st h := rfl
theorem zb_some {k pc nx : Nat} {ls : zL} {st : zS} {h : zH} {v : Value} : zback k pc nx ls st (.inl (some v), h) = zx k nx ls (v :: st) h := rfl
theorem zb_exc {k pc nx : Nat} {ls : zL} {st : zS} {h : zH} {e : Nat} : zback k pc nx ls st (.inr e, h) = (match zhT k e pc with
    | none => if zhas k = true then none else some (.inr e, h)
    | some t => zx k t.2 (lclr ls t.1) [] h) := rfl
theorem zr0 {h : zH} {as : List Value} : zrcv 0 as h = true := rfl
theorem zr100 {h : zH} {a : Nat} {as : List Value} : zrcv 100 (.ref a :: as) h = true := rfl
theorem zrk {h : zH} {a r : Nat} {as : List Value} (e : zk h a = r) : zrcv (r + 1) (.ref a :: as) h = true := by simp [zrcv, e]
theorem zt1 {v1 : Value} {r : zS} : ztake 1 (v1 :: r) = if zc1 v1 = true ∧ r.length ≤ 4 then some ([v1], r) else none := by simp [ztake]
theorem zt2 {v1 v2 : Value} {r : zS} : ztake 2 (v2 :: v1 :: r) = if zc1 v2 = true ∧ zc1 v1 = true ∧ r.length ≤ 4 then some ([v1, v2], r) else none := by simp [ztake, and_assoc]
theorem zt3 {v1 v2 v3 : Value} {r : zS} : ztake 3 (v3 :: v2 :: v1 :: r) = if zc1 v3 = true ∧ zc1 v2 = true ∧ zc1 v1 = true ∧ r.length ≤ 4 then some ([v1, v2, v3], r) else none := by simp [ztake, and_assoc]
theorem zt4 {v1 v2 v3 v4 : Value} {r : zS} : ztake 4 (v4 :: v3 :: v2 :: v1 :: r) = if zc1 v4 = true ∧ zc1 v3 = true ∧ zc1 v2 = true ∧ zc1 v1 = true ∧ r.length ≤ 4 then some ([v1, v2, v3, v4], r) else none := by simp [ztake, and_assoc]
theorem zt5 {v1 v2 v3 v4 v5 : Value} {r : zS} : ztake 5 (v5 :: v4 :: v3 :: v2 :: v1 :: r) = if zc1 v5 = true ∧ zc1 v4 = true ∧ zc1 v3 = true ∧ zc1 v2 = true ∧ zc1 v1 = true ∧ r.length ≤ 4 then some ([v1, v2, v3, v4, v5], r) else none := by simp [ztake, and_assoc]
theorem zt6 {v1 v2 v3 v4 v5 v6 : Value} {r : zS} : ztake 6 (v6 :: v5 :: v4 :: v3 :: v2 :: v1 :: r) = if zc1 v6 = true ∧ zc1 v5 = true ∧ zc1 v4 = true ∧ zc1 v3 = true ∧ zc1 v2 = true ∧ zc1 v1 = true ∧ r.length ≤ 4 then some ([v1, v2, v3, v4, v5, v6], r) else none := by simp [ztake, and_assoc]
theorem zt7 {v1 v2 v3 v4 v5 v6 v7 : Value} {r : zS} : ztake 7 (v7 :: v6 :: v5 :: v4 :: v3 :: v2 :: v1 :: r) = if zc1 v7 = true ∧ zc1 v6 = true ∧ zc1 v5 = true ∧ zc1 v4 = true ∧ zc1 v3 = true ∧ zc1 v2 = true ∧ zc1 v1 = true ∧ r.length ≤ 4 then some ([v1, v2, v3, v4, v5, v6, v7], r) else none := by simp [ztake, and_assoc]
theorem zt8 {v1 v2 v3 v4 v5 v6 v7 v8 : Value} {r : zS} : ztake 8 (v8 :: v7 :: v6 :: v5 :: v4 :: v3 :: v2 :: v1 :: r) = if zc1 v8 = true ∧ zc1 v7 = true ∧ zc1 v6 = true ∧ zc1 v5 = true ∧ zc1 v4 = true ∧ zc1 v3 = true ∧ zc1 v2 = true ∧ zc1 v1 = true ∧ r.length ≤ 4 then some ([v1, v2, v3, v4, v5, v6, v7, v8], r) else none := by simp [ztake, and_assoc]
/-- the cells behind a write -/
theorem zk_put {h : zH} {a i : Nat} {v : Value} {b : Nat} : zk (zput h a i v) b = zk h b := rfl
theorem zl_put {h : zH} {a i : Nat} {v : Value} {b : Nat} : zl (zput h a i v) b = zl h b := rfl
theorem zn_put {h : zH} {a i : Nat} {v : Value} : zn (zput h a i v) = zn h := rfl
theorem zuc_put {h : zH} {a i : Nat} {v : Value} : zuc (zput h a i v) = zuc h := rfl
theorem zus_put {h : zH} {a i : Nat} {v : Value} : zus (zput h a i v) = zus h := rfl
theorem zm_put {h : zH} {a i : Nat} {v : Value} {b j : Nat} : zm (zput h a i v) b j = if b = a ∧ j = i then v else zm h b j := rfl
theorem zm_put_s {h : zH} {a i : Nat} {v : Value} : zm (zput h a i v) a i = v := by simp [zm_put]
theorem zm_put_a {h : zH} {a i : Nat} {v : Value} {b j : Nat} (e : b ≠ a) : zm (zput h a i v) b j = zm h b j := by simp [zm_put, e]
theorem zm_put_i {h : zH} {a i : Nat} {v : Value} {b j : Nat} (e : j ≠ i) : zm (zput h a i v) b j = zm h b j := by simp [zm_put, e]

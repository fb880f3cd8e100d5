/-! the reference's search for the best choice -/
/-- the clips with today's pieces marked -/
def zflag (D : zD) (c : Nat) : Bool := decide (D 38 c = 1) && (decide (D 36 c ≤ D 32 16) && decide (D 32 16 ≤ D 37 c))
def clsF (D : zD) : Nat → Nat → zCL
  | _, 0 => []
  | c, n + 1 => (zflag D c, D 33 c, D 34 c) :: clsF D (c + 1) n
def clsD (D : zD) : zCL := clsF D 0 (D 32 7).toNat
theorem clsF_len {D : zD} : ∀ (c n : Nat), (clsF D c n).length = n
  | _, 0 => rfl
  | c, n + 1 => by rw [clsF, List.length_cons, clsF_len]
theorem clsF_mem {D : zD} : ∀ (c n : Nat) (q : Bool × Int × Int), q ∈ clsF D c n → ∃ i, c ≤ i ∧ i < c + n ∧ q = (zflag D i, D 33 i, D 34 i)
  | _, 0, _, h => by cases h
  | c, n + 1, q, h => by
    rcases List.mem_cons.mp h with rfl | h
    · exact ⟨c, Nat.le_refl _, by omega, rfl⟩
    · obtain ⟨i, h1, h2, h3⟩ := clsF_mem (c + 1) n q h
      exact ⟨i, by omega, by omega, h3⟩
/-- the bits of lengths, levels: what holds of the clips there are -/
def mCl (D : zD) : Prop := (0 ≤ D 32 7 ∧ D 32 7 ≤ 12) ∧ (0 ≤ D 32 16 ∧ D 32 16 ≤ 999) ∧ ∀ i : Nat, (i : Int) < D 32 7 → (1 ≤ D 33 i ∧ D 33 i ≤ 900) ∧ (-60 ≤ D 34 i ∧ D 34 i ≤ 0) ∧ (0 ≤ D 36 i ∧ D 36 i ≤ 999) ∧ (0 ≤ D 37 i ∧ D 37 i ≤ 999) ∧ (D 38 i = 0 ∨ D 38 i = 1)
/-- the sum of the first c clips' products, exactly and in float -/
def mzs (D : zD) (m : Nat) : Nat → Int
  | 0 => 0
  | c + 1 => if m.testBit c = true then mzs D m c + D 34 c * D 33 c else mzs D m c
def mvs (D : zD) (m : Nat) : Nat → UInt32
  | 0 => FP.fconst0
  | c + 1 => if m.testBit c = true then FP.fadd (mvs D m c) (FP.i2f (Int32.ofInt (D 34 c * D 33 c))) else mvs D m c
theorem mul_b {x y : Int} (hx : -60 ≤ x ∧ x ≤ 0) (hy : 1 ≤ y ∧ y ≤ 1800) : -108000 ≤ x * y ∧ x * y ≤ 0 := by
  have h1 : (-x) * y ≤ 60 * 1800 := Int.mul_le_mul (by omega) (by omega) (by omega) (by omega)
  have h2 : 0 ≤ (-x) * y := Int.mul_nonneg (by omega) (by omega)
  rw [Int.neg_mul] at h1 h2
  omega
theorem mvs_int {D : zD} (hD : mCl D) (m : Nat) : ∀ c : Nat, (c : Int) ≤ D 32 7 → FP.Core.FInt (mzs D m c) (mvs D m c) ∧ (-108000 * c ≤ mzs D m c ∧ mzs D m c ≤ 0)
  | 0, _ => ⟨fl_0, by simp [mzs]⟩
  | c + 1, h => by
    obtain ⟨ih, i1, i2⟩ := mvs_int hD m c (by omega)
    obtain ⟨l1, l2, -⟩ := hD.2.2 c (by omega)
    have hb := mul_b (x := D 34 c) (y := D 33 c) l2 (by omega)
    have hn := hD.1
    unfold mzs mvs
    by_cases g : m.testBit c = true
    · rw [if_pos g, if_pos g]
      exact ⟨fl_add ih (fl_i2f (by omega)) (by omega), by omega, by omega⟩
    · rw [if_neg g, if_neg g]
      exact ⟨ih, by omega, by omega⟩
theorem mvs_zn {D : zD} (hD : mCl D) (m c : Nat) (h : (c : Int) ≤ D 32 7) : zn32 (mvs D m c) := fl_zn (fl_int (mvs_int hD m c h).1)
/-- the deviation of a set for a gap -/
def mdv (D : zD) (m : Nat) (gap lev : Int) : UInt32 := FP.fsub (FP.fdiv (mvs D m (D 32 7).toNat) (FP.i2f (Int32.ofInt gap))) (FP.i2f (Int32.ofInt lev)) &&& 0x7fffffff
theorem mdv_n1 {D : zD} (hD : mCl D) {m : Nat} {gap : Int} (hg : 1 ≤ gap ∧ gap ≤ 3600) : FP.Core.fIsNaN (FP.fdiv (mvs D m (D 32 7).toNat) (FP.i2f (Int32.ofInt gap))) = false :=
  fl_div (fl_int (mvs_int hD m (D 32 7).toNat (by have := hD.1; omega)).1) (by omega)
theorem mdv_nn {D : zD} (hD : mCl D) {m : Nat} {gap lev : Int} (hg : 1 ≤ gap ∧ gap ≤ 3600) : FP.Core.fIsNaN (mdv D m gap lev) = false := fl_abs (fl_sub (mdv_n1 hD hg))
set_option maxRecDepth 20000 in
theorem m123 {m : Nat} {gap lev : Int} {h : zH} {D : zD} (hD : mCl D) (hm : m < 4096) (hg : 1 ≤ gap ∧ gap ≤ 3600) (hl : -60 ≤ lev ∧ lev ≤ 0) :
    zc 123 6 [.ref 32, .int (Int32.ofInt (m : Int)), .int (Int32.ofInt gap), .int (Int32.ofInt lev)] (zV h D) = some (.inl (some (.float (mdv D m gap lev))), zV h D) := by
  rw [zc]
  have hn := hD.1
  simp (disch := first | omega | (simp (disch := omega) only [zwr_s, zwr_a, zwr_i]; omega)) only [zentry, zs0, zs1, zs2, zs3, zg_lo, zg_st, zg_st2, zg_ald, zg_ast, zs_ia, zs_i0, zcs, zg_ii, zi_max, zi_min, zi_abi, zi_abf, zi_fb, zi_bf, lget, lst, lst2, lc2, Option.map_some, zso, if_true, if_false, zc1, and_true, true_and, and_self, List.length_nil, List.length_cons, Nat.zero_le, reduceIte, reduceCtorEq, false_and, and_false, Bool.false_eq_true, zca_some, zr0, zr100, Option.bind_some, zb_none, zb_some, zrc, or_true, true_or, eq_self, ne_eq, not_true_eq_false, not_false_eq_true, zrt_i, zrt_zb, zrt_b, zrt_c, zrt_l, zrt_f, zrt_r, zrt_n, zrt_v, zft_0, zft_1, zft_zb, zft_3, zft_4, zft_5, zft_7r, zft_7n, iI_t, zb_i, zb_0, zb_1, Nat.reduceAdd, Nat.reduceLeDiff, Nat.reduceEqDiff, Nat.reduceSub, Int.reduceNeg, iI_add, iI_sub, iI_mul, iI_neg, iI_n, z123, if_pos]
  have hloop := zloop (k := 123) (pc := 6) (fun i => [some (.ref 32), some (.int (Int32.ofInt (m : Int))), some (.int (Int32.ofInt gap)), some (.int (Int32.ofInt lev)), some (.float (mvs D m i)), some (.int (Int32.ofInt (i : Int)))]) (fun _ => zV h D) (D 32 7).toNat (fun i hi => by
    have hi' : (i : Int) < D 32 7 := by omega
    have hz := mvs_zn hD m (i + 1) (by omega)
    have hb := bt_shr hm (show i < 12 by omega)
    obtain ⟨l1, l2, -⟩ := hD.2.2 i hi'
    have hm9 := mul_b (x := D 34 i) (y := D 33 i) l2 (by omega)
    conv => lhs; rw [z123_6]
    rw [mvs] at hz ⊢
    by_cases g : m.testBit i = true
    · rw [if_pos g] at hz
      simp only [g, if_true] at hb ⊢
      simp (disch := first | omega | (simp (disch := omega) only [zwr_s, zwr_a, zwr_i]; omega)) only [zentry, zs0, zs1, zs2, zs3, zg_lo, zg_st, zg_st2, zg_ald, zg_ast, zs_ia, zs_i0, zcs, zg_ii, zi_max, zi_min, zi_abi, zi_abf, zi_fb, zi_bf, lget, lst, lst2, lc2, Option.map_some, zso, if_true, if_false, zc1, and_true, true_and, and_self, List.length_nil, List.length_cons, Nat.zero_le, reduceIte, reduceCtorEq, false_and, and_false, Bool.false_eq_true, zca_some, zr0, zr100, Option.bind_some, zb_none, zb_some, zrc, or_true, true_or, eq_self, ne_eq, not_true_eq_false, not_false_eq_true, zrt_i, zrt_zb, zrt_b, zrt_c, zrt_l, zrt_f, zrt_r, zrt_n, zrt_v, zft_0, zft_1, zft_zb, zft_3, zft_4, zft_5, zft_7r, zft_7n, iI_t, zb_i, zb_0, zb_1, Nat.reduceAdd, Nat.reduceLeDiff, Nat.reduceEqDiff, Nat.reduceSub, Int.reduceNeg, iI_add, iI_sub, iI_mul, iI_neg, iI_n, z123, hb, hz, zin, zc32, zc33, zc34, Int.toNat_natCast, if_pos, if_neg]
    · simp only [g, if_false] at hb ⊢
      simp (disch := first | omega | (simp (disch := omega) only [zwr_s, zwr_a, zwr_i]; omega)) only [zentry, zs0, zs1, zs2, zs3, zg_lo, zg_st, zg_st2, zg_ald, zg_ast, zs_ia, zs_i0, zcs, zg_ii, zi_max, zi_min, zi_abi, zi_abf, zi_fb, zi_bf, lget, lst, lst2, lc2, Option.map_some, zso, if_true, if_false, zc1, and_true, true_and, and_self, List.length_nil, List.length_cons, Nat.zero_le, reduceIte, reduceCtorEq, false_and, and_false, Bool.false_eq_true, zca_some, zr0, zr100, Option.bind_some, zb_none, zb_some, zrc, or_true, true_or, eq_self, ne_eq, not_true_eq_false, not_false_eq_true, zrt_i, zrt_zb, zrt_b, zrt_c, zrt_l, zrt_f, zrt_r, zrt_n, zrt_v, zft_0, zft_1, zft_zb, zft_3, zft_4, zft_5, zft_7r, zft_7n, iI_t, zb_i, zb_0, zb_1, Nat.reduceAdd, Nat.reduceLeDiff, Nat.reduceEqDiff, Nat.reduceSub, Int.reduceNeg, iI_add, iI_sub, iI_mul, iI_neg, iI_n, z123, hb, zin, zc32, zc33, zc34, Int.toNat_natCast, if_pos, if_neg]) (D 32 7).toNat (Nat.le_refl _)
  refine Eq.trans hloop ?_
  rw [z123_6]
  have z1 := fl_zn (mdv_n1 hD (m := m) hg)
  have z2 := fl_zn (fl_sub (v := Int32.ofInt lev) (mdv_n1 hD (m := m) hg))
  have hnn : (((D 32 7).toNat : Nat) : Int) = D 32 7 := by omega
  simp (disch := first | omega | (simp (disch := omega) only [zwr_s, zwr_a, zwr_i]; omega)) only [zentry, zs0, zs1, zs2, zs3, zg_lo, zg_st, zg_st2, zg_ald, zg_ast, zs_ia, zs_i0, zcs, zg_ii, zi_max, zi_min, zi_abi, zi_abf, zi_fb, zi_bf, lget, lst, lst2, lc2, Option.map_some, zso, if_true, if_false, zc1, and_true, true_and, and_self, List.length_nil, List.length_cons, Nat.zero_le, reduceIte, reduceCtorEq, false_and, and_false, Bool.false_eq_true, zca_some, zr0, zr100, Option.bind_some, zb_none, zb_some, zrc, or_true, true_or, eq_self, ne_eq, not_true_eq_false, not_false_eq_true, zrt_i, zrt_zb, zrt_b, zrt_c, zrt_l, zrt_f, zrt_r, zrt_n, zrt_v, zft_0, zft_1, zft_zb, zft_3, zft_4, zft_5, zft_7r, zft_7n, iI_t, zb_i, zb_0, zb_1, Nat.reduceAdd, Nat.reduceLeDiff, Nat.reduceEqDiff, Nat.reduceSub, Int.reduceNeg, iI_add, iI_sub, iI_mul, iI_neg, iI_n, z123, z1, z2, hnn, zc32, if_pos, if_neg, mdv]
/-- how the machine counts bits -/
def zbu (x : Int32) (n : Int) : Int32 := (x.toUInt32 >>> ((Int32.ofInt n).toUInt32 &&& Int32.toUInt32 31)).toInt32
def zbc1 (x : Int32) : Int32 := x - (zbu x 1 &&& Int32.ofNat 1431655765)
def zbc2 (x : Int32) : Int32 := (zbc1 x &&& Int32.ofNat 858993459) + (zbu (zbc1 x) 2 &&& Int32.ofNat 858993459)
def zbc3 (x : Int32) : Int32 := (zbc2 x + zbu (zbc2 x) 4) &&& Int32.ofNat 252645135
def zbc4 (x : Int32) : Int32 := zbc3 x + zbu (zbc3 x) 8
def zbc5 (x : Int32) : Int32 := zbc4 x + zbu (zbc4 x) 16
theorem zbc_ok0 : ((List.range 4096).all fun m => decide (zbc5 (Int32.ofInt (m : Int)) &&& Int32.ofInt 63 = Int32.ofInt (popB 12 m : Int))) = true := by decide +kernel
theorem m182 {m : Nat} {h : zH} (hm : m < 4096) : zc 182 1 [.int (Int32.ofInt (m : Int))] h = some (.inl (some (.int (Int32.ofInt (popB 12 m : Int)))), h) := by
  have e : Int32.ofInt (popB 12 m : Int) = zbc5 (Int32.ofInt (m : Int)) &&& Int32.ofInt 63 := (of_decide_eq_true (List.all_eq_true.mp zbc_ok0 m (List.mem_range.mpr hm))).symm
  rw [zc, e]
  generalize Int32.ofInt (m : Int) = x
  unfold zbc5 zbc4 zbc3 zbc2 zbc1 zbu
  simp only [zentry, z182, zs0, zs1, zs2, zs3, zg_lo, zg_st, lget, lst, lc2, Option.map_some, zso, if_true, zrt_i]
theorem m124 {a b : Nat} {h : zH} (ha : a < 4096) (hb : b < 4096) : zc 124 3 [.int (Int32.ofInt (a : Int)), .int (Int32.ofInt (b : Int))] h = some (.inl (some (.int (Int32.ofInt (zb (lowr 12 a b = true))))), h) := by
  have hx : a ^^^ b < 4096 := Nat.xor_lt_two_pow (n := 12) ha hb
  have h1 : Int32.ofInt (a : Int) &&& Int32.ofInt (((a ^^^ b : Nat)) : Int) &&& -Int32.ofInt (((a ^^^ b : Nat)) : Int) = Int32.ofInt ((a &&& lowB 12 (a ^^^ b) : Nat) : Int) := by
    rw [Int32.and_assoc, bt_low hx, bt_and]
  have h2 : a &&& lowB 12 (a ^^^ b) < 4096 := Nat.lt_of_le_of_lt (bt_and_le _ _) ha
  have h3 := bt_lowr 12 a b
  have h4 : (Int32.ofInt ((a &&& lowB 12 (a ^^^ b) : Nat) : Int)).toInt = ((a &&& lowB 12 (a ^^^ b) : Nat) : Int) := iI_t (by omega)
  rw [zc]
  by_cases g : lowr 12 a b = true
  · have h5 : ¬ ((a &&& lowB 12 (a ^^^ b) : Nat) : Int) = 0 := fun q => by
      have := h3.mp (by omega)
      rw [g] at this
      cases this
    rw [zb_t g]
    simp only [zentry, z124, zs0, zs1, zs2, zs3, zg_lo, zg_st, lget, lst, lc2, Option.map_some, zso, if_true, if_false, bt_xor, h1, h4, h5, zrt_b, or_true, Nat.reduceEqDiff, false_and, Bool.false_eq_true, reduceIte, and_false]
  · have h5 : ((a &&& lowB 12 (a ^^^ b) : Nat) : Int) = 0 := by
      have := h3.mpr (by simpa using g)
      omega
    have h6 : (Int32.ofInt 0).toInt = 0 := rfl
    rw [zb_f g]
    simp (disch := omega) only [zentry, z124, zs0, zs1, zs2, zs3, zg_lo, zg_st, lget, lst, lc2, Option.map_some, zso, if_true, if_false, bt_xor, h1, h4, h5, h6, zrt_b, or_true, Nat.reduceEqDiff, false_and, Bool.false_eq_true, reduceIte, and_false]
theorem popB_le : ∀ (n m : Nat), popB n m ≤ n
  | 0, _ => Nat.le_refl _
  | n + 1, m => by
    have := popB_le n (m / 2)
    unfold popB
    omega
theorem popB_ext : ∀ (n k m : Nat), m < 2 ^ n → popB (n + k) m = popB n m
  | 0, k, m, h => by
    have : m = 0 := by simpa using h
    subst this
    rw [Nat.zero_add]
    show popB k 0 = 0
    induction k with
    | zero => rfl
    | succ k ih =>
      rw [popB]
      show 0 % 2 + popB k (0 / 2) = 0
      rw [show 0 / 2 = 0 from rfl, ih]
  | n + 1, k, m, h => by
    rw [show n + 1 + k = (n + k) + 1 by omega, popB, popB, popB_ext n k (m / 2) (by rw [Nat.pow_succ] at h; omega)]
theorem lowr_0 : ∀ (k : Nat), lowr k 0 0 = false
  | 0 => rfl
  | k + 1 => by
    rw [lowr, if_pos rfl]
    exact lowr_0 k
theorem lowr_ext : ∀ (n k a b : Nat), a < 2 ^ n → b < 2 ^ n → lowr (n + k) a b = lowr n a b
  | 0, k, a, b, ha, hb => by
    have h1 : a = 0 := by simpa using ha
    have h2 : b = 0 := by simpa using hb
    subst h1
    subst h2
    rw [Nat.zero_add, lowr_0]
    rfl
  | n + 1, k, a, b, ha, hb => by
    rw [show n + 1 + k = (n + k) + 1 by omega, lowr, lowr, lowr_ext n k (a / 2) (b / 2) (by rw [Nat.pow_succ] at ha; omega) (by rw [Nat.pow_succ] at hb; omega)]
theorem subC_lt : ∀ (cs : zCL) (m : Nat), subC cs m = true → m < 2 ^ cs.length
  | [], m, h => by
    have : m = 0 := by simpa [subC] using h
    subst this
    exact Nat.one_pos
  | q :: r, m, h => by
    have := subC_lt r (m / 2) (subC_s h).1
    rw [List.length_cons, Nat.pow_succ]
    omega

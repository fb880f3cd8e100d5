/-! a choice's piece by its index: class and reference side by side -/
def faL : List Nat → Int → Option Nat
  | [], _ => none
  | x :: r, l => if l = 0 then some x else faL r (l - 1)
theorem faR_L {m : Nat} : ∀ (n c : Nat) (l : Int), faR m n c l = faL (tbL m c n) l
  | 0, _, _ => rfl
  | n + 1, c, l => by
    rw [faR, tbL]
    by_cases g : m.testBit c = true
    · rw [if_pos g, if_pos g, faL]
      by_cases g2 : l = 0
      · rw [if_pos g2, if_pos g2]
      · rw [if_neg g2, if_neg g2, faR_L n (c + 1)]
    · rw [if_neg g, if_neg g, faR_L n (c + 1)]
def faP (F : zD) (mk : Nat) : Nat → Nat → Int → Option Int
  | 0, _, _ => none
  | n + 1, i, l => if mk.testBit (7 - i) = true then (if l = 0 then some (F 15 i) else faP F mk n (i + 1) (l - 1)) else faP F mk n (i + 1) l
theorem faP_L {F : zD} {mk : Nat} : ∀ (n i : Nat) (nu : List Nat) (bs : List Bool) (l : Int), nu.length = n → bs.length = n → (∀ k, k < n → F 15 (i + k) = (nu.getD k 0 : Nat)) → (∀ k, k < n → mk.testBit (7 - (i + k)) = bs.getD k false) → faP F mk n i l = (faL (zpS nu bs) l).map (fun q : Nat => (q : Int))
  | 0, i, nu, bs, l, h1, h2, _, _ => by
    cases nu with
    | nil => rfl
    | cons a b => cases h1
  | n + 1, i, [], bs, l, h1, _, _, _ => by cases h1
  | n + 1, i, x :: nu, [], l, _, h2, _, _ => by cases h2
  | n + 1, i, x :: nu, b :: bs, l, h1, h2, h3, h4 => by
    have g3 : F 15 i = (x : Int) := h3 0 (by omega)
    have g4 : mk.testBit (7 - i) = b := h4 0 (by omega)
    have ih := fun l => faP_L (F := F) (mk := mk) n (i + 1) nu bs l (by simpa using h1) (by simpa using h2) (fun k hk => by
      have := h3 (k + 1) (by omega)
      rw [show i + (k + 1) = i + 1 + k by omega] at this
      exact this) (fun k hk => by
      have := h4 (k + 1) (by omega)
      rw [show i + (k + 1) = i + 1 + k by omega] at this
      exact this)
    rw [faP, zpS, g4, g3]
    by_cases g : b = true
    · rw [if_pos g, if_pos g, faL]
      by_cases g2 : l = 0
      · rw [if_pos g2, if_pos g2]
        rfl
      · rw [if_neg g2, if_neg g2, ih]
    · rw [if_neg g, if_neg g, ih]
set_option maxRecDepth 20000 in
theorem c69_l {F : zD} {mk : Nat} {gi li : Int32} {ix : Int} {h : zH} {X : zD} (hB : fiB F) (hm : mk < 256) (hx : iR ix) : ∀ (n i : Nat) (ah : Int), (i : Int) + n = F 14 3 → 0 ≤ ah ∧ ah ≤ i →
    zx 69 14 [some (.ref 3), some (.int gi), some (.int li), some (.int (Int32.ofInt ix)), some (.int (Int32.ofInt (mk : Int))), some (.int (Int32.ofInt ah)), some (.int (Int32.ofInt (i : Int)))] [] (zV (zU h X) F) =
      match faP F mk n i (ix - ah) with
      | some q => some (.inl (some (.int (Int32.ofInt q))), zV (zU h X) F)
      | none => some (.inr 4, zV (zU (zchg h 1 6) X) F)
  | 0, i, ah, hi, ha => by
    have hn := hB.1
    rw [faP, z69_14]
    clear hB
    simp (disch := first | omega | (simp (disch := omega) only [zwr_s, zwr_a, zwr_i, zn_put, zn_new, zn_fil, zn_chg, zV_n]; omega)) only [zentry, zs0, zs1, zs2, zs3, zg_lo, zg_st, zg_st2, zg_ald, zg_ast, zs_ia, zs_i0, zcs, zg_ii, zi_max, zi_min, zi_abi, zi_abf, zi_fb, zi_bf, lget, lst, lst2, lc2, Option.map_some, zso, if_true, if_false, zc1, and_true, true_and, and_self, List.length_nil, List.length_cons, Nat.zero_le, reduceIte, reduceCtorEq, false_and, and_false, Bool.false_eq_true, zca_some, zr0, zr100, Option.bind_some, zb_none, zb_some, zrc, or_true, true_or, eq_self, ne_eq, not_true_eq_false, not_false_eq_true, zrt_i, zrt_zb, zrt_b, zrt_c, zrt_l, zrt_f, zrt_r, zrt_n, zrt_v, zft_0, zft_1, zft_zb, zft_3, zft_4, zft_5, zft_7r, zft_7n, iI_t, zb_i, zb_0, zb_1, Nat.reduceAdd, Nat.reduceLeDiff, Nat.reduceEqDiff, Nat.reduceSub, Int.reduceNeg, iI_add, iI_sub, iI_mul, iI_neg, iI_n, zbz, zchar_id, zin, zwr_s, zwr_a, zwr_i, if_pos, if_neg, Int.toNat_natCast, Int.natCast_zero, Int.reduceToNat, z69, zc3, zc14, zgX]
  | n + 1, i, ah, hi, ha => by
    have hn := hB.1
    have hb := hB.2 i (by omega)
    have e10 := c10 (c := mk) (i := i) (h := zU h X) (D := F) hm (by omega)
    have e11 := c11 (h := zU h X) (D := F) (i := i) (by omega) (by omega)
    have ei : ((i + 1 : Nat) : Int) = (i : Int) + 1 := by omega
    by_cases g : mk.testBit (7 - i) = true
    · by_cases g2 : ix - ah = 0
      · have g3 : ix = ah := by omega
        rw [faP, if_pos g, if_pos g2]
        rw [zb_t g] at e10
        rw [z69_14]
        clear hB
        simp (disch := first | omega | (simp (disch := omega) only [zwr_s, zwr_a, zwr_i, zn_put, zn_new, zn_fil, zn_chg, zV_n]; omega)) only [zentry, zs0, zs1, zs2, zs3, zg_lo, zg_st, zg_st2, zg_ald, zg_ast, zs_ia, zs_i0, zcs, zg_ii, zi_max, zi_min, zi_abi, zi_abf, zi_fb, zi_bf, lget, lst, lst2, lc2, Option.map_some, zso, if_true, if_false, zc1, and_true, true_and, and_self, List.length_nil, List.length_cons, Nat.zero_le, reduceIte, reduceCtorEq, false_and, and_false, Bool.false_eq_true, zca_some, zr0, zr100, Option.bind_some, zb_none, zb_some, zrc, or_true, true_or, eq_self, ne_eq, not_true_eq_false, not_false_eq_true, zrt_i, zrt_zb, zrt_b, zrt_c, zrt_l, zrt_f, zrt_r, zrt_n, zrt_v, zft_0, zft_1, zft_zb, zft_3, zft_4, zft_5, zft_7r, zft_7n, iI_t, zb_i, zb_0, zb_1, Nat.reduceAdd, Nat.reduceLeDiff, Nat.reduceEqDiff, Nat.reduceSub, Int.reduceNeg, iI_add, iI_sub, iI_mul, iI_neg, iI_n, zbz, zchar_id, zin, zwr_s, zwr_a, zwr_i, if_pos, if_neg, Int.toNat_natCast, Int.natCast_zero, Int.reduceToNat, z69, e10, e11, g3, zt2, zt3, zc3, zc14]
      · have ih := c69_l (gi := gi) (li := li) (h := h) (X := X) hB hm hx n (i + 1) (ah + 1) (by omega) (by omega)
        have g3 : ¬ ah = ix := by omega
        rw [faP, if_pos g, if_neg g2, show ix - ah - 1 = ix - (ah + 1) by omega, ← ih]
        rw [zb_t g] at e10
        conv => lhs; rw [z69_14]
        clear hB ih
        simp (disch := first | omega | (simp (disch := omega) only [zwr_s, zwr_a, zwr_i, zn_put, zn_new, zn_fil, zn_chg, zV_n]; omega)) only [zentry, zs0, zs1, zs2, zs3, zg_lo, zg_st, zg_st2, zg_ald, zg_ast, zs_ia, zs_i0, zcs, zg_ii, zi_max, zi_min, zi_abi, zi_abf, zi_fb, zi_bf, lget, lst, lst2, lc2, Option.map_some, zso, if_true, if_false, zc1, and_true, true_and, and_self, List.length_nil, List.length_cons, Nat.zero_le, reduceIte, reduceCtorEq, false_and, and_false, Bool.false_eq_true, zca_some, zr0, zr100, Option.bind_some, zb_none, zb_some, zrc, or_true, true_or, eq_self, ne_eq, not_true_eq_false, not_false_eq_true, zrt_i, zrt_zb, zrt_b, zrt_c, zrt_l, zrt_f, zrt_r, zrt_n, zrt_v, zft_0, zft_1, zft_zb, zft_3, zft_4, zft_5, zft_7r, zft_7n, iI_t, zb_i, zb_0, zb_1, Nat.reduceAdd, Nat.reduceLeDiff, Nat.reduceEqDiff, Nat.reduceSub, Int.reduceNeg, iI_add, iI_sub, iI_mul, iI_neg, iI_n, zbz, zchar_id, zin, zwr_s, zwr_a, zwr_i, if_pos, if_neg, Int.toNat_natCast, Int.natCast_zero, Int.reduceToNat, z69, e10, e11, ei, zt2, zt3, zc3, zc14]
    · have ih := c69_l (gi := gi) (li := li) (h := h) (X := X) hB hm hx n (i + 1) ah (by omega) (by omega)
      rw [faP, if_neg g, ← ih]
      rw [zb_f g] at e10
      conv => lhs; rw [z69_14]
      clear hB ih
      simp (disch := first | omega | (simp (disch := omega) only [zwr_s, zwr_a, zwr_i, zn_put, zn_new, zn_fil, zn_chg, zV_n]; omega)) only [zentry, zs0, zs1, zs2, zs3, zg_lo, zg_st, zg_st2, zg_ald, zg_ast, zs_ia, zs_i0, zcs, zg_ii, zi_max, zi_min, zi_abi, zi_abf, zi_fb, zi_bf, lget, lst, lst2, lc2, Option.map_some, zso, if_true, if_false, zc1, and_true, true_and, and_self, List.length_nil, List.length_cons, Nat.zero_le, reduceIte, reduceCtorEq, false_and, and_false, Bool.false_eq_true, zca_some, zr0, zr100, Option.bind_some, zb_none, zb_some, zrc, or_true, true_or, eq_self, ne_eq, not_true_eq_false, not_false_eq_true, zrt_i, zrt_zb, zrt_b, zrt_c, zrt_l, zrt_f, zrt_r, zrt_n, zrt_v, zft_0, zft_1, zft_zb, zft_3, zft_4, zft_5, zft_7r, zft_7n, iI_t, zb_i, zb_0, zb_1, Nat.reduceAdd, Nat.reduceLeDiff, Nat.reduceEqDiff, Nat.reduceSub, Int.reduceNeg, iI_add, iI_sub, iI_mul, iI_neg, iI_n, zbz, zchar_id, zin, zwr_s, zwr_a, zwr_i, if_pos, if_neg, Int.toNat_natCast, Int.natCast_zero, Int.reduceToNat, z69, e10, ei, zt2, zt3, zc3, zc14]
/-- what the reference says of it -/
noncomputable def mFaT (D : zD) (gap lev i : Int) : Int := if mAsT D gap lev = 0 then (match mFa D gap lev i with | some _ => 0 | none => 2) else mAsT D gap lev
theorem mFa_c {D D' : zD} {gap lev i : Int} (q : cEq D D') : mFa D' gap lev i = mFa D gap lev i := by
  unfold mFa
  rw [q.best, q 32 7 (by omega)]
theorem mFaT_c {D D' : zD} {gap lev i : Int} (q : cEq D D') : mFaT D' gap lev i = mFaT D gap lev i := by
  unfold mFaT
  rw [mFa_c q, mAsT_c q]
theorem mFaV_c {D D' : zD} {gap lev i : Int} (q : cEq D D') : mFaV D' gap lev i = mFaV D gap lev i := by
  unfold mFaV
  rw [mFa_c q, mAsT_c q]
theorem mFa_a {D : zD} {gap lev i : Int} (hO : mOk D) : mAft D (mFaD D gap lev i) (mFaT D gap lev i) := by
  have a := mAs_a (gap := gap) (lev := lev) hO
  unfold mFaD mFaT
  by_cases g : mAsT D gap lev = 0
  · rw [if_pos g, if_pos g]
    cases mFa D gap lev i with
    | some q =>
      rw [g] at a
      exact a
    | none => exact ⟨a.1.tr zwr_32, zwr_s, zwr_32n a.2.2⟩
  · rw [if_neg g, if_neg g]
    exact a
theorem faL_m {L : List Nat} {x : Nat} : ∀ {l : Int}, faL L l = some x → x ∈ L := by
  induction L with
  | nil => intro l h; cases h
  | cons y r ih =>
    intro l h
    unfold faL at h
    split at h
    · have := Option.some.inj h
      rw [this]
      exact List.mem_cons_self
    · exact List.mem_cons_of_mem _ (ih h)
theorem tbL_m {m x : Nat} : ∀ {n c : Nat}, x ∈ tbL m c n → c ≤ x ∧ x < c + n
  | 0, _, h => nomatch h
  | n + 1, c, h => by
    unfold tbL at h
    split at h
    · rcases List.mem_cons.mp h with rfl | h
      · omega
      · have := tbL_m h
        omega
    · have := tbL_m h
      omega
set_option maxRecDepth 20000 in
theorem k69 {gap lev ix : Int} {c : Nat} {h : zH} {X D : zD} (p : Inv c h X D) (hg : iR gap) (hl : iR lev) (hx : iR ix) : ∃ D1, InvG c h D X D1 ∧ iR (mFaV D gap lev ix) ∧ (cV (zc 69 7 [.ref 3, .int (Int32.ofInt gap), .int (Int32.ofInt lev), .int (Int32.ofInt ix)] (zV (zU h X) D)) (mFaT D gap lev ix) (mFaV D gap lev ix) h X D1 ∨ cE (zc 69 7 [.ref 3, .int (Int32.ofInt gap), .int (Int32.ofInt lev), .int (Int32.ofInt ix)] (zV (zU h X) D)) (mFaT D gap lev ix) 1 0 h X D1 ∨ cE (zc 69 7 [.ref 3, .int (Int32.ofInt gap), .int (Int32.ofInt lev), .int (Int32.ofInt ix)] (zV (zU h X) D)) (mFaT D gap lev ix) 2 4 h X D1) := by
  obtain ⟨D1, p1, q1, hA⟩ := c89 p hg hl
  have ce1 := q1.ce
  have hO := p.1.1
  have h7 := hO.1.1
  have mb := mkB_b (gap := gap) (lev := lev) hO.2.1.2.2.2
  have mv := mAsT_v (D := D) (gap := gap) (lev := lev)
  have fB := p1.2.2.2.1.1.1
  have fP := p1.2.2.2.1.2.2
  have bt : iR (mFaT D gap lev ix) := by
    unfold mFaT
    by_cases g : mAsT D gap lev = 0
    · rw [if_pos g]
      cases mFa D gap lev ix with
      | none => show iR 2; omega
      | some q => show iR 0; omega
    · rw [if_neg g]
      omega
  have bv : iR (mFaV D gap lev ix) := by
    unfold mFaV
    by_cases g : mAsT D gap lev = 0
    · rw [if_pos g]
      cases ho : mFa D gap lev ix with
      | none => show iR 0; omega
      | some q =>
        unfold mFa at ho
        rw [faR_L] at ho
        have := tbL_m (faL_m ho)
        show iR (q : Int)
        omega
    · rw [if_neg g]
      omega
  have hw : cV (zc 69 7 [.ref 3, .int (Int32.ofInt gap), .int (Int32.ofInt lev), .int (Int32.ofInt ix)] (zV (zU h X) D)) (mFaT D gap lev ix) (mFaV D gap lev ix) h X D1 ∨ cE (zc 69 7 [.ref 3, .int (Int32.ofInt gap), .int (Int32.ofInt lev), .int (Int32.ofInt ix)] (zV (zU h X) D)) (mFaT D gap lev ix) 1 0 h X D1 ∨ cE (zc 69 7 [.ref 3, .int (Int32.ofInt gap), .int (Int32.ofInt lev), .int (Int32.ofInt ix)] (zV (zU h X) D)) (mFaT D gap lev ix) 2 4 h X D1 := by
    rcases hA with ⟨e0, e⟩ | ⟨e0, e⟩ | ⟨e0, e⟩
    · obtain ⟨g1, g2⟩ := mAsT_0 e0
      have hsub : subC (clsD D) (bestM D gap lev) = true := by
        rcases bestM_B hO.1 g1.1 g1.2 hO.2.2.1 with ⟨x, -⟩ | ⟨x, -⟩
        · exact absurd x g2
        · exact x.1
      have enu : nuC D1 (D1 32 16) 0 (D1 32 7).toNat = nuC D (D 32 16) 0 (D 32 7).toNat := by
        rw [ce1 32 16 (by omega), ce1 32 7 (by omega)]
        exact nuC_c (fun i => ⟨ce1 38 i (by omega), ce1 36 i (by omega), ce1 37 i (by omega)⟩) _ _
      obtain ⟨n3, n15⟩ := (show D1 14 3 = ((nuC D (D 32 16) 0 (D 32 7).toNat).length : Nat) ∧ ∀ k, k < (nuC D (D 32 16) 0 (D 32 7).toNat).length → D1 15 k = ((nuC D (D 32 16) 0 (D 32 7).toNat).getD k 0 : Nat) from by
        have := p1.2.2.2.1.2.2
        unfold fiP3 at this
        rw [enu] at this
        exact this)
      have hzp := zp_tb (D := D) (d := D 32 16) rfl (m := bestM D gap lev) (D 32 7).toNat 0 (by rw [Nat.pow_zero, Nat.div_one]; exact hsub)
      rw [Nat.pow_zero, Nat.div_one] at hzp
      have hzp : zpS (nuC D (D 32 16) 0 (D 32 7).toNat) (selC (clsD D) (bestM D gap lev)) = tbL (bestM D gap lev) 0 (D 32 7).toNat := hzp
      have hcl : pcs (clsD D) = (nuC D (D 32 16) 0 (D 32 7).toNat).map (fun i => (D 33 i, D 34 i)) := pcs_nu rfl _ _
      have hpl : (pcs (clsD D)).length = (nuC D (D 32 16) 0 (D 32 7).toNat).length := by rw [hcl, List.length_map]
      have hn8 := fB.1
      have eL := faP_L (F := D1) (mk := mkB D gap lev) (D1 14 3).toNat 0 (nuC D (D 32 16) 0 (D 32 7).toNat) (selC (clsD D) (bestM D gap lev)) ix (by omega) (by rw [selC_len, hpl]; omega) (fun k hk => by
        rw [Nat.zero_add]
        exact n15 k (by omega)) (fun k hk => mb.2 k (by omega))
      rw [hzp, ← faR_L] at eL
      have eL : faP D1 (mkB D gap lev) (D1 14 3).toNat 0 ix = (mFa D gap lev ix).map (fun q : Nat => (q : Int)) := eL
      have hL := c69_l (gi := Int32.ofInt gap) (li := Int32.ofInt lev) (h := h) (X := X) fB mb.1 hx (D1 14 3).toNat 0 0 (by omega) (by omega)
      rw [Int.sub_zero, eL] at hL
      have st : zc 69 7 [.ref 3, .int (Int32.ofInt gap), .int (Int32.ofInt lev), .int (Int32.ofInt ix)] (zV (zU h X) D) = zx 69 14 [some (.ref 3), some (.int (Int32.ofInt gap)), some (.int (Int32.ofInt lev)), some (.int (Int32.ofInt ix)), some (.int (Int32.ofInt (mkB D gap lev : Int))), some (.int (Int32.ofInt 0)), some (.int (Int32.ofInt ((0 : Nat) : Int)))] [] (zV (zU h X) D1) := by
        rw [zc]
        clear p p1 q1 ce1 g1 g2 mv e0 fB fP hO hL eL hzp hcl hpl hn8 n3 n15 enu hsub bt bv mb
        generalize mkB D gap lev = mk at *
        simp (disch := first | omega | (simp (disch := omega) only [zwr_s, zwr_a, zwr_i, zn_put, zn_new, zn_fil, zn_chg, zV_n]; omega)) only [zentry, zs0, zs1, zs2, zs3, zg_lo, zg_st, zg_st2, zg_ald, zg_ast, zs_ia, zs_i0, zcs, zg_ii, zi_max, zi_min, zi_abi, zi_abf, zi_fb, zi_bf, lget, lst, lst2, lc2, Option.map_some, zso, if_true, if_false, zc1, and_true, true_and, and_self, List.length_nil, List.length_cons, Nat.zero_le, reduceIte, reduceCtorEq, false_and, and_false, Bool.false_eq_true, zca_some, zr0, zr100, Option.bind_some, zb_none, zb_some, zrc, or_true, true_or, eq_self, ne_eq, not_true_eq_false, not_false_eq_true, zrt_i, zrt_zb, zrt_b, zrt_c, zrt_l, zrt_f, zrt_r, zrt_n, zrt_v, zft_0, zft_1, zft_zb, zft_3, zft_4, zft_5, zft_7r, zft_7n, iI_t, zb_i, zb_0, zb_1, Nat.reduceAdd, Nat.reduceLeDiff, Nat.reduceEqDiff, Nat.reduceSub, Int.reduceNeg, iI_add, iI_sub, iI_mul, iI_neg, iI_n, zbz, zchar_id, zin, zwr_s, zwr_a, zwr_i, if_pos, if_neg, Int.toNat_natCast, Int.natCast_zero, Int.reduceToNat, z69, zc3, e, zt3]
      rw [st, hL]
      unfold mFaT mFaV
      rw [if_pos e0, if_pos e0]
      cases mFa D gap lev ix with
      | some q => exact Or.inl ⟨rfl, rfl⟩
      | none => exact Or.inr (Or.inr ⟨rfl, rfl⟩)
    · have et : mFaT D gap lev ix = 1 := by unfold mFaT; rw [if_neg (by omega)]; exact e0
      refine Or.inr (Or.inl ⟨et, ?_⟩)
      rw [zc]
      clear p p1 q1 ce1 mv e0 fB fP hO bt bv mb et
      simp (disch := first | omega | (simp (disch := omega) only [zwr_s, zwr_a, zwr_i, zn_put, zn_new, zn_fil, zn_chg, zV_n]; omega)) only [zentry, zs0, zs1, zs2, zs3, zg_lo, zg_st, zg_st2, zg_ald, zg_ast, zs_ia, zs_i0, zcs, zg_ii, zi_max, zi_min, zi_abi, zi_abf, zi_fb, zi_bf, lget, lst, lst2, lc2, Option.map_some, zso, if_true, if_false, zc1, and_true, true_and, and_self, List.length_nil, List.length_cons, Nat.zero_le, reduceIte, reduceCtorEq, false_and, and_false, Bool.false_eq_true, zca_some, zr0, zr100, Option.bind_some, zb_none, zb_some, zrc, or_true, true_or, eq_self, ne_eq, not_true_eq_false, not_false_eq_true, zrt_i, zrt_zb, zrt_b, zrt_c, zrt_l, zrt_f, zrt_r, zrt_n, zrt_v, zft_0, zft_1, zft_zb, zft_3, zft_4, zft_5, zft_7r, zft_7n, iI_t, zb_i, zb_0, zb_1, Nat.reduceAdd, Nat.reduceLeDiff, Nat.reduceEqDiff, Nat.reduceSub, Int.reduceNeg, iI_add, iI_sub, iI_mul, iI_neg, iI_n, zbz, zchar_id, zin, zwr_s, zwr_a, zwr_i, if_pos, if_neg, Int.toNat_natCast, Int.natCast_zero, Int.reduceToNat, z69, zc3, e, zb_x, zt3]
    · have et : mFaT D gap lev ix = 2 := by unfold mFaT; rw [if_neg (by omega)]; exact e0
      refine Or.inr (Or.inr ⟨et, ?_⟩)
      rw [zc]
      clear p p1 q1 ce1 mv e0 fB fP hO bt bv mb et
      simp (disch := first | omega | (simp (disch := omega) only [zwr_s, zwr_a, zwr_i, zn_put, zn_new, zn_fil, zn_chg, zV_n]; omega)) only [zentry, zs0, zs1, zs2, zs3, zg_lo, zg_st, zg_st2, zg_ald, zg_ast, zs_ia, zs_i0, zcs, zg_ii, zi_max, zi_min, zi_abi, zi_abf, zi_fb, zi_bf, lget, lst, lst2, lc2, Option.map_some, zso, if_true, if_false, zc1, and_true, true_and, and_self, List.length_nil, List.length_cons, Nat.zero_le, reduceIte, reduceCtorEq, false_and, and_false, Bool.false_eq_true, zca_some, zr0, zr100, Option.bind_some, zb_none, zb_some, zrc, or_true, true_or, eq_self, ne_eq, not_true_eq_false, not_false_eq_true, zrt_i, zrt_zb, zrt_b, zrt_c, zrt_l, zrt_f, zrt_r, zrt_n, zrt_v, zft_0, zft_1, zft_zb, zft_3, zft_4, zft_5, zft_7r, zft_7n, iI_t, zb_i, zb_0, zb_1, Nat.reduceAdd, Nat.reduceLeDiff, Nat.reduceEqDiff, Nat.reduceSub, Int.reduceNeg, iI_add, iI_sub, iI_mul, iI_neg, iI_n, zbz, zchar_id, zin, zwr_s, zwr_a, zwr_i, if_pos, if_neg, Int.toNat_natCast, Int.natCast_zero, Int.reduceToNat, z69, zc3, e, zb_x, zt3]
  exact ⟨D1, ⟨p1, fun a i w => q1 a i (by omega) (by omega)⟩, bv, hw⟩

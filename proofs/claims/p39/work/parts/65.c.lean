/-! .. and the filler is as it should be -/
theorem pcs_nu {D : zD} {d : Int} (hd : D 32 16 = d) : ∀ (n c : Nat), pcs (clsF D c n) = (nuC D d c n).map (fun i => (D 33 i, D 34 i))
  | 0, _ => rfl
  | n + 1, c => by
    rw [clsF, nuC]
    by_cases g : D 38 c = 1 ∧ D 36 c ≤ d ∧ d ≤ D 37 c
    · have hz : zflag D c = true := by
        unfold zflag
        rw [hd]
        simp [g.1, g.2.1, g.2.2]
      rw [if_pos g, pcs_t hz, pcs_nu hd n (c + 1)]
      rfl
    · have hz : zflag D c = false := by
        cases q : zflag D c with
        | false => rfl
        | true =>
          unfold zflag at q
          rw [hd] at q
          simp only [Bool.and_eq_true, decide_eq_true_eq] at q
          exact absurd q g
      rw [if_neg g, pcs_f hz, pcs_nu hd n (c + 1)]
theorem nuC_m {D : zD} {d : Int} : ∀ (n c x : Nat), x ∈ nuC D d c n → c ≤ x ∧ x < c + n
  | 0, _, _, h => by cases h
  | n + 1, c, x, h => by
    rw [nuC] at h
    split at h
    · rcases List.mem_cons.mp h with rfl | h
      · omega
      · have := nuC_m n (c + 1) x h
        omega
    · have := nuC_m n (c + 1) x h
      omega
theorem psF_tk {D D' : zD} {L : List Nat} (h : ∀ k, k < L.length → D' 16 k = D 33 (L.getD k 0) ∧ D' 17 k = D 34 (L.getD k 0)) : ∀ (n i : Nat), i + n = L.length → psF D' i n = (L.drop i).map (fun i => (D 33 i, D 34 i))
  | 0, i, hi => by
    rw [psF, List.drop_eq_nil_of_le (by omega)]
    rfl
  | n + 1, i, hi => by
    have hk := h i (by omega)
    rw [psF, psF_tk h n (i + 1) (by omega), List.drop_eq_getElem_cons (show i < L.length by omega), List.map_cons, hk.1, hk.2, List.getD_eq_getElem?_getD, List.getElem?_eq_getElem (show i < L.length by omega)]
    rfl
/-- what the filler notes of a piece is the clip's -/
def fiNu (D : zD) : Prop := ∀ k : Nat, (k : Int) < D 14 3 → D 16 k = D 33 (D 15 k).toNat ∧ D 17 k = D 34 (D 15 k).toNat
theorem lnF_c2 {D D' : zD} : ∀ (n i : Nat), (∀ k, i ≤ k → k < i + n → D' 16 k = D 16 k) → lnF D' i n = lnF D i n
  | 0, _, _ => rfl
  | n + 1, i, h => by
    rw [lnF, lnF, h i (Nat.le_refl _) (by omega), lnF_c2 n (i + 1) (fun k h1 h2 => h k (by omega) (by omega))]
set_option maxRecDepth 20000 in
/-- the pieces of day d are noted: the filler of a state whose day is d -/
theorem c9 {d : Int} {h : zH} {X D E : zD} (hO : clO h X D) (hC : mCl D) (hd : 0 ≤ d ∧ d ≤ 999) (hB : fiB D) (h5 : D 14 5 = 0 ∨ D 14 5 = 1) (hT : D 14 5 = 1 → fiT D) (hN : fiNu D) (hE : ∀ a i, a ≠ 32 ∨ i ≠ 16 → E a i = D a i) (hEd : E 32 16 = d) (h8 : (pcs (clsD E)).length ≤ 8) :
    ∃ D', zc 9 7 [.ref 14, .ref 4, .int (Int32.ofInt d)] (zV (zU h X) D) = some (.inl none, zV (zU h X) D') ∧ (∀ a i, a ≠ 15 ∧ a ≠ 16 ∧ a ≠ 17 → a ≠ 14 ∨ (i ≠ 3 ∧ i ≠ 5) → D' a i = D a i) ∧ fiB D' ∧ psF D' 0 (D' 14 3).toNat = pcs (clsD E) ∧ (D' 14 5 = 0 ∨ D' 14 5 = 1) ∧ (D' 14 5 = 1 → fiT D') ∧ fiNu D' ∧ D' 14 3 = ((nuC D d 0 (D 32 7).toNat).length : Nat) ∧ (∀ k, k < (nuC D d 0 (D 32 7).toNat).length → D' 15 k = ((nuC D d 0 (D 32 7).toNat).getD k 0 : Nat)) := by
  have hn := hC.1
  have hnuE : ∀ n c, nuC E d c n = nuC D d c n := by
    intro n
    induction n with
    | zero => intro c; rfl
    | succ n ih =>
      intro c
      rw [nuC, nuC, ih, hE 38 c (by omega), hE 36 c (by omega), hE 37 c (by omega)]
  have hpE : pcs (clsD E) = (nuC D d 0 (D 32 7).toNat).map (fun i => (D 33 i, D 34 i)) := by
    unfold clsD
    rw [pcs_nu hEd, hnuE, hE 32 7 (by omega)]
    refine List.map_congr_left fun i _ => ?_
    rw [hE 33 i (by omega), hE 34 i (by omega)]
  have hl8 : (nuC D d 0 (D 32 7).toNat).length ≤ 8 := by
    rw [hpE, List.length_map] at h8
    exact h8
  obtain ⟨s', hs', h01, e⟩ := c9_l (d := d) hO hC (by omega) hB.1 h5 (fun k hk => (hB.2 k hk).1) (D 32 7).toNat 0 [] 1 none (by omega) (by rw [List.length_nil, Nat.zero_add]; exact hl8) (by
    refine ⟨fun _ k hk => (by cases hk), fun _ => rfl⟩) (Or.inr rfl)
  rw [List.nil_append, tkD_0] at e
  rw [List.nil_append] at hs'
  have hmem : ∀ k, k < (nuC D d 0 (D 32 7).toNat).length → (nuC D d 0 (D 32 7).toNat).getD k 0 < (D 32 7).toNat := fun k hk => by
    rw [List.getD_eq_getElem?_getD, List.getElem?_eq_getElem hk]
    have := nuC_m (D := D) (d := d) _ _ _ (List.getElem_mem hk)
    show (nuC D d 0 (D 32 7).toNat)[k] < _
    omega
  generalize hL : nuC D d 0 (D 32 7).toNat = L at *
  have v15 : ∀ k, k < L.length → zwr (zwr (tkD D L) 14 5 (zb (D 14 5 = 1 ∧ s' = 1 ∧ (L.length : Int) = D 14 3))) 14 3 (L.length : Int) 15 k = (L.getD k 0 : Nat) := fun k hk => by
    rw [zwr_a (by omega), zwr_a (by omega)]
    unfold tkD
    rw [if_pos ⟨hk, rfl⟩]
  have v16 : ∀ k, k < L.length → zwr (zwr (tkD D L) 14 5 (zb (D 14 5 = 1 ∧ s' = 1 ∧ (L.length : Int) = D 14 3))) 14 3 (L.length : Int) 16 k = D 33 (L.getD k 0) := fun k hk => by
    rw [zwr_a (by omega), zwr_a (by omega)]
    unfold tkD
    rw [if_neg (by omega), if_pos ⟨hk, rfl⟩]
  have v17 : ∀ k, k < L.length → zwr (zwr (tkD D L) 14 5 (zb (D 14 5 = 1 ∧ s' = 1 ∧ (L.length : Int) = D 14 3))) 14 3 (L.length : Int) 17 k = D 34 (L.getD k 0) := fun k hk => by
    rw [zwr_a (by omega), zwr_a (by omega)]
    unfold tkD
    rw [if_neg (by omega), if_neg (by omega), if_pos ⟨hk, rfl⟩]
  have v3 : zwr (zwr (tkD D L) 14 5 (zb (D 14 5 = 1 ∧ s' = 1 ∧ (L.length : Int) = D 14 3))) 14 3 (L.length : Int) 14 3 = (L.length : Int) := zwr_s
  have v5 : zwr (zwr (tkD D L) 14 5 (zb (D 14 5 = 1 ∧ s' = 1 ∧ (L.length : Int) = D 14 3))) 14 3 (L.length : Int) 14 5 = zb (D 14 5 = 1 ∧ s' = 1 ∧ (L.length : Int) = D 14 3) := by
    rw [zwr_i (by omega), zwr_s]
  have vo : ∀ a i, a ≠ 15 ∧ a ≠ 16 ∧ a ≠ 17 → a ≠ 14 ∨ (i ≠ 3 ∧ i ≠ 5) → zwr (zwr (tkD D L) 14 5 (zb (D 14 5 = 1 ∧ s' = 1 ∧ (L.length : Int) = D 14 3))) 14 3 (L.length : Int) a i = D a i := fun a i h1 h2 => by
    rw [zwr_e, if_neg (by omega), zwr_e, if_neg (by omega), tkD_o h1]
  refine ⟨_, ?_, vo, ?_, ?_, ?_, ?_, ?_, v3, v15⟩
  · rw [← e, zc]
    clear e hs' h01 v15 v16 v17 v3 v5 vo hmem hl8 hpE hnuE hO hC hB hT hN hE h8
    simp (disch := first | omega | (simp (disch := omega) only [zwr_s, zwr_a, zwr_i, zn_put, zn_new, zn_fil, zn_chg, zV_n]; omega)) only [zentry, zs0, zs1, zs2, zs3, zg_lo, zg_st, zg_st2, zg_ald, zg_ast, zs_ia, zs_i0, zcs, zg_ii, zi_max, zi_min, zi_abi, zi_abf, zi_fb, zi_bf, lget, lst, lst2, lc2, Option.map_some, zso, if_true, if_false, zc1, and_true, true_and, and_self, List.length_nil, List.length_cons, Nat.zero_le, reduceIte, reduceCtorEq, false_and, and_false, Bool.false_eq_true, zca_some, zr0, zr100, Option.bind_some, zb_none, zb_some, zrc, or_true, true_or, eq_self, ne_eq, not_true_eq_false, not_false_eq_true, zrt_i, zrt_zb, zrt_b, zrt_c, zrt_l, zrt_f, zrt_r, zrt_n, zrt_v, zft_0, zft_1, zft_zb, zft_3, zft_4, zft_5, zft_7r, zft_7n, iI_t, zb_i, zb_0, zb_1, Nat.reduceAdd, Nat.reduceLeDiff, Nat.reduceEqDiff, Nat.reduceSub, Int.reduceNeg, iI_add, iI_sub, iI_mul, iI_neg, iI_n, zbz, zchar_id, zin, zwr_s, zwr_a, zwr_i, if_pos, if_neg, Int.toNat_natCast, Int.natCast_zero, Int.reduceToNat, z9, Int.natCast_zero, List.length_nil]
  · refine ⟨by rw [v3]; omega, fun k hk => ?_⟩
    rw [v3] at hk
    have hm := hmem k (by omega)
    have hc := hC.2.2 (L.getD k 0) (by omega)
    rw [v15 k (by omega), v16 k (by omega), v17 k (by omega)]
    exact ⟨by omega, hc.1, hc.2.1⟩
  · rw [v3, Int.toNat_natCast, psF_tk (D := D) (L := L) (fun k hk => ⟨v16 k hk, v17 k hk⟩) L.length 0 (by omega), List.drop_zero, hpE]
  · rw [v5]
    by_cases q : D 14 5 = 1 ∧ s' = 1 ∧ (L.length : Int) = D 14 3
    · rw [zb_t q]; exact Or.inr rfl
    · rw [zb_f q]; exact Or.inl rfl
  · intro q
    rw [v5] at q
    have q : D 14 5 = 1 ∧ s' = 1 ∧ (L.length : Int) = D 14 3 := by
      by_cases g : D 14 5 = 1 ∧ s' = 1 ∧ (L.length : Int) = D 14 3
      · exact g
      · rw [zb_f g] at q
        omega
    have hT := hT q.1
    have hsa := hs'.mp q.2.1
    intro r s hr hs
    rw [v3, Int.toNat_natCast, vo (19 + r) s (by omega) (by omega), hT r s hr hs, show (D 14 3).toNat = L.length by omega]
    congr 1
    refine (lnF_c2 _ _ fun k h1 h2 => ?_).symm
    have hk := hsa k (by omega)
    rw [v16 k (by omega), (hN k hk.1).1, hk.2, Int.toNat_natCast]
  · intro k hk
    rw [v3] at hk
    rw [v15 k (by omega), v16 k (by omega), v17 k (by omega), Int.toNat_natCast, vo 33 _ (by omega) (by omega), vo 34 _ (by omega) (by omega)]
    exact ⟨rfl, rfl⟩

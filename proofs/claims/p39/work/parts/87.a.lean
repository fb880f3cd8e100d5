/-! the law's run, from its entry -/
theorem y243_0 :
  (∀ (ls : zL) (st : zS) (h : zH), zx 243 0 ls st h = zgo 243 (zpure (.new 8) 3 0 [5, 8] ls st h)) ∧
  (∀ (ls : zL) (st : zS) (h : zH), zx 243 3 ls st h = zgo 243 (zpure .dup 4 0 [] ls st h)) ∧
  (∀ (ls : zL) (st : zS) (h : zH), zx 243 4 ls st h = zca 243 4 7 ls 41 1 100 (ztake 1 st) h) ∧
  (∀ (ls : zL) (st : zS) (h : zH), zx 243 7 ls st h = zgo 243 (zpure (.astore_n 1) 8 0 [] ls st h)) ∧
  (∀ (ls : zL) (st : zS) (h : zH), zx 243 8 ls st h = zgo 243 (zpure (.aload_n 0) 9 0 [] ls st h)) ∧
  (∀ (ls : zL) (st : zS) (h : zH), zx 243 9 ls st h = zgo 243 (zpure (.iconst 0) 10 0 [] ls st h)) ∧
  (∀ (ls : zL) (st : zS) (h : zH), zx 243 10 ls st h = zca 243 10 13 ls 220 2 0 (ztake 2 st) h) ∧
  (∀ (ls : zL) (st : zS) (h : zH), zx 243 13 ls st h = zgo 243 (zpure (.bipush 52) 15 0 [] ls st h)) ∧
  (∀ (ls : zL) (st : zS) (h : zH), zx 243 15 ls st h = zca 243 15 18 ls 221 3 0 (ztake 2 st) h) ∧
  (∀ (ls : zL) (st : zS) (h : zH), zx 243 18 ls st h = zgo 243 (zpure (.istore_n 2) 19 0 [] ls st h)) ∧
  (∀ (ls : zL) (st : zS) (h : zH), zx 243 19 ls st h = zgo 243 (zpure (.iconst 0) 20 0 [] ls st h)) ∧
  (∀ (ls : zL) (st : zS) (h : zH), zx 243 20 ls st h = zgo 243 (zpure (.istore_n 3) 21 0 [] ls st h)) :=
  ⟨zx_0 rfl, zx_0 rfl, zx_2c rfl, zx_0 rfl, zx_0 rfl, zx_0 rfl, zx_2c rfl, zx_0 rfl, zx_2c rfl, zx_0 rfl, zx_0 rfl, zx_0 rfl⟩
theorem y243_e :
  (∀ (ls : zL) (st : zS) (h : zH), zx 243 21 ls st h = zgo 243 (zpure (.iload_n 3) 22 0 [] ls st h)) ∧
  (∀ (ls : zL) (st : zS) (h : zH), zx 243 22 ls st h = zgo 243 (zpure (.iload_n 2) 23 0 [] ls st h)) ∧
  (∀ (ls : zL) (st : zS) (h : zH), zx 243 23 ls st h = zgo 243 (zpure (.if_icmp .ge 578) 26 601 [] ls st h)) :=
  ⟨zx_0 rfl, zx_0 rfl, zx_0 rfl⟩
theorem Inv_ct {c : Nat} {h h' : zH} {X D : zD} (e : h'.2 = h.2) (hn : zn h' = zn h) (hu : zuc h' ≤ 1000 + 10 * c ∧ zus h' ≤ 1000000 + 100 * c) (p : Inv c h X D) : Inv c h' X D := by
  obtain ⟨⟨n, u, s⟩, r⟩ := h
  obtain ⟨⟨n', u', s'⟩, r'⟩ := h'
  have e : r' = r := e
  have hn : n' = n := hn
  subst e hn
  obtain ⟨a, b, d, f, g, ⟨f1, -, f3⟩⟩ := p
  exact ⟨a, b, d, f, g, ⟨f1, hu, f3⟩⟩
theorem pV_32 {x : Nat} (hx : x < 32) (i : Nat) : pV 31 x i = pV 54 x i := by
  have hd : (pW.drop 31).all (fun q => Nat.ble 32 q.1) = true := by decide +kernel
  have e1 : pW.take 54 = pW.take 31 ++ pW.drop 31 := by decide +kernel
  have e : (pW.take 54).contains (x, i) = (pW.take 31).contains (x, i) := by
    rw [Bool.eq_iff_iff, List.contains_iff_mem, List.contains_iff_mem, e1, List.mem_append]
    refine ⟨fun q => ?_, fun q => Or.inl q⟩
    rcases q with q | q
    · exact q
    · have := Nat.le_of_ble_eq_true (List.all_eq_true.mp hd _ q)
      exact absurd (show 32 ≤ x from this) (by omega)
  unfold pV
  rw [e]
section RUN
variable {L : Nat} {xs : Nat → Int32}
theorem zI_4 : zINV L xs (zP L xs 4 0) := by
  have f0 : znew (zP L xs 3 0) 5 8 (fun i => zdef (zty 5 i)) = zP L xs 4 0 := zP_new (by decide) (by decide +kernel) (by decide +kernel) (fun i => rfl) trivial (by decide +kernel)
  have hp : zpure (.new 8) 3 0 [5, 8] (zentry 1 [.ref 0]) [] (zP L xs 3 0) = some (3, zentry 1 [.ref 0], [.ref 3], zP L xs 4 0) := by
    rw [← f0]
    rfl
  have I0 : zINV L xs (zP L xs 3 0) := zP_0 ▸ zh0_inv L xs
  exact (zpure_inv I0 (show zok0 243 0 (.new 8) 3 0 [5, 8] from zcode_ok 243 0 (0, .new 8, 3, 0, [5, 8]) rfl (by rfl)) hp (zLOK_entry (m := 3) (fun v hv a ea => by
    rcases List.mem_cons.mp hv with rfl | hv
    · cases ea
      exact (by decide : (0 : Nat) < 3)
    · cases hv)) (zSOK_nil.mpr trivial)).1
theorem zI_32 : zINV L xs (zP L xs 32 31) := (zx_inv zcode_ok 41 0 (zentry 1 [.ref 3]) [] (zP L xs 4 0) _ k41 rfl zI_4 (zLOK_entry (m := 4) (fun v hv a ea => by
    rcases List.mem_cons.mp hv with rfl | hv
    · cases ea
      exact (by decide : (3 : Nat) < 4)
    · cases hv)) (zSOK_nil.mpr trivial)).1
def hS (L : Nat) (xs : Nat → Int32) : zH := ((70, 29, pU 32), (zP L xs 70 54).2)
theorem hS_V : (zV (zU (hS L xs) pX) pD).2 = (zP L xs 70 54).2 := by
  have e : (zV (zU (hS L xs) pX) pD).2 = (zV (zU (zP L xs 70 54) pX) pD).2 := rfl
  rw [e, ← zP_V]
theorem SW_0 : SW 38 0 0 (zV (zU (hS L xs) pX) pD) (zP L xs 32 31) := by
  have hm := (zI_32 (L := L) (xs := xs)).1.2.2.2.2.2.2.2.2
  refine ⟨Nat.le_refl _, Nat.le_refl 70, rfl, rfl, rfl, fun x hx => ?_⟩
  have ek : zk (zV (zU (hS L xs) pX) pD) x = zk (zP L xs 70 54) x := congrArg (fun q => q.1 x) hS_V
  have el : zl (zV (zU (hS L xs) pX) pD) x = zl (zP L xs 70 54) x := congrArg (fun q => q.2.1 x) hS_V
  have em : ∀ i, zm (zV (zU (hS L xs) pX) pD) x i = zm (zP L xs 70 54) x i := fun i => congrArg (fun q => q.2.2 x i) hS_V
  rw [ek, el]
  rcases hx with hx | hx
  · rw [sg_lo (by omega)]
    have e2 : zk (zP L xs 32 31) x = zk (zP L xs 70 54) x := by
      show (if x = 0 then 30 else if x = 1 then 31 else if x = 2 then 50 else if x < 32 then pK x else 60) = (if x = 0 then 30 else if x = 1 then 31 else if x = 2 then 50 else if x < 70 then pK x else 60)
      rw [if_pos hx, if_pos (show x < 70 by omega)]
    have e3 : zl (zP L xs 32 31) x = zl (zP L xs 70 54) x := by
      show (if x = 0 then L else if 3 ≤ x ∧ x < 32 then pL x else 0) = (if x = 0 then L else if 3 ≤ x ∧ x < 70 then pL x else 0)
      by_cases g : x = 0
      · rw [if_pos g, if_pos g]
      · rw [if_neg g, if_neg g]
        by_cases g2 : 3 ≤ x
        · rw [if_pos ⟨g2, hx⟩, if_pos ⟨g2, by omega⟩]
        · rw [if_neg (by omega), if_neg (by omega)]
    have e4 : ∀ i, zm (zP L xs 32 31) x i = zm (zP L xs 70 54) x i := fun i => by
      show (if x = 0 then .int (xs i) else if 3 ≤ x ∧ x < 32 then pV 31 x i else .null) = (if x = 0 then Value.int (xs i) else if 3 ≤ x ∧ x < 70 then pV 54 x i else .null)
      by_cases g : x = 0
      · rw [if_pos g, if_pos g]
      · rw [if_neg g, if_neg g]
        by_cases g2 : 3 ≤ x
        · rw [if_pos ⟨g2, hx⟩, if_pos ⟨g2, by omega⟩, pV_32 hx]
        · rw [if_neg (by omega), if_neg (by omega)]
    have e5 : ∀ i, NGv (zm (zP L xs 32 31) x i) ∧ vmap (sg 38) (zm (zP L xs 32 31) x i) = zm (zP L xs 32 31) x i := fun i => by
      have v := hm x i
      generalize zm (zP L xs 32 31) x i = w at v ⊢
      cases w with
      | ref a =>
        have h32 : a < 32 := v a rfl
        exact ⟨NGv_ref.mpr (Or.inl h32), by rw [show vmap (sg 38) (.ref a) = .ref (sg 38 a) from rfl, sg_lo (Nat.lt_trans h32 (by decide))]⟩
      | _ => exact ⟨(fun a e => nomatch e), rfl⟩
    exact ⟨e2, e3, fun i => by rw [em, ← e4]; exact (e5 i).2.symm, fun i => by rw [em, ← e4]; exact (e5 i).1⟩
  · rw [sg_hi hx]
    have n1 : ∀ i, zm (zP L xs 70 54) x i = .null := fun i => by
      show (if x = 0 then Value.int (xs i) else if 3 ≤ x ∧ x < 70 then pV 54 x i else .null) = _
      rw [if_neg (by omega), if_neg (by omega)]
    refine ⟨?_, ?_, fun i => ?_, fun i => ?_⟩
    · show (if x - 38 = 0 then 30 else if x - 38 = 1 then 31 else if x - 38 = 2 then 50 else if x - 38 < 32 then pK (x - 38) else 60) = (if x = 0 then 30 else if x = 1 then 31 else if x = 2 then 50 else if x < 70 then pK x else 60)
      rw [if_neg (by omega), if_neg (by omega), if_neg (by omega), if_neg (by omega), if_neg (by omega), if_neg (by omega), if_neg (by omega), if_neg (by omega)]
    · show (if x - 38 = 0 then L else if 3 ≤ x - 38 ∧ x - 38 < 32 then pL (x - 38) else 0) = (if x = 0 then L else if 3 ≤ x ∧ x < 70 then pL x else 0)
      rw [if_neg (by omega), if_neg (by omega), if_neg (by omega), if_neg (by omega)]
    · rw [em, n1]
      show (if x - 38 = 0 then Value.int (xs i) else if 3 ≤ x - 38 ∧ x - 38 < 32 then pV 31 (x - 38) i else .null) = _
      rw [if_neg (by omega), if_neg (by omega)]
      rfl
    · rw [em, n1]
      exact NGv_null.mpr trivial
theorem St_0 : St L xs 0 0 pD (zP L xs 32 31) := by
  refine ⟨zI_32, hS L xs, pX, pD, 0, 0, SW_0, Inv_ct (h := zP L xs 70 54) (h' := hS L xs) rfl rfl ⟨?_, ?_⟩ Inv_0, gs.rf, fun i => ?_, ?_, Nat.le_refl _, Nat.zero_le _⟩
  · show 29 ≤ _
    omega
  · show pU 32 ≤ _
    decide +kernel
  · rw [pD_0 ⟨by decide, by decide⟩]
    omega
  · rw [pD_0 ⟨by decide, by decide⟩]
    omega
set_option maxRecDepth 20000 in
set_option maxRecDepth 20000 in
theorem lw_head (hL : L ≤ 260) : ∃ r : Int, (0 ≤ r ∧ r < 52) ∧ zc 243 16 [.ref 0] (zh0 L xs) = zx 243 21 (lwL r 0 none none none none none none none none none none none none) [] (zP L xs 32 31) := by
  have f0 : znew (zP L xs 3 0) 5 8 (fun i => zdef (zty 5 i)) = zP L xs 4 0 := zP_new (by decide) (by decide +kernel) (by decide +kernel) (fun i => rfl) trivial (by decide +kernel)
  have e41 := k41 (L := L) (xs := xs)
  obtain ⟨s, hs, e1⟩ := w220 (k := 0) (St_0 (L := L) (xs := xs)) (by omega) ⟨by omega, by omega⟩
  obtain ⟨r, hr, e2⟩ := w221 (H := zP L xs 32 31) (v := s) (m := 52) hs ⟨by omega, by omega⟩
  refine ⟨r, hr, ?_⟩
  rw [zP_0, zc]
  simp (disch := first | omega | (simp (disch := omega) only [zwr_s, zwr_a, zwr_i, zn_put, zn_new, zn_fil, zn_chg, zV_n]; omega)) only [zentry, zs0, zs1, zs2, zs3, zg_lo, zg_st, zg_st2, zg_ald, zg_ast, zs_ia, zs_i0, zg_ii, zi_max, zi_min, zi_abi, zi_abf, zi_fb, zi_bf, lget, lst, lst2, lc2, Option.map_some, zso, if_true, if_false, zc1, and_true, true_and, and_self, List.length_nil, List.length_cons, Nat.zero_le, reduceIte, reduceCtorEq, false_and, and_false, Bool.false_eq_true, zca_some, zr0, zr100, Option.bind_some, zb_none, zb_some, zrc, or_true, true_or, eq_self, ne_eq, not_true_eq_false, not_false_eq_true, zrt_i, zrt_zb, zrt_b, zrt_c, zrt_l, zrt_f, zrt_r, zrt_n, zrt_v, zft_0, zft_1, zft_zb, zft_3, zft_4, zft_5, zft_7r, zft_7n, iI_t, zb_i, zb_0, zb_1, Nat.reduceAdd, Nat.reduceLeDiff, Nat.reduceEqDiff, Nat.reduceSub, Int.reduceNeg, iI_add, iI_sub, iI_mul, iI_neg, zbz, zchar_id, zin, zwr_s, zwr_a, zwr_i, if_pos, if_neg, Int.toNat_natCast, Int.natCast_zero, Int.reduceToNat, y243_0, zt1, zt2, zP_n, f0, e41, e1, e2]
set_option maxRecDepth 20000 in
theorem lw_run (hL : L ≤ 260) : ∃ h', zc 243 16 [.ref 0] (zh0 L xs) = some (.inl (some (.int 1)), h') ∧ zuc h' ≤ 600086 ∧ zus h' ≤ 7301442 := by
  obtain ⟨r, hr, e0⟩ := lw_head (xs := xs) hL
  obtain ⟨y4, y5, y6, y7, y8, y9, y10, y11, y12, y13, y14, y15, c, G, H, e1, hc, p⟩ := lw_loop (L := L) (xs := xs) (st := r) (by omega) r.toNat 0 0 0 pD (zP L xs 32 31) none none none none none none none none none none none none (by omega) (by omega) (by omega) (by omega) St_0
  obtain ⟨H2, e2, p2⟩ := lf_all (st := r) (k := r) (x4 := y4) (x5 := y5) (x6 := y6) (x7 := y7) (x8 := y8) (x9 := y9) (x10 := y10) (x11 := y11) (x12 := y12) (x13 := y13) (x14 := y14) (x15 := y15) ⟨by omega, by omega⟩ (by omega) p
  have ex : zx 243 21 (lwL r r y4 y5 y6 y7 y8 y9 y10 y11 y12 y13 y14 y15) [] H = zx 243 601 (lwL r r y4 y5 y6 y7 y8 y9 y10 y11 y12 y13 y14 y15) [] H := by
    clear e0 e1 e2 p p2
    simp (disch := first | omega | (simp (disch := omega) only [zwr_s, zwr_a, zwr_i, zn_put, zn_new, zn_fil, zn_chg, zV_n]; omega)) only [zentry, zs0, zs1, zs2, zs3, zg_lo, zg_st, zg_st2, zg_ald, zg_ast, zs_ia, zs_i0, zg_ii, zi_max, zi_min, zi_abi, zi_abf, zi_fb, zi_bf, lget, lst, lst2, lc2, Option.map_some, zso, if_true, if_false, zc1, and_true, true_and, and_self, List.length_nil, List.length_cons, Nat.zero_le, reduceIte, reduceCtorEq, false_and, and_false, Bool.false_eq_true, zca_some, zr0, zr100, Option.bind_some, zb_none, zb_some, zrc, or_true, true_or, eq_self, ne_eq, not_true_eq_false, not_false_eq_true, zrt_i, zrt_zb, zrt_b, zrt_c, zrt_l, zrt_f, zrt_r, zrt_n, zrt_v, zft_0, zft_1, zft_zb, zft_3, zft_4, zft_5, zft_7r, zft_7n, iI_t, zb_i, zb_0, zb_1, Nat.reduceAdd, Nat.reduceLeDiff, Nat.reduceEqDiff, Nat.reduceSub, Int.reduceNeg, iI_add, iI_sub, iI_mul, iI_neg, zbz, zchar_id, zin, zwr_s, zwr_a, zwr_i, if_pos, if_neg, Int.toNat_natCast, Int.natCast_zero, Int.reduceToNat, y243_e, zt1]
  have rm := p2.room
  refine ⟨H2, ?_, by omega, by omega⟩
  rw [e0, e1, ex, e2]
  rfl
end RUN

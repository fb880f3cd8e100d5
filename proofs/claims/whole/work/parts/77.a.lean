/-! the law: a step for each case (a program has written them) -/
theorem lw_0 {c L : Nat} {xs : Nat → Int32} {h : zH} {X D : zD} {I : Int} {x6 x7 x8 : Option Value} (p : Inv c h X D) (hc : c < 600) (z : zINV L xs (zV (zU h X) D)) (hI : 0 ≤ I ∧ I + 6 ≤ (L : Int) ∧ (L : Int) ≤ 3072) : lwT L xs c I (zx 219 204 [some (.ref 0), some (.ref 3), some (.ref 32), some (.ref 68), some (.ref 69), some (.int (Int32.ofInt I)), x6, x7, x8] [] (zV (zU h X) D)) := by
  have hn : 70 ≤ zn (zV (zU h X) D) := p.2.2.2.2.2.1.1
  obtain ⟨k, b, h1, h2, X2, D1, D2, ew, em, hk, ⟨rk, rb⟩, hv, p2, -⟩ := q0 p hc (lw_r (xs (I + 1).toNat)) (lw_r (xs (I + 2).toNat)) (lw_r (xs (I + 3).toNat)) (lw_r (xs (I + 4).toNat)) (lw_r (xs (I + 5).toNat))
  obtain ⟨z1, n1⟩ := lw_I z hn ew rfl
  obtain ⟨z2, n2⟩ := lw_I z1 n1 em rfl
  exact ⟨_, _, _, _, _, _, (lA_0 (lw_l z) (lw_m z) hI ew).trans ((lB_0 (lw_l z1) (lw_m z1) (zc32.1 _ _) hI em).trans (lC_0 (zc32.1 _ _) (by rw [← hk]; exact m103) rk rb (zc68.1 _ _) (zc68.2.1 _ _) (zc68.2.2.1 _ _ 0) hv)), p2, z2⟩
theorem lw_1 {c L : Nat} {xs : Nat → Int32} {h : zH} {X D : zD} {I : Int} {x6 x7 x8 : Option Value} (p : Inv c h X D) (hc : c < 600) (z : zINV L xs (zV (zU h X) D)) (hI : 0 ≤ I ∧ I + 6 ≤ (L : Int) ∧ (L : Int) ≤ 3072) : lwT L xs c I (zx 219 308 [some (.ref 0), some (.ref 3), some (.ref 32), some (.ref 68), some (.ref 69), some (.int (Int32.ofInt I)), x6, x7, x8] [] (zV (zU h X) D)) := by
  have hn : 70 ≤ zn (zV (zU h X) D) := p.2.2.2.2.2.1.1
  obtain ⟨k, b, h1, h2, X2, D1, D2, ew, em, hk, ⟨rk, rb⟩, hv, p2, -⟩ := q1 p hc (lw_r (xs (I + 1).toNat)) (lw_r (xs (I + 2).toNat)) (lw_r (xs (I + 3).toNat)) (lw_r (xs (I + 4).toNat))
  obtain ⟨z1, n1⟩ := lw_I z hn ew rfl
  obtain ⟨z2, n2⟩ := lw_I z1 n1 em rfl
  exact ⟨_, _, _, _, _, _, (lA_1 (lw_l z) (lw_m z) hI ew).trans ((lB_1 (lw_l z1) (lw_m z1) (zc32.1 _ _) hI em).trans (lC_1 (zc32.1 _ _) (by rw [← hk]; exact m103) rk rb (zc68.1 _ _) (zc68.2.1 _ _) (zc68.2.2.1 _ _ 0) hv)), p2, z2⟩
theorem lw_2 {c L : Nat} {xs : Nat → Int32} {h : zH} {X D : zD} {I : Int} {x6 x7 x8 : Option Value} (p : Inv c h X D) (hc : c < 600) (z : zINV L xs (zV (zU h X) D)) (hI : 0 ≤ I ∧ I + 6 ≤ (L : Int) ∧ (L : Int) ≤ 3072) : lwT L xs c I (zx 219 400 [some (.ref 0), some (.ref 3), some (.ref 32), some (.ref 68), some (.ref 69), some (.int (Int32.ofInt I)), x6, x7, x8] [] (zV (zU h X) D)) := by
  have hn : 70 ≤ zn (zV (zU h X) D) := p.2.2.2.2.2.1.1
  obtain ⟨k, b, h1, h2, X2, D1, D2, ew, em, hk, ⟨rk, rb⟩, hv, p2, -⟩ := q2 p hc (lw_r (xs (I + 1).toNat))
  obtain ⟨z1, n1⟩ := lw_I z hn ew rfl
  obtain ⟨z2, n2⟩ := lw_I z1 n1 em rfl
  exact ⟨_, _, _, _, _, _, (lA_2 (lw_l z) (lw_m z) hI ew).trans ((lB_2 (lw_l z1) (lw_m z1) (zc32.1 _ _) hI em).trans (lC_2 (zc32.1 _ _) (by rw [← hk]; exact m103) rk rb (zc68.1 _ _) (zc68.2.1 _ _) (zc68.2.2.1 _ _ 0) hv)), p2, z2⟩
theorem lw_3 {c L : Nat} {xs : Nat → Int32} {h : zH} {X D : zD} {I : Int} {x6 x7 x8 : Option Value} (p : Inv c h X D) (hc : c < 600) (z : zINV L xs (zV (zU h X) D)) (hI : 0 ≤ I ∧ I + 6 ≤ (L : Int) ∧ (L : Int) ≤ 3072) : lwT L xs c I (zx 219 456 [some (.ref 0), some (.ref 3), some (.ref 32), some (.ref 68), some (.ref 69), some (.int (Int32.ofInt I)), x6, x7, x8] [] (zV (zU h X) D)) := by
  have hn : 70 ≤ zn (zV (zU h X) D) := p.2.2.2.2.2.1.1
  obtain ⟨k, b, h1, h2, X2, D1, D2, ew, em, hk, ⟨rk, rb⟩, hv, p2, -⟩ := q3 p hc (lw_r (xs (I + 1).toNat)) (lw_r (xs (I + 2).toNat))
  obtain ⟨z1, n1⟩ := lw_I z hn ew rfl
  obtain ⟨z2, n2⟩ := lw_I z1 n1 em rfl
  exact ⟨_, _, _, _, _, _, (lA_3 (lw_l z) (lw_m z) hI ew).trans ((lB_3 (lw_l z1) (lw_m z1) (zc32.1 _ _) hI em).trans (lC_3 (zc32.1 _ _) (by rw [← hk]; exact m103) rk rb (zc68.1 _ _) (zc68.2.1 _ _) (zc68.2.2.1 _ _ 0) hv)), p2, z2⟩
theorem lw_4 {c L : Nat} {xs : Nat → Int32} {h : zH} {X D : zD} {I : Int} {x6 x7 x8 : Option Value} (p : Inv c h X D) (hc : c < 600) (z : zINV L xs (zV (zU h X) D)) (hI : 0 ≤ I ∧ I + 6 ≤ (L : Int) ∧ (L : Int) ≤ 3072) : lwT L xs c I (zx 219 524 [some (.ref 0), some (.ref 3), some (.ref 32), some (.ref 68), some (.ref 69), some (.int (Int32.ofInt I)), x6, x7, x8] [] (zV (zU h X) D)) := by
  have hn : 70 ≤ zn (zV (zU h X) D) := p.2.2.2.2.2.1.1
  obtain ⟨md, ec, hmd⟩ := lw_ch (Int32.ofInt (xs (I + 3).toNat).toInt)
  obtain ⟨k, b, h1, h2, X2, D1, D2, ew, em, hk, ⟨rk, rb⟩, hv, p2, -⟩ := q4 p hc (lw_r (xs (I + 1).toNat)) (lw_r (xs (I + 2).toNat)) hmd (lw_r (xs (I + 4).toNat))
  obtain ⟨z1, n1⟩ := lw_I z hn ew rfl
  obtain ⟨z2, n2⟩ := lw_I z1 n1 em rfl
  exact ⟨_, _, _, _, _, _, (lA_4 (lw_l z) (lw_m z) hI ec ew).trans ((lB_4 (lw_l z1) (lw_m z1) (zc32.1 _ _) hI ec em).trans (lC_4 (zc32.1 _ _) (by rw [← hk]; exact m103) rk rb (zc68.1 _ _) (zc68.2.1 _ _) (zc68.2.2.1 _ _ 0) hv)), p2, z2⟩
theorem lw_5 {c L : Nat} {xs : Nat → Int32} {h : zH} {X D : zD} {I : Int} {x6 x7 x8 : Option Value} (p : Inv c h X D) (hc : c < 600) (z : zINV L xs (zV (zU h X) D)) (hI : 0 ≤ I ∧ I + 6 ≤ (L : Int) ∧ (L : Int) ≤ 3072) : lwT L xs c I (zx 219 618 [some (.ref 0), some (.ref 3), some (.ref 32), some (.ref 68), some (.ref 69), some (.int (Int32.ofInt I)), x6, x7, x8] [] (zV (zU h X) D)) := by
  have hn : 70 ≤ zn (zV (zU h X) D) := p.2.2.2.2.2.1.1
  obtain ⟨k, b, h1, h2, X2, D1, D2, ew, em, hk, ⟨rk, rb⟩, hv, p2, -⟩ := q5 p hc (lw_r (xs (I + 1).toNat))
  obtain ⟨z1, n1⟩ := lw_I z hn ew rfl
  obtain ⟨z2, n2⟩ := lw_I z1 n1 em rfl
  exact ⟨_, _, _, _, _, _, (lA_5 (lw_l z) (lw_m z) hI ew).trans ((lB_5 (lw_l z1) (lw_m z1) (zc32.1 _ _) hI em).trans (lC_5 (zc32.1 _ _) (by rw [← hk]; exact m103) rk rb (zc68.1 _ _) (zc68.2.1 _ _) (zc68.2.2.1 _ _ 0) hv)), p2, z2⟩
theorem lw_6 {c L : Nat} {xs : Nat → Int32} {h : zH} {X D : zD} {I : Int} {x6 x7 x8 : Option Value} (p : Inv c h X D) (hc : c < 600) (z : zINV L xs (zV (zU h X) D)) (hI : 0 ≤ I ∧ I + 6 ≤ (L : Int) ∧ (L : Int) ≤ 3072) : lwT L xs c I (zx 219 674 [some (.ref 0), some (.ref 3), some (.ref 32), some (.ref 68), some (.ref 69), some (.int (Int32.ofInt I)), x6, x7, x8] [] (zV (zU h X) D)) := by
  have hn : 70 ≤ zn (zV (zU h X) D) := p.2.2.2.2.2.1.1
  obtain ⟨k, b, h1, h2, X2, D1, D2, ew, em, hk, ⟨rk, rb⟩, hv, p2, -⟩ := q6 p hc (lw_r (xs (I + 1).toNat)) (lw_r (xs (I + 2).toNat))
  obtain ⟨z1, n1⟩ := lw_I z hn ew rfl
  obtain ⟨z2, n2⟩ := lw_I z1 n1 em rfl
  exact ⟨_, _, _, _, _, _, (lA_6 (lw_l z) (lw_m z) hI ew).trans ((lB_6 (lw_l z1) (lw_m z1) (zc32.1 _ _) hI em).trans (lC_6 (zc32.1 _ _) (by rw [← hk]; exact m103) rk rb (zc68.1 _ _) (zc68.2.1 _ _) (zc68.2.2.1 _ _ 0) hv)), p2, z2⟩
theorem lw_7 {c L : Nat} {xs : Nat → Int32} {h : zH} {X D : zD} {I : Int} {x6 x7 x8 : Option Value} (p : Inv c h X D) (hc : c < 600) (z : zINV L xs (zV (zU h X) D)) (hI : 0 ≤ I ∧ I + 6 ≤ (L : Int) ∧ (L : Int) ≤ 3072) : lwT L xs c I (zx 219 742 [some (.ref 0), some (.ref 3), some (.ref 32), some (.ref 68), some (.ref 69), some (.int (Int32.ofInt I)), x6, x7, x8] [] (zV (zU h X) D)) := by
  have hn : 70 ≤ zn (zV (zU h X) D) := p.2.2.2.2.2.1.1
  obtain ⟨k, b, h1, h2, X2, D1, D2, ew, em, hk, ⟨rk, rb⟩, hv, p2, -⟩ := q7 p hc (lw_r (xs (I + 1).toNat)) (lw_r (xs (I + 2).toNat))
  obtain ⟨z1, n1⟩ := lw_I z hn ew rfl
  obtain ⟨z2, n2⟩ := lw_I z1 n1 em rfl
  exact ⟨_, _, _, _, _, _, (lA_7 (lw_l z) (lw_m z) hI ew).trans ((lB_7 (lw_l z1) (lw_m z1) (zc32.1 _ _) hI em).trans (lC_7 (zc32.1 _ _) (by rw [← hk]; exact m103) rk rb (zc68.1 _ _) (zc68.2.1 _ _) (zc68.2.2.1 _ _ 0) hv)), p2, z2⟩
theorem lw_8 {c L : Nat} {xs : Nat → Int32} {h : zH} {X D : zD} {I : Int} {x6 x7 x8 : Option Value} (p : Inv c h X D) (hc : c < 600) (z : zINV L xs (zV (zU h X) D)) (hI : 0 ≤ I ∧ I + 6 ≤ (L : Int) ∧ (L : Int) ≤ 3072) : lwT L xs c I (zx 219 810 [some (.ref 0), some (.ref 3), some (.ref 32), some (.ref 68), some (.ref 69), some (.int (Int32.ofInt I)), x6, x7, x8] [] (zV (zU h X) D)) := by
  have hn : 70 ≤ zn (zV (zU h X) D) := p.2.2.2.2.2.1.1
  obtain ⟨md, ec, hmd⟩ := lw_ch (Int32.ofInt (xs (I + 2).toNat).toInt)
  obtain ⟨k, b, h1, h2, X2, D1, D2, ew, em, hk, ⟨rk, rb⟩, hv, p2, -⟩ := q8 p hc (lw_r (xs (I + 1).toNat)) hmd (lw_r (xs (I + 3).toNat)) (lw_r (xs (I + 4).toNat))
  obtain ⟨z1, n1⟩ := lw_I z hn ew rfl
  obtain ⟨z2, n2⟩ := lw_I z1 n1 em rfl
  exact ⟨_, _, _, _, _, _, (lA_8 (lw_l z) (lw_m z) hI ec ew).trans ((lB_8 (lw_l z1) (lw_m z1) (zc32.1 _ _) hI ec em).trans (lC_8 (zc32.1 _ _) (by rw [← hk]; exact m103) rk rb (zc68.1 _ _) (zc68.2.1 _ _) (zc68.2.2.1 _ _ 0) hv)), p2, z2⟩
theorem lw_9 {c L : Nat} {xs : Nat → Int32} {h : zH} {X D : zD} {I : Int} {x6 x7 x8 : Option Value} (p : Inv c h X D) (hc : c < 600) (z : zINV L xs (zV (zU h X) D)) (hI : 0 ≤ I ∧ I + 6 ≤ (L : Int) ∧ (L : Int) ≤ 3072) : lwT L xs c I (zx 219 904 [some (.ref 0), some (.ref 3), some (.ref 32), some (.ref 68), some (.ref 69), some (.int (Int32.ofInt I)), x6, x7, x8] [] (zV (zU h X) D)) := by
  have hn : 70 ≤ zn (zV (zU h X) D) := p.2.2.2.2.2.1.1
  obtain ⟨k, X2, D1, D2, ew, em, p2⟩ := q9 p hc 
  obtain ⟨z1, n1⟩ := lw_I z hn ew rfl
  obtain ⟨z2, n2⟩ := lw_I z1 n1 em rfl
  exact ⟨_, _, _, _, _, _, lN_9 (zc3.1 _ _) (zc32.1 _ _) ew em, p2, z2⟩
theorem lw_10 {c L : Nat} {xs : Nat → Int32} {h : zH} {X D : zD} {I : Int} {x6 x7 x8 : Option Value} (p : Inv c h X D) (hc : c < 600) (z : zINV L xs (zV (zU h X) D)) (hI : 0 ≤ I ∧ I + 6 ≤ (L : Int) ∧ (L : Int) ≤ 3072) : lwT L xs c I (zx 219 917 [some (.ref 0), some (.ref 3), some (.ref 32), some (.ref 68), some (.ref 69), some (.int (Int32.ofInt I)), x6, x7, x8] [] (zV (zU h X) D)) := by
  have hn : 70 ≤ zn (zV (zU h X) D) := p.2.2.2.2.2.1.1
  obtain ⟨k, b, h1, h2, X2, D1, D2, ew, em, hk, ⟨rk, rb⟩, hv, p2, -⟩ := q10 p hc (lw_r (xs (I + 1).toNat))
  obtain ⟨z1, n1⟩ := lw_I z hn ew rfl
  obtain ⟨z2, n2⟩ := lw_I z1 n1 em rfl
  exact ⟨_, _, _, _, _, _, (lA_10 (lw_l z) (lw_m z) hI ew).trans ((lB_10 (lw_l z1) (lw_m z1) (zc32.1 _ _) hI em).trans (lC_10 (zc32.1 _ _) (by rw [← hk]; exact m103) rk rb (zc68.1 _ _) (zc68.2.1 _ _) (zc68.2.2.1 _ _ 0) hv)), p2, z2⟩
theorem lw_11 {c L : Nat} {xs : Nat → Int32} {h : zH} {X D : zD} {I : Int} {x6 x7 x8 : Option Value} (p : Inv c h X D) (hc : c < 600) (z : zINV L xs (zV (zU h X) D)) (hI : 0 ≤ I ∧ I + 6 ≤ (L : Int) ∧ (L : Int) ≤ 3072) : lwT L xs c I (zx 219 973 [some (.ref 0), some (.ref 3), some (.ref 32), some (.ref 68), some (.ref 69), some (.int (Int32.ofInt I)), x6, x7, x8] [] (zV (zU h X) D)) := by
  have hn : 70 ≤ zn (zV (zU h X) D) := p.2.2.2.2.2.1.1
  obtain ⟨k, b, h1, h2, X2, D1, D2, ew, em, hk, ⟨rk, rb⟩, hv, p2, -⟩ := q11 p hc (lw_r (xs (I + 1).toNat))
  obtain ⟨z1, n1⟩ := lw_I z hn ew rfl
  obtain ⟨z2, n2⟩ := lw_I z1 n1 em rfl
  exact ⟨_, _, _, _, _, _, (lA_11 (lw_l z) (lw_m z) hI ew).trans ((lB_11 (lw_l z1) (lw_m z1) (zc32.1 _ _) hI em).trans (lC_11 (zc32.1 _ _) (by rw [← hk]; exact m103) rk rb (zc68.1 _ _) (zc68.2.1 _ _) (zc68.2.2.1 _ _ 0) hv)), p2, z2⟩
theorem lw_12 {c L : Nat} {xs : Nat → Int32} {h : zH} {X D : zD} {I : Int} {x6 x7 x8 : Option Value} (p : Inv c h X D) (hc : c < 600) (z : zINV L xs (zV (zU h X) D)) (hI : 0 ≤ I ∧ I + 6 ≤ (L : Int) ∧ (L : Int) ≤ 3072) : lwT L xs c I (zx 219 1029 [some (.ref 0), some (.ref 3), some (.ref 32), some (.ref 68), some (.ref 69), some (.int (Int32.ofInt I)), x6, x7, x8] [] (zV (zU h X) D)) := by
  have hn : 70 ≤ zn (zV (zU h X) D) := p.2.2.2.2.2.1.1
  obtain ⟨k, b, h1, h2, X2, D1, D2, ew, em, hk, ⟨rk, rb⟩, hv, p2, -⟩ := q12 p hc (lw_r (xs (I + 1).toNat))
  obtain ⟨z1, n1⟩ := lw_I z hn ew rfl
  obtain ⟨z2, n2⟩ := lw_I z1 n1 em rfl
  exact ⟨_, _, _, _, _, _, (lA_12 (lw_l z) (lw_m z) hI ew).trans ((lB_12 (lw_l z1) (lw_m z1) (zc32.1 _ _) hI em).trans (lC_12 (zc32.1 _ _) (by rw [← hk]; exact m103) rk rb (zc68.1 _ _) (zc68.2.1 _ _) (zc68.2.2.1 _ _ 0) hv)), p2, z2⟩
theorem lw_13 {c L : Nat} {xs : Nat → Int32} {h : zH} {X D : zD} {I : Int} {x6 x7 x8 : Option Value} (p : Inv c h X D) (hc : c < 600) (z : zINV L xs (zV (zU h X) D)) (hI : 0 ≤ I ∧ I + 6 ≤ (L : Int) ∧ (L : Int) ≤ 3072) : lwT L xs c I (zx 219 1085 [some (.ref 0), some (.ref 3), some (.ref 32), some (.ref 68), some (.ref 69), some (.int (Int32.ofInt I)), x6, x7, x8] [] (zV (zU h X) D)) := by
  have hn : 70 ≤ zn (zV (zU h X) D) := p.2.2.2.2.2.1.1
  obtain ⟨k, b, h1, h2, X2, D1, D2, ew, em, hk, ⟨rk, rb⟩, hv, p2, -⟩ := q13 p hc (lw_r (xs (I + 1).toNat))
  obtain ⟨z1, n1⟩ := lw_I z hn ew rfl
  obtain ⟨z2, n2⟩ := lw_I z1 n1 em rfl
  exact ⟨_, _, _, _, _, _, (lA_13 (lw_l z) (lw_m z) hI ew).trans ((lB_13 (lw_l z1) (lw_m z1) (zc32.1 _ _) hI em).trans (lC_13 (zc32.1 _ _) (by rw [← hk]; exact m103) rk rb (zc68.1 _ _) (zc68.2.1 _ _) (zc68.2.2.1 _ _ 0) hv)), p2, z2⟩
theorem lw_14 {c L : Nat} {xs : Nat → Int32} {h : zH} {X D : zD} {I : Int} {x6 x7 x8 : Option Value} (p : Inv c h X D) (hc : c < 600) (z : zINV L xs (zV (zU h X) D)) (hI : 0 ≤ I ∧ I + 6 ≤ (L : Int) ∧ (L : Int) ≤ 3072) : lwT L xs c I (zx 219 1141 [some (.ref 0), some (.ref 3), some (.ref 32), some (.ref 68), some (.ref 69), some (.int (Int32.ofInt I)), x6, x7, x8] [] (zV (zU h X) D)) := by
  have hn : 70 ≤ zn (zV (zU h X) D) := p.2.2.2.2.2.1.1
  obtain ⟨k, X2, D1, D2, ew, em, p2⟩ := q14 p hc 
  obtain ⟨z1, n1⟩ := lw_I z hn ew rfl
  obtain ⟨z2, n2⟩ := lw_I z1 n1 em rfl
  exact ⟨_, _, _, _, _, _, lN_14 (zc3.1 _ _) (zc32.1 _ _) ew em, p2, z2⟩
theorem lw_15 {c L : Nat} {xs : Nat → Int32} {h : zH} {X D : zD} {I : Int} {x6 x7 x8 : Option Value} (p : Inv c h X D) (hc : c < 600) (z : zINV L xs (zV (zU h X) D)) (hI : 0 ≤ I ∧ I + 6 ≤ (L : Int) ∧ (L : Int) ≤ 3072) : lwT L xs c I (zx 219 1154 [some (.ref 0), some (.ref 3), some (.ref 32), some (.ref 68), some (.ref 69), some (.int (Int32.ofInt I)), x6, x7, x8] [] (zV (zU h X) D)) := by
  have hn : 70 ≤ zn (zV (zU h X) D) := p.2.2.2.2.2.1.1
  obtain ⟨k, b, h1, h2, X2, D1, D2, ew, em, hk, ⟨rk, rb⟩, hv, p2, -⟩ := q15 p hc (lw_r (xs (I + 1).toNat))
  obtain ⟨z1, n1⟩ := lw_I z hn ew rfl
  obtain ⟨z2, n2⟩ := lw_I z1 n1 em rfl
  exact ⟨_, _, _, _, _, _, (lA_15 (lw_l z) (lw_m z) hI ew).trans ((lB_15 (lw_l z1) (lw_m z1) (zc32.1 _ _) hI em).trans (lC_15 (zc32.1 _ _) (by rw [← hk]; exact m103) rk rb (zc68.1 _ _) (zc68.2.1 _ _) (zc68.2.2.1 _ _ 0) hv)), p2, z2⟩
theorem lw_16 {c L : Nat} {xs : Nat → Int32} {h : zH} {X D : zD} {I : Int} {x6 x7 x8 : Option Value} (p : Inv c h X D) (hc : c < 600) (z : zINV L xs (zV (zU h X) D)) (hI : 0 ≤ I ∧ I + 6 ≤ (L : Int) ∧ (L : Int) ≤ 3072) : lwT L xs c I (zx 219 1210 [some (.ref 0), some (.ref 3), some (.ref 32), some (.ref 68), some (.ref 69), some (.int (Int32.ofInt I)), x6, x7, x8] [] (zV (zU h X) D)) := by
  have hn : 70 ≤ zn (zV (zU h X) D) := p.2.2.2.2.2.1.1
  obtain ⟨k, b, h1, h2, X2, D1, D2, ew, em, hk, ⟨rk, rb⟩, hv, p2, -⟩ := q16 p hc (lw_r (xs (I + 1).toNat))
  obtain ⟨z1, n1⟩ := lw_I z hn ew rfl
  obtain ⟨z2, n2⟩ := lw_I z1 n1 em rfl
  exact ⟨_, _, _, _, _, _, (lA_16 (lw_l z) (lw_m z) hI ew).trans ((lB_16 (lw_l z1) (lw_m z1) (zc32.1 _ _) hI em).trans (lC_16 (zc32.1 _ _) (by rw [← hk]; exact m103) rk rb (zc68.1 _ _) (zc68.2.1 _ _) (zc68.2.2.1 _ _ 0) hv)), p2, z2⟩
theorem lw_17 {c L : Nat} {xs : Nat → Int32} {h : zH} {X D : zD} {I : Int} {x6 x7 x8 : Option Value} (p : Inv c h X D) (hc : c < 600) (z : zINV L xs (zV (zU h X) D)) (hI : 0 ≤ I ∧ I + 6 ≤ (L : Int) ∧ (L : Int) ≤ 3072) : lwT L xs c I (zx 219 1266 [some (.ref 0), some (.ref 3), some (.ref 32), some (.ref 68), some (.ref 69), some (.int (Int32.ofInt I)), x6, x7, x8] [] (zV (zU h X) D)) := by
  have hn : 70 ≤ zn (zV (zU h X) D) := p.2.2.2.2.2.1.1
  obtain ⟨k, b, h1, h2, X2, D1, D2, ew, em, hk, ⟨rk, rb⟩, hv, p2, -⟩ := q17 p hc (lw_r (xs (I + 1).toNat))
  obtain ⟨z1, n1⟩ := lw_I z hn ew rfl
  obtain ⟨z2, n2⟩ := lw_I z1 n1 em rfl
  exact ⟨_, _, _, _, _, _, (lA_17 (lw_l z) (lw_m z) hI ew).trans ((lB_17 (lw_l z1) (lw_m z1) (zc32.1 _ _) hI em).trans (lC_17 (zc32.1 _ _) (by rw [← hk]; exact m103) rk rb (zc68.1 _ _) (zc68.2.1 _ _) (zc68.2.2.1 _ _ 0) hv)), p2, z2⟩
theorem lw_18 {c L : Nat} {xs : Nat → Int32} {h : zH} {X D : zD} {I : Int} {x6 x7 x8 : Option Value} (p : Inv c h X D) (hc : c < 600) (z : zINV L xs (zV (zU h X) D)) (hI : 0 ≤ I ∧ I + 6 ≤ (L : Int) ∧ (L : Int) ≤ 3072) : lwT L xs c I (zx 219 1322 [some (.ref 0), some (.ref 3), some (.ref 32), some (.ref 68), some (.ref 69), some (.int (Int32.ofInt I)), x6, x7, x8] [] (zV (zU h X) D)) := by
  have hn : 70 ≤ zn (zV (zU h X) D) := p.2.2.2.2.2.1.1
  obtain ⟨k, b, h1, h2, X2, D1, D2, ew, em, hk, ⟨rk, rb⟩, hv, p2, -⟩ := q18 p hc (lw_r (xs (I + 1).toNat))
  obtain ⟨z1, n1⟩ := lw_I z hn ew rfl
  obtain ⟨z2, n2⟩ := lw_I z1 n1 em rfl
  exact ⟨_, _, _, _, _, _, (lA_18 (lw_l z) (lw_m z) hI ew).trans ((lB_18 (lw_l z1) (lw_m z1) (zc32.1 _ _) hI em).trans (lC_18 (zc32.1 _ _) (by rw [← hk]; exact m103) rk rb (zc68.1 _ _) (zc68.2.1 _ _) (zc68.2.2.1 _ _ 0) hv)), p2, z2⟩
theorem lw_19 {c L : Nat} {xs : Nat → Int32} {h : zH} {X D : zD} {I : Int} {x6 x7 x8 : Option Value} (p : Inv c h X D) (hc : c < 600) (z : zINV L xs (zV (zU h X) D)) (hI : 0 ≤ I ∧ I + 6 ≤ (L : Int) ∧ (L : Int) ≤ 3072) : lwT L xs c I (zx 219 1378 [some (.ref 0), some (.ref 3), some (.ref 32), some (.ref 68), some (.ref 69), some (.int (Int32.ofInt I)), x6, x7, x8] [] (zV (zU h X) D)) := by
  have hn : 70 ≤ zn (zV (zU h X) D) := p.2.2.2.2.2.1.1
  obtain ⟨k, b, h1, h2, X2, D1, D2, ew, em, hk, ⟨rk, rb⟩, hv, p2, -⟩ := q19 p hc (lw_r (xs (I + 1).toNat))
  obtain ⟨z1, n1⟩ := lw_I z hn ew rfl
  obtain ⟨z2, n2⟩ := lw_I z1 n1 em rfl
  exact ⟨_, _, _, _, _, _, (lA_19 (lw_l z) (lw_m z) hI ew).trans ((lB_19 (lw_l z1) (lw_m z1) (zc32.1 _ _) hI em).trans (lC_19 (zc32.1 _ _) (by rw [← hk]; exact m103) rk rb (zc68.1 _ _) (zc68.2.1 _ _) (zc68.2.2.1 _ _ 0) hv)), p2, z2⟩
theorem lw_20 {c L : Nat} {xs : Nat → Int32} {h : zH} {X D : zD} {I : Int} {x6 x7 x8 : Option Value} (p : Inv c h X D) (hc : c < 600) (z : zINV L xs (zV (zU h X) D)) (hI : 0 ≤ I ∧ I + 6 ≤ (L : Int) ∧ (L : Int) ≤ 3072) : lwT L xs c I (zx 219 1434 [some (.ref 0), some (.ref 3), some (.ref 32), some (.ref 68), some (.ref 69), some (.int (Int32.ofInt I)), x6, x7, x8] [] (zV (zU h X) D)) := by
  have hn : 70 ≤ zn (zV (zU h X) D) := p.2.2.2.2.2.1.1
  obtain ⟨k, X2, D1, D2, ew, em, p2⟩ := q20 p hc 
  obtain ⟨z1, n1⟩ := lw_I z hn ew rfl
  obtain ⟨z2, n2⟩ := lw_I z1 n1 em rfl
  exact ⟨_, _, _, _, _, _, lN_20 (zc3.1 _ _) (zc32.1 _ _) ew em, p2, z2⟩
theorem lw_21 {c L : Nat} {xs : Nat → Int32} {h : zH} {X D : zD} {I : Int} {x6 x7 x8 : Option Value} (p : Inv c h X D) (hc : c < 600) (z : zINV L xs (zV (zU h X) D)) (hI : 0 ≤ I ∧ I + 6 ≤ (L : Int) ∧ (L : Int) ≤ 3072) : lwT L xs c I (zx 219 1447 [some (.ref 0), some (.ref 3), some (.ref 32), some (.ref 68), some (.ref 69), some (.int (Int32.ofInt I)), x6, x7, x8] [] (zV (zU h X) D)) := by
  have hn : 70 ≤ zn (zV (zU h X) D) := p.2.2.2.2.2.1.1
  obtain ⟨k, b, h1, h2, X2, D1, D2, ew, em, hk, ⟨rk, rb⟩, hv, p2, -⟩ := q21 p hc (lw_r (xs (I + 1).toNat))
  obtain ⟨z1, n1⟩ := lw_I z hn ew rfl
  obtain ⟨z2, n2⟩ := lw_I z1 n1 em rfl
  exact ⟨_, _, _, _, _, _, (lA_21 (lw_l z) (lw_m z) hI ew).trans ((lB_21 (lw_l z1) (lw_m z1) (zc32.1 _ _) hI em).trans (lC_21 (zc32.1 _ _) (by rw [← hk]; exact m103) rk rb (zc68.1 _ _) (zc68.2.1 _ _) (zc68.2.2.1 _ _ 0) hv)), p2, z2⟩
theorem lw_22 {c L : Nat} {xs : Nat → Int32} {h : zH} {X D : zD} {I : Int} {x6 x7 x8 : Option Value} (p : Inv c h X D) (hc : c < 600) (z : zINV L xs (zV (zU h X) D)) (hI : 0 ≤ I ∧ I + 6 ≤ (L : Int) ∧ (L : Int) ≤ 3072) : lwT L xs c I (zx 219 1503 [some (.ref 0), some (.ref 3), some (.ref 32), some (.ref 68), some (.ref 69), some (.int (Int32.ofInt I)), x6, x7, x8] [] (zV (zU h X) D)) := by
  have hn : 70 ≤ zn (zV (zU h X) D) := p.2.2.2.2.2.1.1
  obtain ⟨k, b, h1, h2, X2, D1, D2, ew, em, hk, ⟨rk, rb⟩, hv, p2, -⟩ := q22 p hc (lw_r (xs (I + 1).toNat)) (lw_r (xs (I + 2).toNat))
  obtain ⟨z1, n1⟩ := lw_I z hn ew rfl
  obtain ⟨z2, n2⟩ := lw_I z1 n1 em rfl
  exact ⟨_, _, _, _, _, _, (lA_22 (lw_l z) (lw_m z) hI ew).trans ((lB_22 (lw_l z1) (lw_m z1) (zc32.1 _ _) hI em).trans (lC_22 (zc32.1 _ _) (by rw [← hk]; exact m103) rk rb (zc68.1 _ _) (zc68.2.1 _ _) (zc68.2.2.1 _ _ 0) hv)), p2, z2⟩
theorem lw_23 {c L : Nat} {xs : Nat → Int32} {h : zH} {X D : zD} {I : Int} {x6 x7 x8 : Option Value} (p : Inv c h X D) (hc : c < 600) (z : zINV L xs (zV (zU h X) D)) (hI : 0 ≤ I ∧ I + 6 ≤ (L : Int) ∧ (L : Int) ≤ 3072) : lwT L xs c I (zx 219 1571 [some (.ref 0), some (.ref 3), some (.ref 32), some (.ref 68), some (.ref 69), some (.int (Int32.ofInt I)), x6, x7, x8] [] (zV (zU h X) D)) := by
  have hn : 70 ≤ zn (zV (zU h X) D) := p.2.2.2.2.2.1.1
  obtain ⟨k, b, h2, X2, D1, D2, ew, em, hk, rk, hv, p2, -⟩ := q23 p hc 
  obtain ⟨z1, n1⟩ := lw_I z hn ew rfl
  obtain ⟨z2, n2⟩ := lw_I z1 n1 em rfl
  exact ⟨_, _, _, _, _, _, (lA_23 (lw_l z) (lw_m z) hI ew).trans ((lB_23 (lw_l z1) (lw_m z1) (zc32.1 _ _) hI em).trans (lC_23 (zc32.1 _ _) (by rw [← hk]; exact m103) rk (zc69.1 _ _) (zc69.2.1 _ _) (zc69.2.2.1 _ _ 0) hv)), p2, z2⟩
theorem lw_24 {c L : Nat} {xs : Nat → Int32} {h : zH} {X D : zD} {I : Int} {x6 x7 x8 : Option Value} (p : Inv c h X D) (hc : c < 600) (z : zINV L xs (zV (zU h X) D)) (hI : 0 ≤ I ∧ I + 6 ≤ (L : Int) ∧ (L : Int) ≤ 3072) : lwT L xs c I (zx 219 1637 [some (.ref 0), some (.ref 3), some (.ref 32), some (.ref 68), some (.ref 69), some (.int (Int32.ofInt I)), x6, x7, x8] [] (zV (zU h X) D)) := by
  have hn : 70 ≤ zn (zV (zU h X) D) := p.2.2.2.2.2.1.1
  obtain ⟨k, b, h1, h2, X2, D1, D2, ew, em, hk, ⟨rk, rb⟩, hv, p2, -⟩ := q24 p hc 
  obtain ⟨z1, n1⟩ := lw_I z hn ew rfl
  obtain ⟨z2, n2⟩ := lw_I z1 n1 em rfl
  exact ⟨_, _, _, _, _, _, (lA_24 (lw_l z) (lw_m z) hI ew).trans ((lB_24 (lw_l z1) (lw_m z1) (zc32.1 _ _) hI em).trans (lC_24 (zc32.1 _ _) (by rw [← hk]; exact m103) rk rb (zc68.1 _ _) (zc68.2.1 _ _) (zc68.2.2.1 _ _ 0) hv)), p2, z2⟩
theorem lw_25 {c L : Nat} {xs : Nat → Int32} {h : zH} {X D : zD} {I : Int} {x6 x7 x8 : Option Value} (p : Inv c h X D) (hc : c < 600) (z : zINV L xs (zV (zU h X) D)) (hI : 0 ≤ I ∧ I + 6 ≤ (L : Int) ∧ (L : Int) ≤ 3072) : lwT L xs c I (zx 219 1681 [some (.ref 0), some (.ref 3), some (.ref 32), some (.ref 68), some (.ref 69), some (.int (Int32.ofInt I)), x6, x7, x8] [] (zV (zU h X) D)) := by
  have hn : 70 ≤ zn (zV (zU h X) D) := p.2.2.2.2.2.1.1
  obtain ⟨k, b, h1, h2, X2, D1, D2, ew, em, hk, ⟨rk, rb⟩, hv, p2, -⟩ := q25 p hc (lw_r (xs (I + 1).toNat)) (lw_r (xs (I + 2).toNat))
  obtain ⟨z1, n1⟩ := lw_I z hn ew rfl
  obtain ⟨z2, n2⟩ := lw_I z1 n1 em rfl
  exact ⟨_, _, _, _, _, _, (lA_25 (lw_l z) (lw_m z) hI ew).trans ((lB_25 (lw_l z1) (lw_m z1) (zc32.1 _ _) hI em).trans (lC_25 (zc32.1 _ _) (by rw [← hk]; exact m103) rk rb (zc68.1 _ _) (zc68.2.1 _ _) (zc68.2.2.1 _ _ 0) hv)), p2, z2⟩
theorem lw_26 {c L : Nat} {xs : Nat → Int32} {h : zH} {X D : zD} {I : Int} {x6 x7 x8 : Option Value} (p : Inv c h X D) (hc : c < 600) (z : zINV L xs (zV (zU h X) D)) (hI : 0 ≤ I ∧ I + 6 ≤ (L : Int) ∧ (L : Int) ≤ 3072) : lwT L xs c I (zx 219 1749 [some (.ref 0), some (.ref 3), some (.ref 32), some (.ref 68), some (.ref 69), some (.int (Int32.ofInt I)), x6, x7, x8] [] (zV (zU h X) D)) := by
  have hn : 70 ≤ zn (zV (zU h X) D) := p.2.2.2.2.2.1.1
  obtain ⟨k, b, h1, h2, X2, D1, D2, ew, em, hk, ⟨rk, rb⟩, hv, p2, -⟩ := q26 p hc (lw_r (xs (I + 1).toNat)) (lw_r (xs (I + 2).toNat))
  obtain ⟨z1, n1⟩ := lw_I z hn ew rfl
  obtain ⟨z2, n2⟩ := lw_I z1 n1 em rfl
  exact ⟨_, _, _, _, _, _, (lA_26 (lw_l z) (lw_m z) hI ew).trans ((lB_26 (lw_l z1) (lw_m z1) (zc32.1 _ _) hI em).trans (lC_26 (zc32.1 _ _) (by rw [← hk]; exact m103) rk rb (zc68.1 _ _) (zc68.2.1 _ _) (zc68.2.2.1 _ _ 0) hv)), p2, z2⟩
theorem lw_27 {c L : Nat} {xs : Nat → Int32} {h : zH} {X D : zD} {I : Int} {x6 x7 x8 : Option Value} (p : Inv c h X D) (hc : c < 600) (z : zINV L xs (zV (zU h X) D)) (hI : 0 ≤ I ∧ I + 6 ≤ (L : Int) ∧ (L : Int) ≤ 3072) : lwT L xs c I (zx 219 1817 [some (.ref 0), some (.ref 3), some (.ref 32), some (.ref 68), some (.ref 69), some (.int (Int32.ofInt I)), x6, x7, x8] [] (zV (zU h X) D)) := by
  have hn : 70 ≤ zn (zV (zU h X) D) := p.2.2.2.2.2.1.1
  obtain ⟨k, b, h1, h2, X2, D1, D2, ew, em, hk, ⟨rk, rb⟩, hv, p2, -⟩ := q27 p hc (lw_r (xs (I + 1).toNat)) (lw_r (xs (I + 2).toNat)) (lw_r (xs (I + 3).toNat))
  obtain ⟨z1, n1⟩ := lw_I z hn ew rfl
  obtain ⟨z2, n2⟩ := lw_I z1 n1 em rfl
  exact ⟨_, _, _, _, _, _, (lA_27 (lw_l z) (lw_m z) hI ew).trans ((lB_27 (lw_l z1) (lw_m z1) (zc32.1 _ _) hI em).trans (lC_27 (zc32.1 _ _) (by rw [← hk]; exact m103) rk rb (zc68.1 _ _) (zc68.2.1 _ _) (zc68.2.2.1 _ _ 0) hv)), p2, z2⟩
theorem lw_28 {c L : Nat} {xs : Nat → Int32} {h : zH} {X D : zD} {I : Int} {x6 x7 x8 : Option Value} (p : Inv c h X D) (hc : c < 600) (z : zINV L xs (zV (zU h X) D)) (hI : 0 ≤ I ∧ I + 6 ≤ (L : Int) ∧ (L : Int) ≤ 3072) : lwT L xs c I (zx 219 1897 [some (.ref 0), some (.ref 3), some (.ref 32), some (.ref 68), some (.ref 69), some (.int (Int32.ofInt I)), x6, x7, x8] [] (zV (zU h X) D)) := by
  have hn : 70 ≤ zn (zV (zU h X) D) := p.2.2.2.2.2.1.1
  obtain ⟨k, b, h2, X2, D1, D2, ew, em, hk, rk, hv, p2, -⟩ := q28 p hc (lw_r (xs (I + 1).toNat)) (lw_r (xs (I + 2).toNat))
  obtain ⟨z1, n1⟩ := lw_I z hn ew rfl
  obtain ⟨z2, n2⟩ := lw_I z1 n1 em rfl
  exact ⟨_, _, _, _, _, _, (lA_28 (lw_l z) (lw_m z) hI ew).trans ((lB_28 (lw_l z1) (lw_m z1) (zc32.1 _ _) hI em).trans (lC_28 (zc32.1 _ _) (by rw [← hk]; exact m103) rk (zc69.1 _ _) (zc69.2.1 _ _) (zc69.2.2.1 _ _ 0) hv)), p2, z2⟩
theorem lw_29 {c L : Nat} {xs : Nat → Int32} {h : zH} {X D : zD} {I : Int} {x6 x7 x8 : Option Value} (p : Inv c h X D) (hc : c < 600) (z : zINV L xs (zV (zU h X) D)) (hI : 0 ≤ I ∧ I + 6 ≤ (L : Int) ∧ (L : Int) ≤ 3072) : lwT L xs c I (zx 219 1987 [some (.ref 0), some (.ref 3), some (.ref 32), some (.ref 68), some (.ref 69), some (.int (Int32.ofInt I)), x6, x7, x8] [] (zV (zU h X) D)) := by
  have hn : 70 ≤ zn (zV (zU h X) D) := p.2.2.2.2.2.1.1
  obtain ⟨k, b, h1, h2, X2, D1, D2, ew, em, hk, ⟨rk, rb⟩, hv, p2, -⟩ := q29 p hc 
  obtain ⟨z1, n1⟩ := lw_I z hn ew rfl
  obtain ⟨z2, n2⟩ := lw_I z1 n1 em rfl
  exact ⟨_, _, _, _, _, _, (lA_29 (lw_l z) (lw_m z) hI ew).trans ((lB_29 (lw_l z1) (lw_m z1) (zc32.1 _ _) hI em).trans (lC_29 (zc32.1 _ _) (by rw [← hk]; exact m103) rk rb (zc68.1 _ _) (zc68.2.1 _ _) (zc68.2.2.1 _ _ 0) hv)), p2, z2⟩
theorem lw_30 {c L : Nat} {xs : Nat → Int32} {h : zH} {X D : zD} {I : Int} {x6 x7 x8 : Option Value} (p : Inv c h X D) (hc : c < 600) (z : zINV L xs (zV (zU h X) D)) (hI : 0 ≤ I ∧ I + 6 ≤ (L : Int) ∧ (L : Int) ≤ 3072) : lwT L xs c I (zx 219 2031 [some (.ref 0), some (.ref 3), some (.ref 32), some (.ref 68), some (.ref 69), some (.int (Int32.ofInt I)), x6, x7, x8] [] (zV (zU h X) D)) := by
  have hn : 70 ≤ zn (zV (zU h X) D) := p.2.2.2.2.2.1.1
  obtain ⟨k, X2, D1, D2, ew, em, p2⟩ := q30 p hc 
  obtain ⟨z1, n1⟩ := lw_I z hn ew rfl
  obtain ⟨z2, n2⟩ := lw_I z1 n1 em rfl
  exact ⟨_, _, _, _, _, _, lN_30 (zc3.1 _ _) (zc32.1 _ _) ew em, p2, z2⟩
theorem lw_31 {c L : Nat} {xs : Nat → Int32} {h : zH} {X D : zD} {I : Int} {x6 x7 x8 : Option Value} (p : Inv c h X D) (hc : c < 600) (z : zINV L xs (zV (zU h X) D)) (hI : 0 ≤ I ∧ I + 6 ≤ (L : Int) ∧ (L : Int) ≤ 3072) : lwT L xs c I (zx 219 2044 [some (.ref 0), some (.ref 3), some (.ref 32), some (.ref 68), some (.ref 69), some (.int (Int32.ofInt I)), x6, x7, x8] [] (zV (zU h X) D)) := by
  have hn : 70 ≤ zn (zV (zU h X) D) := p.2.2.2.2.2.1.1
  obtain ⟨k, X2, D1, D2, ew, em, p2⟩ := q31 p hc 
  obtain ⟨z1, n1⟩ := lw_I z hn ew rfl
  obtain ⟨z2, n2⟩ := lw_I z1 n1 em rfl
  exact ⟨_, _, _, _, _, _, lN_31 (zc3.1 _ _) (zc32.1 _ _) ew em, p2, z2⟩
theorem lw_32 {c L : Nat} {xs : Nat → Int32} {h : zH} {X D : zD} {I : Int} {x6 x7 x8 : Option Value} (p : Inv c h X D) (hc : c < 600) (z : zINV L xs (zV (zU h X) D)) (hI : 0 ≤ I ∧ I + 6 ≤ (L : Int) ∧ (L : Int) ≤ 3072) : lwT L xs c I (zx 219 2057 [some (.ref 0), some (.ref 3), some (.ref 32), some (.ref 68), some (.ref 69), some (.int (Int32.ofInt I)), x6, x7, x8] [] (zV (zU h X) D)) := by
  have hn : 70 ≤ zn (zV (zU h X) D) := p.2.2.2.2.2.1.1
  obtain ⟨k, b, h1, h2, X2, D1, D2, ew, em, hk, ⟨rk, rb⟩, hv, p2, -⟩ := q32 p hc (lw_r (xs (I + 1).toNat))
  obtain ⟨z1, n1⟩ := lw_I z hn ew rfl
  obtain ⟨z2, n2⟩ := lw_I z1 n1 em rfl
  exact ⟨_, _, _, _, _, _, (lA_32 (lw_l z) (lw_m z) hI ew).trans ((lB_32 (lw_l z1) (lw_m z1) (zc32.1 _ _) hI em).trans (lC_32 (zc32.1 _ _) (by rw [← hk]; exact m103) rk rb (zc68.1 _ _) (zc68.2.1 _ _) (zc68.2.2.1 _ _ 0) hv)), p2, z2⟩
theorem lw_33 {c L : Nat} {xs : Nat → Int32} {h : zH} {X D : zD} {I : Int} {x6 x7 x8 : Option Value} (p : Inv c h X D) (hc : c < 600) (z : zINV L xs (zV (zU h X) D)) (hI : 0 ≤ I ∧ I + 6 ≤ (L : Int) ∧ (L : Int) ≤ 3072) : lwT L xs c I (zx 219 2113 [some (.ref 0), some (.ref 3), some (.ref 32), some (.ref 68), some (.ref 69), some (.int (Int32.ofInt I)), x6, x7, x8] [] (zV (zU h X) D)) := by
  have hn : 70 ≤ zn (zV (zU h X) D) := p.2.2.2.2.2.1.1
  obtain ⟨k, b, h1, h2, X2, D1, D2, ew, em, hk, ⟨rk, rb⟩, hv, p2, -⟩ := q33 p hc (lw_r (xs (I + 1).toNat))
  obtain ⟨z1, n1⟩ := lw_I z hn ew rfl
  obtain ⟨z2, n2⟩ := lw_I z1 n1 em rfl
  exact ⟨_, _, _, _, _, _, (lA_33 (lw_l z) (lw_m z) hI ew).trans ((lB_33 (lw_l z1) (lw_m z1) (zc32.1 _ _) hI em).trans (lC_33 (zc32.1 _ _) (by rw [← hk]; exact m103) rk rb (zc68.1 _ _) (zc68.2.1 _ _) (zc68.2.2.1 _ _ 0) hv)), p2, z2⟩
theorem lw_34 {c L : Nat} {xs : Nat → Int32} {h : zH} {X D : zD} {I : Int} {x6 x7 x8 : Option Value} (p : Inv c h X D) (hc : c < 600) (z : zINV L xs (zV (zU h X) D)) (hI : 0 ≤ I ∧ I + 6 ≤ (L : Int) ∧ (L : Int) ≤ 3072) : lwT L xs c I (zx 219 2169 [some (.ref 0), some (.ref 3), some (.ref 32), some (.ref 68), some (.ref 69), some (.int (Int32.ofInt I)), x6, x7, x8] [] (zV (zU h X) D)) := by
  have hn : 70 ≤ zn (zV (zU h X) D) := p.2.2.2.2.2.1.1
  obtain ⟨k, b, h1, h2, X2, D1, D2, ew, em, hk, ⟨rk, rb⟩, hv, p2, -⟩ := q34 p hc 
  obtain ⟨z1, n1⟩ := lw_I z hn ew rfl
  obtain ⟨z2, n2⟩ := lw_I z1 n1 em rfl
  exact ⟨_, _, _, _, _, _, (lA_34 (lw_l z) (lw_m z) hI ew).trans ((lB_34 (lw_l z1) (lw_m z1) (zc32.1 _ _) hI em).trans (lC_34 (zc32.1 _ _) (by rw [← hk]; exact m103) rk rb (zc68.1 _ _) (zc68.2.1 _ _) (zc68.2.2.1 _ _ 0) hv)), p2, z2⟩
theorem lw_35 {c L : Nat} {xs : Nat → Int32} {h : zH} {X D : zD} {I : Int} {x6 x7 x8 : Option Value} (p : Inv c h X D) (hc : c < 600) (z : zINV L xs (zV (zU h X) D)) (hI : 0 ≤ I ∧ I + 6 ≤ (L : Int) ∧ (L : Int) ≤ 3072) : lwT L xs c I (zx 219 2213 [some (.ref 0), some (.ref 3), some (.ref 32), some (.ref 68), some (.ref 69), some (.int (Int32.ofInt I)), x6, x7, x8] [] (zV (zU h X) D)) := by
  have hn : 70 ≤ zn (zV (zU h X) D) := p.2.2.2.2.2.1.1
  obtain ⟨k, b, h2, D1, D2, ew, em, hk, rk, hv, p2, -⟩ := q35 p hc (lw_r (xs (I + 1).toNat))
  obtain ⟨z1, n1⟩ := lw_I z hn ew rfl
  obtain ⟨z2, n2⟩ := lw_I z1 n1 em rfl
  exact ⟨_, _, _, _, _, _, (lA_35 (lw_l z) (lw_m z) hI ew).trans ((lB_35 (lw_l z1) (lw_m z1) (zc32.1 _ _) hI em).trans (lC_35 (zc32.1 _ _) (by rw [← hk]; exact m103) rk (zc68.1 _ _) (zc68.2.1 _ _) (zc68.2.2.1 _ _ 0) hv)), p2, z2⟩
